-- X9_within
def wp_X9_within (v0 v1 v2 : Int) (post : Int → Prop) : Prop := (rg v0 ∧ rg v1 ∧ (v0 < v1 → (post 0)) ∧ (¬ v0 < v1 → (rg v0 ∧ rg v2 ∧ (v2 < v0 → (post 0)) ∧ (¬ v2 < v0 → (post 1)))))
-- X9_begins
def wp_X9_begins_2 (post : St → Prop) : Nat → Int → Int → St → Prop
  | 0, _, _, _ => False
  | fu + 1, v1, v2, σ => (rg v2 ∧ (91 ≤ v2 → (∀ σ1 : St, σ1 = up σ 1 0 v1 → (∀ σ2 : St, σ2 = up σ1 1 2 (-1) → (∀ σ3 : St, σ3 = up σ2 1 3 (-1) → (∀ σ4 : St, σ4 = up σ3 1 4 1 → (post σ4)))))) ∧ (¬ 91 ≤ v2 → (0 ≤ v2 ∧ v2 < 91 ∧ ∀ σ5 : St, σ5 = up σ 1 v2 0 → (wp_X9_begins_2 post fu v1 (v2 + 1) σ5))))
def wp_X9_begins (σ : St) (v1 : Int) (post : St → Prop) : Prop := (∃ n : Nat, wp_X9_begins_2 post n v1 0 σ)
-- X9_becomes
def wp_X9_becomes (σ : St) (v1 v2 : Int) (post : Int → St → Prop) : Prop := (0 ≤ v1 ∧ v1 < 91 ∧ (0 ≤ v1 ∧ v1 < 91 ∧ ∀ σ1 : St, σ1 = up σ 1 v1 v2 → (post (σ 1 v1) σ1)))
-- X9_bells
def wp_X9_bells (σ : St) (v1 : Int) (post : Int → St → Prop) : Prop := (wp_X9_within v1 4 8 (fun r1 => (rg r1 ∧ (¬ r1 = 0 → (wp_X9_begins σ v1 (fun σ2 => (post (σ 1 0) σ2)))) ∧ (r1 = 0 → (post (-2) σ)))))
-- X9_areKept
def wp_X9_areKept (σ : St) (v1 : Int) (post : Int → Prop) : Prop := (wp_X9_within v1 0 ((bsl 1 (σ 1 0)) - 1) (fun r1 => ((r1 = 0 ∨ r1 = 1) ∧ post r1)))
-- X9_isGood
def wp_X9_isGood_2 (post : Int → Prop) : Nat → Int → Int → St → Prop
  | 0, _, _, _ => False
  | fu + 1, v1, v2, σ => (rg v2 ∧ rg (σ 1 0) ∧ ((σ 1 0) ≤ v2 → (post 1)) ∧ (¬ (σ 1 0) ≤ v2 → (rg (bnd (bsr v1 v2) 1) ∧ (¬ (bnd (bsr v1 v2) 1) = 1 → (rg (v2 + 1) ∧ rg (σ 1 0) ∧ ((σ 1 0) ≤ (v2 + 1) → (post 0)) ∧ (¬ (σ 1 0) ≤ (v2 + 1) → (rg (bnd (bsr v1 (v2 + 1)) 1) ∧ (¬ (bnd (bsr v1 (v2 + 1)) 1) = 0 → (post 0)) ∧ ((bnd (bsr v1 (v2 + 1)) 1) = 0 → (wp_X9_isGood_2 post fu v1 (v2 + 2) σ)))))) ∧ ((bnd (bsr v1 v2) 1) = 1 → (wp_X9_isGood_2 post fu v1 (v2 + 1) σ)))))
def wp_X9_isGood (σ : St) (v1 : Int) (post : Int → Prop) : Prop := (∃ n : Nat, wp_X9_isGood_2 post n v1 0 σ)
-- X9_change
def wp_X9_change (σ : St) (v1 : Int) (post : Int → St → Prop) : Prop := (wp_X9_areKept σ v1 (fun r1 => (rg r1 ∧ (¬ r1 = 0 → (wp_X9_isGood σ v1 (fun r2 => (rg r2 ∧ (¬ r2 = 0 → (rg (σ 1 1) ∧ (¬ (σ 1 1) = 16 → (0 ≤ (8 + (σ 1 1)) ∧ (8 + (σ 1 1)) < 91 ∧ ∀ σ3 : St, σ3 = up σ 1 (8 + (σ 1 1)) v1 → (∀ σ4 : St, σ4 = up σ3 1 1 ((σ3 1 1) + 1) → (post ((σ3 1 1) + 1) σ4)))) ∧ ((σ 1 1) = 16 → (post (-4) σ)))) ∧ (r2 = 0 → (post (-3) σ)))))) ∧ (r1 = 0 → (post (-2) σ)))))
-- X9_calls
def wp_X9_calls_43 (post : Int → St → Prop) (v1 v2 : Int) (σ : St) : Prop := (wp_X9_becomes σ (1 + v1) v2 (fun r1 σ1 => (rg r1 ∧ (¬ r1 = (-1) → (post 1 σ1)) ∧ (r1 = (-1) → (post 0 σ1)))))
def wp_X9_calls_27 (post : Int → St → Prop) (v1 v2 : Int) (σ : St) : Prop := (rg v2 ∧ (v2 = (-1) → (wp_X9_calls_43 post v1 v2 σ)) ∧ (¬ v2 = (-1) → (wp_X9_isGood σ v2 (fun r1 => (rg r1 ∧ (¬ r1 = 0 → (wp_X9_calls_43 post v1 v2 σ)) ∧ (r1 = 0 → (post (-3) σ)))))))
def wp_X9_calls (σ : St) (v1 v2 : Int) (post : Int → St → Prop) : Prop := (wp_X9_within v1 1 2 (fun r1 => (rg r1 ∧ (¬ r1 = 0 → (rg v2 ∧ (v2 = (-1) → (wp_X9_calls_27 post v1 v2 σ)) ∧ (¬ v2 = (-1) → (wp_X9_areKept σ v2 (fun r2 => (rg r2 ∧ (¬ r2 = 0 → (wp_X9_calls_27 post v1 v2 σ)) ∧ (r2 = 0 → (post (-2) σ)))))))) ∧ (r1 = 0 → (post (-1) σ)))))
-- X9_call
def wp_X9_call (σ : St) (v1 v2 : Int) (post : Int → St → Prop) : Prop := (wp_X9_within v1 0 11 (fun r1 => (rg r1 ∧ (¬ r1 = 0 → (wp_X9_within v2 0 2 (fun r2 => (rg r2 ∧ (r2 = 0 → (post (-2) σ)) ∧ (¬ r2 = 0 → (wp_X9_becomes σ (24 + v1) v2 (fun r3 σ3 => (post r3 σ3)))))))) ∧ (r1 = 0 → (post (-1) σ)))))
-- X9_leads
def wp_X9_leads (σ : St) (v1 : Int) (post : Int → St → Prop) : Prop := (wp_X9_within v1 1 12 (fun r1 => (rg r1 ∧ (r1 = 0 → (post (-2) σ)) ∧ (¬ r1 = 0 → (wp_X9_becomes σ 4 v1 (fun r2 σ2 => (post r2 σ2)))))))
-- X9_pattern
def wp_X9_pattern (σ : St) (v1 v2 : Int) (post : Int → St → Prop) : Prop := (wp_X9_within v1 1 8 (fun r1 => (rg r1 ∧ (¬ r1 = 0 → (wp_X9_within v2 0 8 (fun r2 => (rg r2 ∧ (r2 = 0 → (post (-2) σ)) ∧ (¬ r2 = 0 → (wp_X9_becomes σ ((36 + v1) - 1) v2 (fun r3 σ3 => (post r3 σ3)))))))) ∧ (r1 = 0 → (post (-1) σ)))))
-- X9_feed
def wp_X9_feed (σ : St) (v1 : Int) (post : Int → St → Prop) : Prop := (wp_X9_within v1 0 127 (fun r1 => (rg r1 ∧ (¬ r1 = 0 → (rg (σ 0 6) ∧ (¬ (σ 0 6) = 100 → (∀ σ2 : St, σ2 = up σ 0 6 ((σ 0 6) + 1) → (0 ≤ (σ 0 6) ∧ (σ 0 6) < 100 ∧ ∀ σ3 : St, σ3 = up σ2 5 (σ 0 6) v1 → (post (σ3 0 6) σ3)))) ∧ ((σ 0 6) = 100 → (post (-4) σ)))) ∧ (r1 = 0 → (post (-2) σ)))))
-- X9_sign
def wp_X9_sign (σ : St) (post : Int → Prop) : Prop := (rg (σ 0 8) ∧ rg (σ 0 6) ∧ ((σ 0 6) ≤ (σ 0 8) → (post (-1))) ∧ (¬ (σ 0 6) ≤ (σ 0 8) → (0 ≤ (σ 0 8) ∧ (σ 0 8) < 100 ∧ (post (σ 5 (σ 0 8))))))
-- X9_wrong
def wp_X9_wrong (σ : St) (post : St → Prop) : Prop := (rg (σ 0 9) ∧ (0 ≤ (σ 0 9) → (post σ)) ∧ (¬ 0 ≤ (σ 0 9) → (∀ σ1 : St, σ1 = up σ 0 9 (σ 0 8) → (post σ1))))
-- X9_adds
def wp_X9_adds (σ : St) (v1 : Int) (post : St → Prop) : Prop := (∀ σ1 : St, σ1 = up σ 0 14 ((σ 0 14) + 1) → (0 ≤ (σ 0 14) ∧ (σ 0 14) < 100 ∧ ∀ σ2 : St, σ2 = up σ1 9 (σ 0 14) v1 → (0 ≤ (σ2 0 10) ∧ (σ2 0 10) < 10 ∧ (0 ≤ (σ2 0 10) ∧ (σ2 0 10) < 10 ∧ ∀ σ3 : St, σ3 = up σ2 8 (σ2 0 10) ((σ2 8 (σ2 0 10)) + 1) → (post σ3)))))
-- X9_digits
def wp_X9_digits_52 (post : St → Prop) (v1 v2 : Int) (σ : St) : Prop := (rg v2 ∧ (¬ v2 = 0 → (wp_X9_adds σ v1 (fun σ1 => (post σ1)))) ∧ (v2 = 0 → (wp_X9_wrong σ (fun σ2 => (post σ2)))))
def wp_X9_digits_4 (post : St → Prop) : Nat → Int → Int → St → Prop
  | 0, _, _, _ => False
  | fu + 1, v1, v2, σ => (wp_X9_sign σ (fun r1 => (wp_X9_within r1 49 56 (fun r2 => (rg r2 ∧ (r2 = 0 → (wp_X9_digits_52 post v1 v2 σ)) ∧ (¬ r2 = 0 → (rg v2 ∧ (8 ≤ v2 → (wp_X9_digits_52 post v1 v2 σ)) ∧ (¬ 8 ≤ v2 → (wp_X9_sign σ (fun r3 => (∀ σ4 : St, σ4 = up σ 0 8 ((σ 0 8) + 1) → (wp_X9_digits_4 post fu (bor v1 (bsl 1 (r3 - 49))) (v2 + 1) σ4))))))))))))
def wp_X9_digits (σ : St) (post : St → Prop) : Prop := (∃ n : Nat, wp_X9_digits_4 post n 0 0 σ)
-- X9_word
def wp_X9_word (σ : St) (post : Int → St → Prop) : Prop := (wp_X9_sign σ (fun r1 => (rg r1 ∧ (¬ r1 = 120 → (wp_X9_digits σ (fun σ2 => (post 0 σ2)))) ∧ (r1 = 120 → (∀ σ3 : St, σ3 = up σ 0 8 ((σ 0 8) + 1) → (wp_X9_adds σ3 0 (fun σ4 => (post 1 σ4))))))))
-- X9_words
def wp_X9_words_139 (k18 : Int → Int → St → Prop) (post : St → Prop) (v1 s0 : Int) (σ : St) : Prop := (k18 v1 s0 σ)
def wp_X9_words_127 (k18 : Int → Int → St → Prop) (post : St → Prop) (v1 : Int) (σ : St) : Prop := (rg (σ 0 9) ∧ (0 ≤ (σ 0 9) → (wp_X9_words_139 k18 post v1 0 σ)) ∧ (¬ 0 ≤ (σ 0 9) → (wp_X9_words_139 k18 post v1 1 σ)))
def wp_X9_words_91 (k18 : Int → Int → St → Prop) (post : St → Prop) (v3 s0 : Int) (σ : St) : Prop := (rg s0 ∧ (¬ s0 = 0 → (rg v3 ∧ (v3 = 0 → (wp_X9_word σ (fun r1 σ1 => (wp_X9_words_127 k18 post r1 σ1)))) ∧ (¬ v3 = 0 → (∀ σ2 : St, σ2 = up σ 0 8 ((σ 0 8) + 1) → (wp_X9_digits σ2 (fun σ3 => (wp_X9_words_127 k18 post 0 σ3))))))) ∧ (s0 = 0 → (post σ)))
def wp_X9_words_86 (k18 : Int → Int → St → Prop) (post : St → Prop) (v3 : Int) (σ : St) : Prop := (wp_X9_words_91 k18 post v3 1 σ)
def wp_X9_words_90 (k18 : Int → Int → St → Prop) (post : St → Prop) (v3 : Int) (σ : St) : Prop := (wp_X9_words_91 k18 post v3 0 σ)
def wp_X9_words_54 (k18 : Int → Int → St → Prop) (post : St → Prop) (v1 s0 : Int) (σ : St) : Prop := (rg s0 ∧ (¬ s0 = 0 → (wp_X9_words_86 k18 post s0 σ)) ∧ (s0 = 0 → (wp_X9_sign σ (fun r1 => (rg r1 ∧ (r1 = 120 → (wp_X9_words_86 k18 post s0 σ)) ∧ (¬ r1 = 120 → (rg v1 ∧ (v1 = 0 → (wp_X9_words_90 k18 post s0 σ)) ∧ (¬ v1 = 0 → (wp_X9_sign σ (fun r2 => (wp_X9_within r2 49 56 (fun r3 => (rg r3 ∧ (r3 = 0 → (wp_X9_words_90 k18 post s0 σ)) ∧ (¬ r3 = 0 → (wp_X9_words_86 k18 post s0 σ)))))))))))))))
def wp_X9_words_53 (k18 : Int → Int → St → Prop) (post : St → Prop) (v1 : Int) (σ : St) : Prop := (wp_X9_words_54 k18 post v1 0 σ)
def wp_X9_words_18 (post : St → Prop) : Nat → Int → Int → St → Prop
  | 0, _, _, _ => False
  | fu + 1, v1, v2, σ => (rg v2 ∧ (v2 = 0 → (post σ)) ∧ (¬ v2 = 0 → (0 ≤ (σ 0 10) ∧ (σ 0 10) < 10 ∧ (rg (σ 8 (σ 0 10)) ∧ (16 ≤ (σ 8 (σ 0 10)) → (post σ)) ∧ (¬ 16 ≤ (σ 8 (σ 0 10)) → (rg v1 ∧ (¬ v1 = 0 → (wp_X9_words_53 (wp_X9_words_18 post fu) post v1 σ)) ∧ (v1 = 0 → (wp_X9_sign σ (fun r1 => (rg r1 ∧ (¬ r1 = 46 → (wp_X9_words_53 (wp_X9_words_18 post fu) post v1 σ)) ∧ (r1 = 46 → (wp_X9_words_54 (wp_X9_words_18 post fu) post v1 1 σ))))))))))))
def wp_X9_words_17 (post : St → Prop) (v1 s0 : Int) (σ : St) : Prop := (∃ n : Nat, wp_X9_words_18 post n v1 s0 σ)
def wp_X9_words (σ : St) (post : St → Prop) : Prop := (wp_X9_word σ (fun r1 σ1 => (rg (σ1 0 9) ∧ (0 ≤ (σ1 0 9) → (wp_X9_words_17 post r1 0 σ1)) ∧ (¬ 0 ≤ (σ1 0 9) → (wp_X9_words_17 post r1 1 σ1)))))
-- X9_callOf
def wp_X9_callOf (v0 : Int) (post : Int → Prop) : Prop := (rg v0 ∧ (¬ v0 = 112 → (rg v0 ∧ (¬ v0 = 98 → (rg v0 ∧ (¬ v0 = 115 → (post (-1))) ∧ (v0 = 115 → (post 2)))) ∧ (v0 = 98 → (post 1)))) ∧ (v0 = 112 → (post 0)))
-- X9_reads
def wp_X9_reads_264 (post : St → Prop) (σ : St) : Prop := (∀ σ1 : St, σ1 = up σ 0 10 ((σ 0 10) + 1) → (post σ1))
def wp_X9_reads_241 (post : St → Prop) (σ : St) : Prop := (0 ≤ (σ 0 10) ∧ (σ 0 10) < 10 ∧ (rg (σ 8 (σ 0 10)) ∧ (¬ (σ 8 (σ 0 10)) = 0 → (wp_X9_reads_264 post σ)) ∧ ((σ 8 (σ 0 10)) = 0 → (wp_X9_wrong σ (fun σ1 => (wp_X9_reads_264 post σ1))))))
def wp_X9_reads_192 (post : St → Prop) : Nat → St → Prop
  | 0, _ => False
  | fu + 1, σ => (wp_X9_sign σ (fun r1 => (wp_X9_callOf r1 (fun r2 => (rg r2 ∧ (r2 = (-1) → (wp_X9_reads_241 post σ)) ∧ (¬ r2 = (-1) → (0 ≤ (σ 0 10) ∧ (σ 0 10) < 10 ∧ (rg (σ 8 (σ 0 10)) ∧ (12 ≤ (σ 8 (σ 0 10)) → (wp_X9_reads_241 post σ)) ∧ (¬ 12 ≤ (σ 8 (σ 0 10)) → (wp_X9_sign σ (fun r3 => (wp_X9_callOf r3 (fun r4 => (wp_X9_adds σ r4 (fun σ5 => (∀ σ6 : St, σ6 = up σ5 0 8 ((σ5 0 8) + 1) → (wp_X9_reads_192 post fu σ6)))))))))))))))))
def wp_X9_reads_134 (post : St → Prop) (σ : St) : Prop := (∀ σ1 : St, σ1 = up σ 0 8 ((σ 0 8) + 1) → (wp_X9_reads_264 post σ1))
def wp_X9_reads (σ : St) (post : St → Prop) : Prop := (wp_X9_sign σ (fun r1 => (0 ≤ (σ 0 10) ∧ (σ 0 10) < 10 ∧ ∀ σ2 : St, σ2 = up σ 6 (σ 0 10) r1 → (0 ≤ (σ2 0 10) ∧ (σ2 0 10) < 10 ∧ ∀ σ3 : St, σ3 = up σ2 7 (σ2 0 10) (σ2 0 14) → (0 ≤ (σ3 0 10) ∧ (σ3 0 10) < 10 ∧ ∀ σ4 : St, σ4 = up σ3 8 (σ3 0 10) 0 → (wp_X9_sign σ4 (fun r5 => (rg r5 ∧ (r5 = 98 → (∀ σ6 : St, σ6 = up σ4 0 8 ((σ4 0 8) + 1) → (wp_X9_word σ6 (fun r7 σ7 => (wp_X9_reads_264 post σ7))))) ∧ (r5 = 99 → (∀ σ8 : St, σ8 = up σ4 0 8 ((σ4 0 8) + 1) → (∃ n : Nat, wp_X9_reads_192 post n σ8))) ∧ (r5 = 109 → (∀ σ9 : St, σ9 = up σ4 0 8 ((σ4 0 8) + 1) → (wp_X9_words σ9 (fun σ10 => (wp_X9_reads_264 post σ10))))) ∧ (r5 = 110 → (∀ σ11 : St, σ11 = up σ4 0 8 ((σ4 0 8) + 1) → (wp_X9_sign σ11 (fun r12 => (wp_X9_within r12 48 57 (fun r13 => (rg r13 ∧ (¬ r13 = 0 → (wp_X9_sign σ11 (fun r14 => (wp_X9_adds σ11 (r14 - 48) (fun σ15 => (wp_X9_reads_134 post σ15)))))) ∧ (r13 = 0 → (wp_X9_wrong σ11 (fun σ16 => (wp_X9_reads_134 post σ16))))))))))) ∧ (r5 = 115 → (∀ σ17 : St, σ17 = up σ4 0 8 ((σ4 0 8) + 1) → (wp_X9_word σ17 (fun r18 σ18 => (wp_X9_reads_264 post σ18))))) ∧ ((¬ r5 = 98 ∧ ¬ r5 = 99 ∧ ¬ r5 = 109 ∧ ¬ r5 = 110 ∧ ¬ r5 = 115) → (wp_X9_wrong σ4 (fun σ19 => (wp_X9_reads_264 post σ19))))))))))))
-- X9_areGood
def wp_X9_areGood_2 (post : Int → Prop) : Nat → Int → Int → St → Prop
  | 0, _, _, _ => False
  | fu + 1, v1, v2, σ => (0 ≤ v1 ∧ v1 < 10 ∧ (rg v2 ∧ rg (σ 8 v1) ∧ ((σ 8 v1) ≤ v2 → (post 1)) ∧ (¬ (σ 8 v1) ≤ v2 → (0 ≤ v1 ∧ v1 < 10 ∧ (0 ≤ ((σ 7 v1) + v2) ∧ ((σ 7 v1) + v2) < 100 ∧ (wp_X9_areKept σ (σ 9 ((σ 7 v1) + v2)) (fun r1 => (rg r1 ∧ (r1 = 0 → (post 0)) ∧ (¬ r1 = 0 → (wp_X9_isGood σ (σ 9 ((σ 7 v1) + v2)) (fun r2 => (rg r2 ∧ (¬ r2 = 0 → (wp_X9_areGood_2 post fu v1 (v2 + 1) σ)) ∧ (r2 = 0 → (post 0))))))))))))))
def wp_X9_areGood (σ : St) (v1 : Int) (post : Int → Prop) : Prop := (∃ n : Nat, wp_X9_areGood_2 post n v1 0 σ)
-- X9_does
def wp_X9_does_118 (post : Int → St → Prop) : Nat → Int → Int → St → Prop
  | 0, _, _, _ => False
  | fu + 1, v1, v3, σ => (0 ≤ v1 ∧ v1 < 10 ∧ (rg v3 ∧ rg (σ 8 v1) ∧ ((σ 8 v1) ≤ v3 → (post 1 σ)) ∧ (¬ (σ 8 v1) ≤ v3 → (0 ≤ v1 ∧ v1 < 10 ∧ (0 ≤ ((σ 7 v1) + v3) ∧ ((σ 7 v1) + v3) < 100 ∧ (0 ≤ (24 + v3) ∧ (24 + v3) < 91 ∧ ∀ σ1 : St, σ1 = up σ 1 (24 + v3) (σ 9 ((σ 7 v1) + v3)) → (wp_X9_does_118 post fu v1 (v3 + 1) σ1)))))))
def wp_X9_does_182 (post : Int → St → Prop) : Nat → Int → Int → St → Prop
  | 0, _, _, _ => False
  | fu + 1, v1, v3, σ => (0 ≤ v1 ∧ v1 < 10 ∧ (rg v3 ∧ rg (σ 8 v1) ∧ ((σ 8 v1) ≤ v3 → (post 1 σ)) ∧ (¬ (σ 8 v1) ≤ v3 → (0 ≤ v1 ∧ v1 < 10 ∧ (0 ≤ ((σ 7 v1) + v3) ∧ ((σ 7 v1) + v3) < 100 ∧ (0 ≤ (8 + v3) ∧ (8 + v3) < 91 ∧ ∀ σ1 : St, σ1 = up σ 1 (8 + v3) (σ 9 ((σ 7 v1) + v3)) → (wp_X9_does_182 post fu v1 (v3 + 1) σ1)))))))
def wp_X9_does (σ : St) (v1 : Int) (post : Int → St → Prop) : Prop := (0 ≤ v1 ∧ v1 < 10 ∧ (0 ≤ (σ 7 v1) ∧ (σ 7 v1) < 100 ∧ (0 ≤ v1 ∧ v1 < 10 ∧ (rg (σ 6 v1) ∧ ((σ 6 v1) = 98 → (wp_X9_calls σ 1 (σ 9 (σ 7 v1)) (fun r1 σ1 => (rg r1 ∧ (r1 < 0 → (post 0 σ1)) ∧ (¬ r1 < 0 → (post 1 σ1)))))) ∧ ((σ 6 v1) = 99 → (0 ≤ v1 ∧ v1 < 10 ∧ (∀ σ2 : St, σ2 = up σ 1 4 (σ 8 v1) → (∃ n : Nat, wp_X9_does_118 post n v1 0 σ2)))) ∧ ((σ 6 v1) = 110 → (wp_X9_bells σ (σ 9 (σ 7 v1)) (fun r3 σ3 => (rg r3 ∧ (r3 < 0 → (post 0 σ3)) ∧ (¬ r3 < 0 → (post 1 σ3)))))) ∧ ((σ 6 v1) = 115 → (wp_X9_calls σ 2 (σ 9 (σ 7 v1)) (fun r4 σ4 => (rg r4 ∧ (r4 < 0 → (post 0 σ4)) ∧ (¬ r4 < 0 → (post 1 σ4)))))) ∧ ((¬ (σ 6 v1) = 98 ∧ ¬ (σ 6 v1) = 99 ∧ ¬ (σ 6 v1) = 110 ∧ ¬ (σ 6 v1) = 115) → (wp_X9_areGood σ v1 (fun r5 => (rg r5 ∧ (¬ r5 = 0 → (0 ≤ v1 ∧ v1 < 10 ∧ (∀ σ6 : St, σ6 = up σ 1 1 (σ 8 v1) → (∃ n : Nat, wp_X9_does_182 post n v1 0 σ6)))) ∧ (r5 = 0 → (post 0 σ))))))))))
-- X9_read
def wp_X9_read_146 (k127 : Int → Int → St → Prop) (post : Int → St → Prop) (v2 v3 : Int) (σ : St) : Prop := (k127 v2 (v3 + 1) σ)
def wp_X9_read_127 (post : Int → St → Prop) : Nat → Int → Int → St → Prop
  | 0, _, _, _ => False
  | fu + 1, v2, v3, σ => (rg v3 ∧ rg (σ 0 10) ∧ ((σ 0 10) ≤ v3 → (post v2 σ)) ∧ (¬ (σ 0 10) ≤ v3 → (wp_X9_does σ v3 (fun r1 σ1 => (rg r1 ∧ (r1 = 0 → (wp_X9_read_146 (wp_X9_read_127 post fu) post v2 v3 σ1)) ∧ (¬ r1 = 0 → (wp_X9_read_146 (wp_X9_read_127 post fu) post (v2 + 1) v3 σ1)))))))
def wp_X9_read_103 (post : Int → St → Prop) (σ : St) : Prop := (∀ σ1 : St, σ1 = up σ 0 6 0 → (rg (σ1 0 9) ∧ ((σ1 0 9) < 0 → (∃ n : Nat, wp_X9_read_127 post n 0 0 σ1)) ∧ (¬ (σ1 0 9) < 0 → (post ((-10) - (σ1 0 9)) σ1))))
def wp_X9_read_90 (k22 : Int → St → Prop) (post : Int → St → Prop) (v1 : Int) (σ : St) : Prop := (∀ σ1 : St, σ1 = up σ 0 8 ((σ 0 8) + 1) → (k22 v1 σ1))
def wp_X9_read_86 (k22 : Int → St → Prop) (post : Int → St → Prop) (v1 : Int) (σ : St) : Prop := (wp_X9_wrong σ (fun σ1 => (wp_X9_read_90 k22 post v1 σ1)))
def wp_X9_read_63 (k22 : Int → St → Prop) (post : Int → St → Prop) (s0 : Int) (σ : St) : Prop := (rg s0 ∧ (s0 = 0 → (wp_X9_read_90 k22 post s0 σ)) ∧ (¬ s0 = 0 → (wp_X9_sign σ (fun r1 => (rg r1 ∧ (¬ r1 = 59 → (wp_X9_read_86 k22 post s0 σ)) ∧ (r1 = 59 → (rg (σ 0 10) ∧ (¬ (σ 0 10) = 10 → (wp_X9_read_90 k22 post s0 σ)) ∧ ((σ 0 10) = 10 → (wp_X9_read_86 k22 post s0 σ)))))))))
def wp_X9_read_22 (post : Int → St → Prop) : Nat → Int → St → Prop
  | 0, _, _ => False
  | fu + 1, v1, σ => (rg v1 ∧ (v1 = 0 → (wp_X9_read_103 post σ)) ∧ (¬ v1 = 0 → (rg (σ 0 9) ∧ (0 ≤ (σ 0 9) → (wp_X9_read_103 post σ)) ∧ (¬ 0 ≤ (σ 0 9) → (wp_X9_reads σ (fun σ1 => (rg (σ1 0 9) ∧ ((σ1 0 9) < 0 → (rg (σ1 0 8) ∧ rg (σ1 0 6) ∧ ((σ1 0 6) ≤ (σ1 0 8) → (wp_X9_read_63 (wp_X9_read_22 post fu) post 0 σ1)) ∧ (¬ (σ1 0 6) ≤ (σ1 0 8) → (wp_X9_read_63 (wp_X9_read_22 post fu) post 1 σ1)))) ∧ (¬ (σ1 0 9) < 0 → (wp_X9_read_103 post σ1)))))))))
def wp_X9_read (σ : St) (post : Int → St → Prop) : Prop := (∀ σ1 : St, σ1 = up σ 0 8 0 → (∀ σ2 : St, σ2 = up σ1 0 9 (-1) → (∀ σ3 : St, σ3 = up σ2 0 10 0 → (∀ σ4 : St, σ4 = up σ3 0 14 0 → (∃ n : Nat, wp_X9_read_22 post n 1 σ4)))))
-- X9_keys
def wp_X9_keys_4 (post : St → Prop) : Nat → Int → Int → Int → St → Prop
  | 0, _, _, _, _ => False
  | fu + 1, v1, v2, v3, σ => (rg v3 ∧ rg (σ 1 0) ∧ ((σ 1 0) ≤ v3 → (0 ≤ v1 ∧ v1 < 193 ∧ ∀ σ1 : St, σ1 = up σ 4 v1 v2 → (post σ1))) ∧ (¬ (σ 1 0) ≤ v3 → (0 ≤ ((8 * v1) + v3) ∧ ((8 * v1) + v3) < 1544 ∧ (wp_X9_keys_4 post fu v1 (((8 * v2) + (σ 3 ((8 * v1) + v3))) - 1) (v3 + 1) σ))))
def wp_X9_keys (σ : St) (v1 : Int) (post : St → Prop) : Prop := (∃ n : Nat, wp_X9_keys_4 post n v1 0 0 σ)
-- X9_goes
def wp_X9_goes_10 (post : St → Prop) : Nat → Int → Int → Int → Int → St → Prop
  | 0, _, _, _, _, _ => False
  | fu + 1, v1, v2, v3, v4, σ => (rg v4 ∧ rg v3 ∧ (v3 ≤ v4 → (wp_X9_keys σ (v1 + 1) (fun σ1 => (post σ1)))) ∧ (¬ v3 ≤ v4 → (rg (bnd (bsr v2 v4) 1) ∧ (¬ (bnd (bsr v2 v4) 1) = 1 → (0 ≤ (((8 * v1) + v4) + 1) ∧ (((8 * v1) + v4) + 1) < 1544 ∧ (0 ≤ (((8 * v1) + 8) + v4) ∧ (((8 * v1) + 8) + v4) < 1544 ∧ ∀ σ2 : St, σ2 = up σ 3 (((8 * v1) + 8) + v4) (σ 3 (((8 * v1) + v4) + 1)) → (0 ≤ ((8 * v1) + v4) ∧ ((8 * v1) + v4) < 1544 ∧ (0 ≤ (((8 * v1) + 9) + v4) ∧ (((8 * v1) + 9) + v4) < 1544 ∧ ∀ σ3 : St, σ3 = up σ2 3 (((8 * v1) + 9) + v4) (σ2 3 ((8 * v1) + v4)) → (wp_X9_goes_10 post fu v1 v2 v3 (v4 + 2) σ3)))))) ∧ ((bnd (bsr v2 v4) 1) = 1 → (0 ≤ ((8 * v1) + v4) ∧ ((8 * v1) + v4) < 1544 ∧ (0 ≤ (((8 * v1) + 8) + v4) ∧ (((8 * v1) + 8) + v4) < 1544 ∧ ∀ σ4 : St, σ4 = up σ 3 (((8 * v1) + 8) + v4) (σ 3 ((8 * v1) + v4)) → (wp_X9_goes_10 post fu v1 v2 v3 (v4 + 1) σ4)))))))
def wp_X9_goes (σ : St) (v1 v2 : Int) (post : St → Prop) : Prop := (∃ n : Nat, wp_X9_goes_10 post n v1 v2 (σ 1 0) 0 σ)
-- X9_rings
def wp_X9_rings_123 (k53 : Int → Int → St → Prop) (post : St → Prop) (v1 v2 v3 : Int) (σ : St) : Prop := (wp_X9_goes σ v2 v3 (fun σ1 => (k53 v1 (v2 + 1) σ1)))
def wp_X9_rings_53 (post : St → Prop) : Nat → Int → Int → St → Prop
  | 0, _, _, _ => False
  | fu + 1, v1, v2, σ => (rg v2 ∧ rg (σ 0 3) ∧ ((σ 0 3) ≤ v2 → (post σ)) ∧ (¬ (σ 0 3) ≤ v2 → (rg v2 ∧ rg v1 ∧ v1 ≠ 0 ∧ (0 ≤ (8 + (v2.tmod v1)) ∧ (8 + (v2.tmod v1)) < 91 ∧ (rg v2 ∧ rg v1 ∧ v1 ≠ 0 ∧ (0 ≤ (24 + (v2.tdiv v1)) ∧ (24 + (v2.tdiv v1)) < 91 ∧ (rg v2 ∧ rg v1 ∧ v1 ≠ 0 ∧ (rg (v2.tmod v1) ∧ rg (v1 - 1) ∧ (¬ (v2.tmod v1) = (v1 - 1) → (wp_X9_rings_123 (wp_X9_rings_53 post fu) post v1 v2 (σ 1 (8 + (v2.tmod v1))) σ)) ∧ ((v2.tmod v1) = (v1 - 1) → (rg (σ 1 (24 + (v2.tdiv v1))) ∧ ((σ 1 (24 + (v2.tdiv v1))) = 0 → (wp_X9_rings_123 (wp_X9_rings_53 post fu) post v1 v2 (σ 1 (8 + (v2.tmod v1))) σ)) ∧ (¬ (σ 1 (24 + (v2.tdiv v1))) = 0 → (0 ≤ (1 + (σ 1 (24 + (v2.tdiv v1)))) ∧ (1 + (σ 1 (24 + (v2.tdiv v1)))) < 91 ∧ (rg (σ 1 (1 + (σ 1 (24 + (v2.tdiv v1))))) ∧ ((σ 1 (1 + (σ 1 (24 + (v2.tdiv v1))))) = (-1) → (wp_X9_rings_123 (wp_X9_rings_53 post fu) post v1 v2 (σ 1 (8 + (v2.tmod v1))) σ)) ∧ (¬ (σ 1 (1 + (σ 1 (24 + (v2.tdiv v1))))) = (-1) → (0 ≤ (1 + (σ 1 (24 + (v2.tdiv v1)))) ∧ (1 + (σ 1 (24 + (v2.tdiv v1)))) < 91 ∧ (wp_X9_rings_123 (wp_X9_rings_53 post fu) post v1 v2 (σ 1 (1 + (σ 1 (24 + (v2.tdiv v1))))) σ))))))))))))))))
def wp_X9_rings_2 (post : St → Prop) : Nat → Int → St → Prop
  | 0, _, _ => False
  | fu + 1, v1, σ => (rg v1 ∧ rg (σ 1 0) ∧ ((σ 1 0) ≤ v1 → (wp_X9_keys σ 0 (fun σ1 => (∀ σ2 : St, σ2 = up σ1 0 3 ((σ1 1 1) * (σ1 1 4)) → (∃ n : Nat, wp_X9_rings_53 post n (σ1 1 1) 0 σ2))))) ∧ (¬ (σ 1 0) ≤ v1 → (0 ≤ v1 ∧ v1 < 1544 ∧ ∀ σ3 : St, σ3 = up σ 3 v1 (v1 + 1) → (wp_X9_rings_2 post fu (v1 + 1) σ3))))
def wp_X9_rings (σ : St) (post : St → Prop) : Prop := (∃ n : Nat, wp_X9_rings_2 post n 0 σ)
-- X9_round
def wp_X9_round_2 (post : Int → Prop) : Nat → Int → St → Prop
  | 0, _, _ => False
  | fu + 1, v1, σ => (rg v1 ∧ rg (σ 0 3) ∧ ((σ 0 3) < v1 → (post (-5))) ∧ (¬ (σ 0 3) < v1 → (0 ≤ v1 ∧ v1 < 193 ∧ (rg (σ 4 v1) ∧ rg (σ 4 0) ∧ (¬ (σ 4 v1) = (σ 4 0) → (wp_X9_round_2 post fu (v1 + 1) σ)) ∧ ((σ 4 v1) = (σ 4 0) → (post v1))))))
def wp_X9_round (σ : St) (post : Int → Prop) : Prop := (∃ n : Nat, wp_X9_round_2 post n 1 σ)
-- X9_first
def wp_X9_first_2 (post : Int → Prop) : Nat → Int → Int → St → Prop
  | 0, _, _, _ => False
  | fu + 1, v1, v2, σ => (0 ≤ v2 ∧ v2 < 193 ∧ (0 ≤ v1 ∧ v1 < 193 ∧ (rg (σ 4 v2) ∧ rg (σ 4 v1) ∧ ((σ 4 v2) = (σ 4 v1) → (post v2)) ∧ (¬ (σ 4 v2) = (σ 4 v1) → (wp_X9_first_2 post fu v1 (v2 + 1) σ)))))
def wp_X9_first (σ : St) (v1 : Int) (post : Int → Prop) : Prop := (∃ n : Nat, wp_X9_first_2 post n v1 0 σ)
-- X9_wrongRow
def wp_X9_wrongRow_35 (k2 : Int → St → Prop) (post : Int → Prop) (v1 : Int) (σ : St) : Prop := (k2 (v1 + 1) σ)
def wp_X9_wrongRow_33 (post : Int → Prop) (v1 : Int) (σ : St) : Prop := (post v1)
def wp_X9_wrongRow_2 (post : Int → Prop) : Nat → Int → St → Prop
  | 0, _, _ => False
  | fu + 1, v1, σ => (rg v1 ∧ rg (σ 0 3) ∧ ((σ 0 3) < v1 → (post (-5))) ∧ (¬ (σ 0 3) < v1 → (wp_X9_first σ v1 (fun r1 => (rg r1 ∧ rg v1 ∧ (v1 ≤ r1 → (wp_X9_wrongRow_35 (wp_X9_wrongRow_2 post fu) post v1 σ)) ∧ (¬ v1 ≤ r1 → (rg v1 ∧ rg (σ 0 3) ∧ (v1 < (σ 0 3) → (wp_X9_wrongRow_33 post v1 σ)) ∧ (¬ v1 < (σ 0 3) → (rg r1 ∧ (r1 ≤ 0 → (wp_X9_wrongRow_35 (wp_X9_wrongRow_2 post fu) post v1 σ)) ∧ (¬ r1 ≤ 0 → (wp_X9_wrongRow_33 post v1 σ)))))))))))
def wp_X9_wrongRow (σ : St) (post : Int → Prop) : Prop := (∃ n : Nat, wp_X9_wrongRow_2 post n 1 σ)
-- X9_isTrue
def wp_X9_isTrue (σ : St) (post : Int → Prop) : Prop := (rg (σ 0 3) ∧ ((σ 0 3) ≤ 0 → (post 0)) ∧ (¬ (σ 0 3) ≤ 0 → (0 ≤ (σ 0 3) ∧ (σ 0 3) < 193 ∧ (rg (σ 4 (σ 0 3)) ∧ rg (σ 4 0) ∧ (¬ (σ 4 (σ 0 3)) = (σ 4 0) → (post 0)) ∧ ((σ 4 (σ 0 3)) = (σ 4 0) → (wp_X9_wrongRow σ (fun r1 => (rg r1 ∧ (¬ r1 = (-5) → (post 0)) ∧ (r1 = (-5) → (post 1))))))))))
-- X9_course
def wp_X9_course_116 (k57 : Int → Int → Int → Int → St → Prop) (post : Int → St → Prop) : Nat → Int → Int → Int → Int → Int → St → Prop
  | 0, _, _, _, _, _, _ => False
  | fu + 1, v1, v2, v3, v4, v5, σ => (rg v5 ∧ rg (σ 1 0) ∧ ((σ 1 0) ≤ v5 → (k57 v1 v2 v3 v4 σ)) ∧ (¬ (σ 1 0) ≤ v5 → (0 ≤ ((8 * v1) + v5) ∧ ((8 * v1) + v5) < 1544 ∧ (0 ≤ v5 ∧ v5 < 1544 ∧ ∀ σ1 : St, σ1 = up σ 3 v5 (σ 3 ((8 * v1) + v5)) → (wp_X9_course_116 k57 post fu v1 v2 v3 v4 (v5 + 1) σ1)))))
def wp_X9_course_111 (k57 : Int → Int → Int → Int → St → Prop) (post : Int → St → Prop) (v1 v2 v3 s0 : Int) (σ : St) : Prop := (∃ n : Nat, wp_X9_course_116 k57 post n v1 v2 v3 s0 0 σ)
def wp_X9_course_65 (k57 : Int → Int → Int → Int → St → Prop) (post : Int → St → Prop) : Nat → Int → Int → Int → Int → St → Prop
  | 0, _, _, _, _, _ => False
  | fu + 1, v1, v2, v3, v5, σ => (rg v5 ∧ rg v1 ∧ (v1 ≤ v5 → (0 ≤ v1 ∧ v1 < 193 ∧ (rg (σ 4 v1) ∧ rg v2 ∧ ((σ 4 v1) = v2 → (wp_X9_course_111 k57 post v1 v2 (v3 + 1) 0 σ)) ∧ (¬ (σ 4 v1) = v2 → (wp_X9_course_111 k57 post v1 v2 (v3 + 1) 1 σ))))) ∧ (¬ v1 ≤ v5 → (0 ≤ (8 + v5) ∧ (8 + v5) < 91 ∧ (wp_X9_goes σ v5 (σ 1 (8 + v5)) (fun σ1 => (wp_X9_course_65 k57 post fu v1 v2 v3 (v5 + 1) σ1))))))
def wp_X9_course_57 (post : Int → St → Prop) : Nat → Int → Int → Int → Int → St → Prop
  | 0, _, _, _, _, _ => False
  | fu + 1, v1, v2, v3, v4, σ => (rg v4 ∧ (v4 = 0 → (post v3 σ)) ∧ (¬ v4 = 0 → (∃ n : Nat, wp_X9_course_65 (wp_X9_course_57 post fu) post n v1 v2 v3 0 σ)))
def wp_X9_course_15 (post : Int → St → Prop) : Nat → Int → Int → St → Prop
  | 0, _, _, _ => False
  | fu + 1, v1, v2, σ => (rg v2 ∧ rg (σ 1 0) ∧ ((σ 1 0) ≤ v2 → (wp_X9_keys σ 0 (fun σ1 => (∃ n : Nat, wp_X9_course_57 post n v1 (σ1 4 0) 0 1 σ1)))) ∧ (¬ (σ 1 0) ≤ v2 → (0 ≤ v2 ∧ v2 < 1544 ∧ ∀ σ2 : St, σ2 = up σ 3 v2 (v2 + 1) → (wp_X9_course_15 post fu v1 (v2 + 1) σ2))))
def wp_X9_course (σ : St) (post : Int → St → Prop) : Prop := (rg (σ 1 1) ∧ (¬ (σ 1 1) = 0 → (∃ n : Nat, wp_X9_course_15 post n (σ 1 1) 0 σ)) ∧ ((σ 1 1) = 0 → (post 0 σ)))
-- X9_of
def wp_X9_of (σ : St) (v1 v2 : Int) (post : Int → Prop) : Prop := (rg v1 ∧ (v1 = 0 → (wp_X9_within v2 0 ((σ 1 1) - 1) (fun r1 => (rg r1 ∧ (r1 = 0 → (post (-1))) ∧ (¬ r1 = 0 → (0 ≤ (8 + v2) ∧ (8 + v2) < 91 ∧ (post (σ 1 (8 + v2))))))))) ∧ (v1 = 1 → (0 ≤ (1 + v1) ∧ (1 + v1) < 91 ∧ (rg (σ 1 (1 + v1)) ∧ (¬ (σ 1 (1 + v1)) = (-1) → (0 ≤ (1 + v1) ∧ (1 + v1) < 91 ∧ (post (σ 1 (1 + v1))))) ∧ ((σ 1 (1 + v1)) = (-1) → (post (-5)))))) ∧ (v1 = 2 → (0 ≤ (1 + v1) ∧ (1 + v1) < 91 ∧ (rg (σ 1 (1 + v1)) ∧ (¬ (σ 1 (1 + v1)) = (-1) → (0 ≤ (1 + v1) ∧ (1 + v1) < 91 ∧ (post (σ 1 (1 + v1))))) ∧ ((σ 1 (1 + v1)) = (-1) → (post (-5)))))) ∧ (v1 = 3 → (wp_X9_within v2 0 11 (fun r2 => (rg r2 ∧ (r2 = 0 → (post (-1))) ∧ (¬ r2 = 0 → (0 ≤ (24 + v2) ∧ (24 + v2) < 91 ∧ (post (σ 1 (24 + v2))))))))) ∧ (¬ (0 ≤ v1 ∧ v1 ≤ 3) → (post (-1))))
-- X9_told
def wp_X9_told (σ : St) (v1 : Int) (post : Int → St → Prop) : Prop := (rg v1 ∧ (¬ v1 = 7 → (wp_X9_rings σ (fun σ1 => (rg v1 ∧ (v1 = 0 → (post (σ1 1 0) σ1)) ∧ (v1 = 1 → (post (σ1 1 1) σ1)) ∧ (v1 = 2 → (post (σ1 1 4) σ1)) ∧ (v1 = 3 → (post (σ1 0 3) σ1)) ∧ (v1 = 4 → (wp_X9_round σ1 (fun r2 => (post r2 σ1)))) ∧ (v1 = 5 → (wp_X9_wrongRow σ1 (fun r3 => (post r3 σ1)))) ∧ (v1 = 6 → (wp_X9_isTrue σ1 (fun r4 => (post r4 σ1)))) ∧ (¬ (0 ≤ v1 ∧ v1 ≤ 6) → (post (-1) σ1)))))) ∧ (v1 = 7 → (wp_X9_course σ (fun r5 σ5 => (post r5 σ5)))))
-- X9_isPlace
def wp_X9_isPlace (σ : St) (v1 : Int) (post : Int → Prop) : Prop := (wp_X9_within v1 1 (σ 1 0) (fun r1 => ((r1 = 0 ∨ r1 = 1) ∧ post r1)))
-- X9_place
def wp_X9_place_2 (post : Int → Prop) : Nat → Int → Int → Int → St → Prop
  | 0, _, _, _, _ => False
  | fu + 1, v1, v2, v3, σ => (0 ≤ ((8 * v1) + v3) ∧ ((8 * v1) + v3) < 1544 ∧ (rg (σ 3 ((8 * v1) + v3)) ∧ rg v2 ∧ ((σ 3 ((8 * v1) + v3)) = v2 → (post (v3 + 1))) ∧ (¬ (σ 3 ((8 * v1) + v3)) = v2 → (wp_X9_place_2 post fu v1 v2 (v3 + 1) σ))))
def wp_X9_place (σ : St) (v1 v2 : Int) (post : Int → Prop) : Prop := (∃ n : Nat, wp_X9_place_2 post n v1 v2 0 σ)
-- X9_at
def wp_X9_at (σ : St) (v1 v2 : Int) (post : Int → St → Prop) : Prop := (wp_X9_rings σ (fun σ1 => (wp_X9_within v1 0 (σ1 0 3) (fun r2 => (rg r2 ∧ (r2 = 0 → (post (-1) σ1)) ∧ (¬ r2 = 0 → (wp_X9_isPlace σ1 v2 (fun r3 => (rg r3 ∧ (r3 = 0 → (post (-1) σ1)) ∧ (¬ r3 = 0 → (0 ≤ (((8 * v1) + v2) - 1) ∧ (((8 * v1) + v2) - 1) < 1544 ∧ (post (σ1 3 (((8 * v1) + v2) - 1)) σ1))))))))))))
-- X9_where
def wp_X9_where (σ : St) (v1 v2 : Int) (post : Int → St → Prop) : Prop := (wp_X9_rings σ (fun σ1 => (wp_X9_within v1 0 (σ1 0 3) (fun r2 => (rg r2 ∧ (r2 = 0 → (post (-1) σ1)) ∧ (¬ r2 = 0 → (wp_X9_isPlace σ1 v2 (fun r3 => (rg r3 ∧ (r3 = 0 → (post (-1) σ1)) ∧ (¬ r3 = 0 → (wp_X9_place σ1 v1 v2 (fun r4 => (post r4 σ1)))))))))))))
-- X9_same
def wp_X9_same (σ : St) (v1 : Int) (post : Int → St → Prop) : Prop := (wp_X9_rings σ (fun σ1 => (wp_X9_within v1 0 (σ1 0 3) (fun r2 => (rg r2 ∧ (r2 = 0 → (post (-1) σ1)) ∧ (¬ r2 = 0 → (wp_X9_first σ1 v1 (fun r3 => (post r3 σ1)))))))))
-- X9_good
def wp_X9_good (σ : St) (v1 : Int) (post : Int → Prop) : Prop := (wp_X9_areKept σ v1 (fun r1 => (rg r1 ∧ (¬ r1 = 0 → (wp_X9_isGood σ v1 (fun r2 => (rg r2 ∧ (r2 = 0 → (post 0)) ∧ (¬ r2 = 0 → (post 1)))))) ∧ (r1 = 0 → (post (-2))))))
-- X9_isMusic
def wp_X9_isMusic_39 (post : Int → Prop) : Nat → Int → Int → Int → St → Prop
  | 0, _, _, _, _ => False
  | fu + 1, v2, v3, v4, σ => (rg v4 ∧ (5 ≤ v4 → (post 1)) ∧ (¬ 5 ≤ v4 → (0 ≤ (((8 * v2) + v3) - v4) ∧ (((8 * v2) + v3) - v4) < 1544 ∧ (rg (σ 3 (((8 * v2) + v3) - v4)) ∧ rg ((v3 + 1) - v4) ∧ ((σ 3 (((8 * v2) + v3) - v4)) = ((v3 + 1) - v4) → (wp_X9_isMusic_39 post fu v2 v3 (v4 + 1) σ)) ∧ (¬ (σ 3 (((8 * v2) + v3) - v4)) = ((v3 + 1) - v4) → (post 0))))))
def wp_X9_isMusic_81 (post : Int → Prop) : Nat → Int → Int → St → Prop
  | 0, _, _, _ => False
  | fu + 1, v2, v4, σ => (rg v4 ∧ (4 ≤ v4 → (post 1)) ∧ (¬ 4 ≤ v4 → (0 ≤ ((8 * v2) + v4) ∧ ((8 * v2) + v4) < 1544 ∧ (rg (σ 3 ((8 * v2) + v4)) ∧ rg (v4 + 1) ∧ ((σ 3 ((8 * v2) + v4)) = (v4 + 1) → (wp_X9_isMusic_81 post fu v2 (v4 + 1) σ)) ∧ (¬ (σ 3 ((8 * v2) + v4)) = (v4 + 1) → (post 0))))))
def wp_X9_isMusic_165 (k119 : Int → Int → Int → St → Prop) (post : Int → Prop) (v2 v3 v4 : Int) (σ : St) : Prop := (k119 v2 v3 (v4 + 1) σ)
def wp_X9_isMusic_119 (post : Int → Prop) : Nat → Int → Int → Int → St → Prop
  | 0, _, _, _, _ => False
  | fu + 1, v2, v3, v4, σ => (rg v4 ∧ rg v3 ∧ (v3 ≤ v4 → (post 1)) ∧ (¬ v3 ≤ v4 → (0 ≤ (36 + v4) ∧ (36 + v4) < 91 ∧ (rg (σ 1 (36 + v4)) ∧ ((σ 1 (36 + v4)) = 0 → (wp_X9_isMusic_165 (wp_X9_isMusic_119 post fu) post v2 v3 v4 σ)) ∧ (¬ (σ 1 (36 + v4)) = 0 → (0 ≤ (36 + v4) ∧ (36 + v4) < 91 ∧ (0 ≤ ((8 * v2) + v4) ∧ ((8 * v2) + v4) < 1544 ∧ (rg (σ 1 (36 + v4)) ∧ rg (σ 3 ((8 * v2) + v4)) ∧ ((σ 1 (36 + v4)) = (σ 3 ((8 * v2) + v4)) → (wp_X9_isMusic_165 (wp_X9_isMusic_119 post fu) post v2 v3 v4 σ)) ∧ (¬ (σ 1 (36 + v4)) = (σ 3 ((8 * v2) + v4)) → (post 0))))))))))
def wp_X9_isMusic (σ : St) (v1 v2 : Int) (post : Int → Prop) : Prop := (rg v1 ∧ (v1 = 0 → (∃ n : Nat, wp_X9_isMusic_39 post n v2 (σ 1 0) 1 σ)) ∧ (v1 = 1 → (∃ n : Nat, wp_X9_isMusic_81 post n v2 0 σ)) ∧ (v1 = 2 → (∃ n : Nat, wp_X9_isMusic_119 post n v2 (σ 1 0) 0 σ)) ∧ (¬ (0 ≤ v1 ∧ v1 ≤ 2) → (wp_X9_place σ v2 (σ 1 0) (fun r1 => (wp_X9_place σ v2 ((σ 1 0) - 1) (fun r2 => (rg r1 ∧ rg (r2 + 1) ∧ (¬ r1 = (r2 + 1) → (post 0)) ∧ (r1 = (r2 + 1) → (post 1)))))))))
-- X9_musicOf
def wp_X9_musicOf_24 (k4 : Int → Int → Int → St → Prop) (post : Int → Prop) (v1 v2 v3 : Int) (σ : St) : Prop := (k4 v1 v2 (v3 + 1) σ)
def wp_X9_musicOf_4 (post : Int → Prop) : Nat → Int → Int → Int → St → Prop
  | 0, _, _, _, _ => False
  | fu + 1, v1, v2, v3, σ => (rg v3 ∧ rg (σ 0 3) ∧ ((σ 0 3) < v3 → (post v2)) ∧ (¬ (σ 0 3) < v3 → (wp_X9_isMusic σ v1 v3 (fun r1 => (rg r1 ∧ (r1 = 0 → (wp_X9_musicOf_24 (wp_X9_musicOf_4 post fu) post v1 v2 v3 σ)) ∧ (¬ r1 = 0 → (wp_X9_musicOf_24 (wp_X9_musicOf_4 post fu) post v1 (v2 + 1) v3 σ)))))))
def wp_X9_musicOf (σ : St) (v1 : Int) (post : Int → Prop) : Prop := (∃ n : Nat, wp_X9_musicOf_4 post n v1 0 1 σ)
-- X9_music
def wp_X9_music (σ : St) (v1 : Int) (post : Int → St → Prop) : Prop := (wp_X9_within v1 0 3 (fun r1 => (rg r1 ∧ (¬ r1 = 0 → (wp_X9_rings σ (fun σ2 => (wp_X9_musicOf σ2 v1 (fun r3 => (post r3 σ2)))))) ∧ (r1 = 0 → (post (-1) σ)))))
-- X9_least
def wp_X9_least_223 (k117 : Int → Int → Int → Int → Int → Int → Int → Int → Int → Int → Int → Int → St → Prop) (post : Int → St → Prop) (v1 v2 v3 v4 v5 v6 v7 v8 v9 v10 v11 v12 : Int) (σ : St) : Prop := (k117 v1 v2 v3 v4 v5 v6 v7 v8 v9 v10 v11 (v12 + 1) σ)
def wp_X9_least_201 (k117 : Int → Int → Int → Int → Int → Int → Int → Int → Int → Int → Int → Int → St → Prop) (post : Int → St → Prop) (v1 v2 v3 v4 v5 v6 v7 v8 v9 v10 v11 v12 v14 : Int) (σ : St) : Prop := (wp_X9_rings σ (fun σ1 => (wp_X9_isTrue σ1 (fun r2 => (rg r2 ∧ (¬ r2 = 0 → (wp_X9_least_223 k117 post v1 v2 v3 v4 v5 v6 v7 v8 v9 v12 v14 v12 σ1)) ∧ (r2 = 0 → (wp_X9_least_223 k117 post v1 v2 v3 v4 v5 v6 v7 v8 v9 v10 v11 v12 σ1)))))))
def wp_X9_least_169 (k117 : Int → Int → Int → Int → Int → Int → Int → Int → Int → Int → Int → Int → St → Prop) (k136 : Int → Int → Int → Int → Int → Int → Int → Int → Int → Int → Int → Int → Int → Int → Int → St → Prop) (post : Int → St → Prop) (v1 v2 v3 v4 v5 v6 v7 v8 v9 v10 v11 v12 v13 v15 s0 s1 : Int) (σ : St) : Prop := (rg v13 ∧ (k136 v1 v2 v3 v4 v5 v6 v7 v8 v9 v10 v11 v12 (v13.tdiv 3) (s0 + s1) (v15 + (-1)) σ))
def wp_X9_least_136 (k117 : Int → Int → Int → Int → Int → Int → Int → Int → Int → Int → Int → Int → St → Prop) (post : Int → St → Prop) : Nat → Int → Int → Int → Int → Int → Int → Int → Int → Int → Int → Int → Int → Int → Int → Int → St → Prop
  | 0, _, _, _, _, _, _, _, _, _, _, _, _, _, _, _, _ => False
  | fu + 1, v1, v2, v3, v4, v5, v6, v7, v8, v9, v10, v11, v12, v13, v14, v15, σ => (rg v15 ∧ (v15 < 0 → (rg v10 ∧ (v10 = (-5) → (wp_X9_least_201 k117 post v1 v2 v3 v4 v5 v6 v7 v8 v9 v10 v11 v12 v14 σ)) ∧ (¬ v10 = (-5) → (rg v14 ∧ rg v11 ∧ (v14 < v11 → (wp_X9_least_201 k117 post v1 v2 v3 v4 v5 v6 v7 v8 v9 v10 v11 v12 v14 σ)) ∧ (¬ v14 < v11 → (wp_X9_least_223 k117 post v1 v2 v3 v4 v5 v6 v7 v8 v9 v10 v11 v12 σ)))))) ∧ (¬ v15 < 0 → (rg v13 ∧ (0 ≤ (24 + v15) ∧ (24 + v15) < 91 ∧ ∀ σ1 : St, σ1 = up σ 1 (24 + v15) (v13.tmod 3) → (rg v13 ∧ (rg (v13.tmod 3) ∧ (¬ (v13.tmod 3) = 0 → (wp_X9_least_169 k117 (wp_X9_least_136 k117 post fu) post v1 v2 v3 v4 v5 v6 v7 v8 v9 v10 v11 v12 v13 v15 v14 1 σ1)) ∧ ((v13.tmod 3) = 0 → (wp_X9_least_169 k117 (wp_X9_least_136 k117 post fu) post v1 v2 v3 v4 v5 v6 v7 v8 v9 v10 v11 v12 v13 v15 v14 0 σ1))))))))
def wp_X9_least_117 (post : Int → St → Prop) : Nat → Int → Int → Int → Int → Int → Int → Int → Int → Int → Int → Int → Int → St → Prop
  | 0, _, _, _, _, _, _, _, _, _, _, _, _, _ => False
  | fu + 1, v1, v2, v3, v4, v5, v6, v7, v8, v9, v10, v11, v12, σ => (rg v12 ∧ rg v9 ∧ (v9 ≤ v12 → (∀ σ1 : St, σ1 = up σ 1 4 v3 → (∀ σ2 : St, σ2 = up σ1 1 24 v4 → (∀ σ3 : St, σ3 = up σ2 1 25 v5 → (∀ σ4 : St, σ4 = up σ3 1 26 v6 → (∀ σ5 : St, σ5 = up σ4 1 27 v7 → (∀ σ6 : St, σ6 = up σ5 1 28 v8 → (rg v2 ∧ (¬ v2 = 0 → (post v11 σ6)) ∧ (v2 = 0 → (post v10 σ6)))))))))) ∧ (¬ v9 ≤ v12 → (∃ n : Nat, wp_X9_least_136 (wp_X9_least_117 post fu) post n v1 v2 v3 v4 v5 v6 v7 v8 v9 v10 v11 v12 v12 0 (v1 - 1) σ)))
def wp_X9_least_88 (post : Int → St → Prop) : Nat → Int → Int → Int → Int → Int → Int → Int → Int → Int → Int → St → Prop
  | 0, _, _, _, _, _, _, _, _, _, _, _ => False
  | fu + 1, v1, v2, v3, v4, v5, v6, v7, v8, v9, v10, σ => (rg v10 ∧ rg v1 ∧ (v1 ≤ v10 → (∃ n : Nat, wp_X9_least_117 post n v1 v2 v3 v4 v5 v6 v7 v8 v9 (-5) (-5) 0 σ)) ∧ (¬ v1 ≤ v10 → (wp_X9_least_88 post fu v1 v2 v3 v4 v5 v6 v7 v8 (v9 * 3) (v10 + 1) σ)))
def wp_X9_least (σ : St) (v1 v2 : Int) (post : Int → St → Prop) : Prop := (wp_X9_within v1 1 5 (fun r1 => (rg r1 ∧ (¬ r1 = 0 → (wp_X9_within v2 0 1 (fun r2 => (rg r2 ∧ (¬ r2 = 0 → (∀ σ3 : St, σ3 = up σ 1 4 v1 → (∃ n : Nat, wp_X9_least_88 post n v1 v2 (σ 1 4) (σ 1 24) (σ 1 25) (σ 1 26) (σ 1 27) (σ 1 28) 1 0 σ3))) ∧ (r2 = 0 → (post (-1) σ)))))) ∧ (r1 = 0 → (post (-2) σ)))))
-- X9_still
def wp_X9_still_46 (k18 : Int → Int → Int → St → Prop) (post : Int → St → Prop) (v1 v2 v3 : Int) (σ : St) : Prop := (k18 v1 v2 (v3 + 1) σ)
def wp_X9_still_18 (post : Int → St → Prop) : Nat → Int → Int → Int → St → Prop
  | 0, _, _, _, _ => False
  | fu + 1, v1, v2, v3, σ => (rg v3 ∧ rg (σ 0 3) ∧ ((σ 0 3) < v3 → (post v2 σ)) ∧ (¬ (σ 0 3) < v3 → (wp_X9_place σ v3 v1 (fun r1 => (wp_X9_place σ (v3 - 1) v1 (fun r2 => (rg r1 ∧ rg r2 ∧ (¬ r1 = r2 → (wp_X9_still_46 (wp_X9_still_18 post fu) post v1 v2 v3 σ)) ∧ (r1 = r2 → (wp_X9_still_46 (wp_X9_still_18 post fu) post v1 (v2 + 1) v3 σ)))))))))
def wp_X9_still (σ : St) (v1 : Int) (post : Int → St → Prop) : Prop := (wp_X9_isPlace σ v1 (fun r1 => (rg r1 ∧ (¬ r1 = 0 → (wp_X9_rings σ (fun σ2 => (∃ n : Nat, wp_X9_still_18 post n v1 0 1 σ2)))) ∧ (r1 = 0 → (post (-1) σ)))))
-- X9_ahead
def wp_X9_ahead_63 (k32 : Int → Int → Int → Int → St → Prop) (post : Int → St → Prop) (v1 v2 v3 v4 : Int) (σ : St) : Prop := (k32 v1 v2 v3 (v4 + 1) σ)
def wp_X9_ahead_32 (post : Int → St → Prop) : Nat → Int → Int → Int → Int → St → Prop
  | 0, _, _, _, _, _ => False
  | fu + 1, v1, v2, v3, v4, σ => (rg v4 ∧ rg (σ 0 3) ∧ ((σ 0 3) < v4 → (post v3 σ)) ∧ (¬ (σ 0 3) < v4 → (wp_X9_place σ v4 v1 (fun r1 => (wp_X9_place σ v4 v2 (fun r2 => (rg (r1 + 1) ∧ rg r2 ∧ (¬ (r1 + 1) = r2 → (wp_X9_ahead_63 (wp_X9_ahead_32 post fu) post v1 v2 v3 v4 σ)) ∧ ((r1 + 1) = r2 → (wp_X9_ahead_63 (wp_X9_ahead_32 post fu) post v1 v2 (v3 + 1) v4 σ)))))))))
def wp_X9_ahead (σ : St) (v1 v2 : Int) (post : Int → St → Prop) : Prop := (wp_X9_isPlace σ v1 (fun r1 => (rg r1 ∧ (r1 = 0 → (post (-1) σ)) ∧ (¬ r1 = 0 → (wp_X9_isPlace σ v2 (fun r2 => (rg r2 ∧ (r2 = 0 → (post (-1) σ)) ∧ (¬ r2 = 0 → (rg v1 ∧ rg v2 ∧ (¬ v1 = v2 → (wp_X9_rings σ (fun σ3 => (∃ n : Nat, wp_X9_ahead_32 post n v1 v2 0 0 σ3)))) ∧ (v1 = v2 → (post (-1) σ)))))))))))
-- X9_see
def wp_X9_see (σ : St) (v1 v2 v3 : Int) (post : Int → St → Prop) : Prop := (rg v1 ∧ (¬ v1 = (-1) → (wp_X9_within v1 0 192 (fun r1 => (rg r1 ∧ (r1 = 0 → (post (-1) σ)) ∧ (¬ r1 = 0 → (wp_X9_isPlace σ v2 (fun r2 => (rg r2 ∧ (r2 = 0 → (post (-1) σ)) ∧ (¬ r2 = 0 → (wp_X9_isPlace σ v3 (fun r3 => (rg r3 ∧ (¬ r3 = 0 → (rg (σ 1 5) ∧ (¬ (σ 1 5) = 5 → (0 ≤ (44 + (3 * (σ 1 5))) ∧ (44 + (3 * (σ 1 5))) < 91 ∧ ∀ σ4 : St, σ4 = up σ 1 (44 + (3 * (σ 1 5))) v1 → (0 ≤ ((44 + (3 * (σ 1 5))) + 1) ∧ ((44 + (3 * (σ 1 5))) + 1) < 91 ∧ ∀ σ5 : St, σ5 = up σ4 1 ((44 + (3 * (σ 1 5))) + 1) v2 → (0 ≤ ((44 + (3 * (σ 1 5))) + 2) ∧ ((44 + (3 * (σ 1 5))) + 2) < 91 ∧ ∀ σ6 : St, σ6 = up σ5 1 ((44 + (3 * (σ 1 5))) + 2) v3 → (∀ σ7 : St, σ7 = up σ6 1 5 ((σ6 1 5) + 1) → (post ((σ6 1 5) + 1) σ7)))))) ∧ ((σ 1 5) = 5 → (post (-4) σ)))) ∧ (r3 = 0 → (post (-1) σ)))))))))))))) ∧ (v1 = (-1) → (∀ σ8 : St, σ8 = up σ 1 5 0 → (post 0 σ8))))
-- X9_isSeen
def wp_X9_isSeen_70 (k2 : Int → St → Prop) (post : Int → Prop) (v1 : Int) (σ : St) : Prop := (k2 (v1 + 1) σ)
def wp_X9_isSeen_2 (post : Int → Prop) : Nat → Int → St → Prop
  | 0, _, _ => False
  | fu + 1, v1, σ => (rg v1 ∧ rg (σ 1 5) ∧ ((σ 1 5) ≤ v1 → (post 1)) ∧ (¬ (σ 1 5) ≤ v1 → (0 ≤ (44 + (3 * v1)) ∧ (44 + (3 * v1)) < 91 ∧ (rg (σ 1 (44 + (3 * v1))) ∧ rg (σ 0 3) ∧ ((σ 0 3) < (σ 1 (44 + (3 * v1))) → (wp_X9_isSeen_70 (wp_X9_isSeen_2 post fu) post v1 σ)) ∧ (¬ (σ 0 3) < (σ 1 (44 + (3 * v1))) → (0 ≤ (44 + (3 * v1)) ∧ (44 + (3 * v1)) < 91 ∧ (0 ≤ ((44 + (3 * v1)) + 1) ∧ ((44 + (3 * v1)) + 1) < 91 ∧ (0 ≤ (((8 * (σ 1 (44 + (3 * v1)))) + (σ 1 ((44 + (3 * v1)) + 1))) - 1) ∧ (((8 * (σ 1 (44 + (3 * v1)))) + (σ 1 ((44 + (3 * v1)) + 1))) - 1) < 1544 ∧ (0 ≤ ((44 + (3 * v1)) + 2) ∧ ((44 + (3 * v1)) + 2) < 91 ∧ (rg (σ 3 (((8 * (σ 1 (44 + (3 * v1)))) + (σ 1 ((44 + (3 * v1)) + 1))) - 1)) ∧ rg (σ 1 ((44 + (3 * v1)) + 2)) ∧ ((σ 3 (((8 * (σ 1 (44 + (3 * v1)))) + (σ 1 ((44 + (3 * v1)) + 1))) - 1)) = (σ 1 ((44 + (3 * v1)) + 2)) → (wp_X9_isSeen_70 (wp_X9_isSeen_2 post fu) post v1 σ)) ∧ (¬ (σ 3 (((8 * (σ 1 (44 + (3 * v1)))) + (σ 1 ((44 + (3 * v1)) + 1))) - 1)) = (σ 1 ((44 + (3 * v1)) + 2)) → (post 0))))))))))))
def wp_X9_isSeen (σ : St) (post : Int → Prop) : Prop := (∃ n : Nat, wp_X9_isSeen_2 post n 0 σ)
-- X9_fits
def wp_X9_fits_115 (k69 : Int → Int → Int → Int → Int → Int → St → Prop) (post : Int → St → Prop) (v1 v2 v3 v4 v5 v6 : Int) (σ : St) : Prop := (k69 v1 v2 v3 v4 v5 (v6 + (-1)) σ)
def wp_X9_fits_69 (post : Int → St → Prop) : Nat → Int → Int → Int → Int → Int → Int → St → Prop
  | 0, _, _, _, _, _, _, _ => False
  | fu + 1, v1, v2, v3, v4, v5, v6, σ => (rg v6 ∧ (v6 < 0 → (0 ≤ v2 ∧ v2 < 91 ∧ ∀ σ1 : St, σ1 = up σ 1 v2 v3 → (rg v1 ∧ (¬ v1 = 0 → (post v5 σ1)) ∧ (v1 = 0 → (post v4 σ1))))) ∧ (¬ v6 < 0 → (wp_X9_isGood σ v6 (fun r2 => (rg r2 ∧ (¬ r2 = 0 → (0 ≤ v2 ∧ v2 < 91 ∧ ∀ σ3 : St, σ3 = up σ 1 v2 v6 → (wp_X9_rings σ3 (fun σ4 => (wp_X9_isSeen σ4 (fun r5 => (rg r5 ∧ (¬ r5 = 0 → (wp_X9_fits_115 (wp_X9_fits_69 post fu) post v1 v2 v3 (v4 + 1) v6 v6 σ4)) ∧ (r5 = 0 → (wp_X9_fits_115 (wp_X9_fits_69 post fu) post v1 v2 v3 v4 v5 v6 σ4))))))))) ∧ (r2 = 0 → (wp_X9_fits_115 (wp_X9_fits_69 post fu) post v1 v2 v3 v4 v5 v6 σ)))))))
def wp_X9_fits (σ : St) (v1 : Int) (post : Int → St → Prop) : Prop := (wp_X9_within v1 0 1 (fun r1 => (rg r1 ∧ (¬ r1 = 0 → (rg (σ 1 1) ∧ (¬ (σ 1 1) = 0 → (0 ≤ ((8 + (σ 1 1)) - 1) ∧ ((8 + (σ 1 1)) - 1) < 91 ∧ (∃ n : Nat, wp_X9_fits_69 post n v1 ((8 + (σ 1 1)) - 1) (σ 1 ((8 + (σ 1 1)) - 1)) 0 (-5) ((bsl 1 (σ 1 0)) - 1) σ))) ∧ ((σ 1 1) = 0 → (rg v1 ∧ (¬ v1 = 0 → (post (-5) σ)) ∧ (v1 = 0 → (post 0 σ)))))) ∧ (r1 = 0 → (post (-1) σ)))))
-- X9_lowest
def wp_X9_lowest_5 (post : Int → Prop) : Nat → Int → Int → Int → Int → Int → Prop
  | 0, _, _, _, _, _ => False
  | fu + 1, v0, v1, v2, v3, v4 => (rg v4 ∧ (v4 = 0 → (rg v2 ∧ (¬ v2 = 0 → (rg v1 ∧ rg v3 ∧ v3 ≠ 0 ∧ (rg (v1.tdiv v3) ∧ (post (v1.tdiv v3))))) ∧ (v2 = 0 → (rg v0 ∧ rg v3 ∧ v3 ≠ 0 ∧ (rg (v0.tdiv v3) ∧ (post (v0.tdiv v3))))))) ∧ (¬ v4 = 0 → (rg v3 ∧ rg v4 ∧ v4 ≠ 0 ∧ (wp_X9_lowest_5 post fu v0 v1 v2 v4 (v3.tmod v4)))))
def wp_X9_lowest (v0 v1 v2 : Int) (post : Int → Prop) : Prop := (∃ n : Nat, wp_X9_lowest_5 post n v0 v1 v2 v0 v1)
-- X9_odds
def wp_X9_odds_25 (post : Int → St → Prop) (σ : St) : Prop := (post (-9223372036854775808) σ)
def wp_X9_odds_62 (k39 : Int → Int → Int → Int → Int → St → Prop) (post : Int → St → Prop) (v1 v2 v3 v4 v5 : Int) (σ : St) : Prop := (k39 v1 v2 v3 v4 (v5 + 1) σ)
def wp_X9_odds_39 (post : Int → St → Prop) : Nat → Int → Int → Int → Int → Int → St → Prop
  | 0, _, _, _, _, _, _ => False
  | fu + 1, v1, v2, v3, v4, v5, σ => (rg v5 ∧ rg (σ 0 3) ∧ ((σ 0 3) < v5 → (wp_X9_lowest v4 ((σ 0 3) + 1) v3 (fun r1 => (post r1 σ)))) ∧ (¬ (σ 0 3) < v5 → (wp_X9_place σ v5 v1 (fun r2 => (rg r2 ∧ rg v2 ∧ (¬ r2 = v2 → (wp_X9_odds_62 (wp_X9_odds_39 post fu) post v1 v2 v3 v4 v5 σ)) ∧ (r2 = v2 → (wp_X9_odds_62 (wp_X9_odds_39 post fu) post v1 v2 v3 (v4 + 1) v5 σ)))))))
def wp_X9_odds (σ : St) (v1 v2 v3 : Int) (post : Int → St → Prop) : Prop := (wp_X9_isPlace σ v1 (fun r1 => (rg r1 ∧ (r1 = 0 → (wp_X9_odds_25 post σ)) ∧ (¬ r1 = 0 → (wp_X9_isPlace σ v2 (fun r2 => (rg r2 ∧ (r2 = 0 → (wp_X9_odds_25 post σ)) ∧ (¬ r2 = 0 → (wp_X9_within v3 0 1 (fun r3 => (rg r3 ∧ (¬ r3 = 0 → (wp_X9_rings σ (fun σ4 => (∃ n : Nat, wp_X9_odds_39 post n v1 v2 v3 0 0 σ4)))) ∧ (r3 = 0 → (wp_X9_odds_25 post σ)))))))))))))
-- X9_mean
def wp_X9_mean_21 (post : Int → St → Prop) : Nat → Int → Int → Int → St → Prop
  | 0, _, _, _, _ => False
  | fu + 1, v1, v2, v3, σ => (rg v3 ∧ (4 ≤ v3 → (wp_X9_lowest v2 ((σ 0 3) + 1) v1 (fun r1 => (post r1 σ)))) ∧ (¬ 4 ≤ v3 → (wp_X9_musicOf σ v3 (fun r2 => (wp_X9_mean_21 post fu v1 (v2 + r2) (v3 + 1) σ)))))
def wp_X9_mean (σ : St) (v1 : Int) (post : Int → St → Prop) : Prop := (wp_X9_within v1 0 1 (fun r1 => (rg r1 ∧ (¬ r1 = 0 → (wp_X9_rings σ (fun σ2 => (∃ n : Nat, wp_X9_mean_21 post n v1 0 0 σ2)))) ∧ (r1 = 0 → (post (-9223372036854775808) σ)))))
-- X9_event
def wp_X9_event_74 (post : Int → St → Prop) (v1 v2 : Int) (σ : St) : Prop := (rg (σ 1 6) ∧ (¬ (σ 1 6) = 8 → (0 ≤ (59 + (2 * (σ 1 6))) ∧ (59 + (2 * (σ 1 6))) < 91 ∧ ∀ σ1 : St, σ1 = up σ 1 (59 + (2 * (σ 1 6))) v1 → (0 ≤ ((59 + (2 * (σ1 1 6))) + 1) ∧ ((59 + (2 * (σ1 1 6))) + 1) < 91 ∧ ∀ σ2 : St, σ2 = up σ1 1 ((59 + (2 * (σ1 1 6))) + 1) v2 → (∀ σ3 : St, σ3 = up σ2 1 6 ((σ2 1 6) + 1) → (post ((σ2 1 6) + 1) σ3))))) ∧ ((σ 1 6) = 8 → (post (-4) σ)))
def wp_X9_event_56 (post : Int → St → Prop) (v1 v2 : Int) (σ : St) : Prop := (rg v1 ∧ (¬ v1 = 3 → (wp_X9_event_74 post v1 v2 σ)) ∧ (v1 = 3 → (wp_X9_within v2 1 12 (fun r1 => (rg r1 ∧ (¬ r1 = 0 → (wp_X9_event_74 post v1 v2 σ)) ∧ (r1 = 0 → (post (-2) σ)))))))
def wp_X9_event_41 (post : Int → St → Prop) (v1 v2 : Int) (σ : St) : Prop := (rg v1 ∧ (¬ v1 = 2 → (wp_X9_event_56 post v1 v2 σ)) ∧ (v1 = 2 → (wp_X9_within v2 0 16 (fun r1 => (rg r1 ∧ (r1 = 0 → (post (-2) σ)) ∧ (¬ r1 = 0 → (wp_X9_event_56 post v1 v2 σ)))))))
def wp_X9_event (σ : St) (v1 v2 : Int) (post : Int → St → Prop) : Prop := (rg v1 ∧ (¬ v1 = (-1) → (wp_X9_within v1 0 3 (fun r1 => (rg r1 ∧ (r1 = 0 → (post (-1) σ)) ∧ (¬ r1 = 0 → (rg v1 ∧ (2 ≤ v1 → (wp_X9_event_41 post v1 v2 σ)) ∧ (¬ 2 ≤ v1 → (wp_X9_within v2 0 11 (fun r2 => (rg r2 ∧ (¬ r2 = 0 → (wp_X9_event_41 post v1 v2 σ)) ∧ (r2 = 0 → (post (-1) σ)))))))))))) ∧ (v1 = (-1) → (∀ σ3 : St, σ3 = up σ 1 6 0 → (post 0 σ3))))
-- X9_after
def wp_X9_after_242 (post : Int → St → Prop) : Nat → Int → Int → Int → St → Prop
  | 0, _, _, _, _ => False
  | fu + 1, v4, v5, v6, σ => (rg v6 ∧ (12 ≤ v6 → (post v5 σ)) ∧ (¬ 12 ≤ v6 → (rg v4 ∧ (0 ≤ (24 + v6) ∧ (24 + v6) < 91 ∧ ∀ σ1 : St, σ1 = up σ 1 (24 + v6) (v4.tmod 3) → (rg v4 ∧ (wp_X9_after_242 post fu (v4.tdiv 3) v5 (v6 + 1) σ1))))))
def wp_X9_after_223 (post : Int → St → Prop) (v2 v3 v4 s0 : Int) (σ : St) : Prop := (∀ σ1 : St, σ1 = up σ 1 4 v2 → (∀ σ2 : St, σ2 = up σ1 1 1 v3 → (∃ n : Nat, wp_X9_after_242 post n v4 s0 0 σ2)))
def wp_X9_after_186 (k63 : Int → Int → Int → Int → Int → St → Prop) (post : Int → St → Prop) (v1 v2 v3 v4 v5 : Int) (σ : St) : Prop := (k63 v1 v2 v3 v4 (v5 + 1) σ)
def wp_X9_after_63 (post : Int → St → Prop) : Nat → Int → Int → Int → Int → Int → St → Prop
  | 0, _, _, _, _, _, _ => False
  | fu + 1, v1, v2, v3, v4, v5, σ => (rg v5 ∧ rg (σ 1 6) ∧ ((σ 1 6) ≤ v5 → (wp_X9_rings σ (fun σ1 => (rg v1 ∧ (¬ v1 = 0 → (rg v1 ∧ (¬ v1 = 1 → (wp_X9_isTrue σ1 (fun r2 => (wp_X9_after_223 post v2 v3 v4 r2 σ1)))) ∧ (v1 = 1 → (wp_X9_wrongRow σ1 (fun r3 => (wp_X9_after_223 post v2 v3 v4 r3 σ1)))))) ∧ (v1 = 0 → (wp_X9_round σ1 (fun r4 => (wp_X9_after_223 post v2 v3 v4 r4 σ1)))))))) ∧ (¬ (σ 1 6) ≤ v5 → (0 ≤ ((59 + (2 * v5)) + 1) ∧ ((59 + (2 * v5)) + 1) < 91 ∧ (0 ≤ (59 + (2 * v5)) ∧ (59 + (2 * v5)) < 91 ∧ (rg (σ 1 (59 + (2 * v5))) ∧ ((σ 1 (59 + (2 * v5))) = 0 → (0 ≤ (24 + (σ 1 ((59 + (2 * v5)) + 1))) ∧ (24 + (σ 1 ((59 + (2 * v5)) + 1))) < 91 ∧ ∀ σ5 : St, σ5 = up σ 1 (24 + (σ 1 ((59 + (2 * v5)) + 1))) 0 → (wp_X9_after_186 (wp_X9_after_63 post fu) post v1 v2 v3 v4 v5 σ5))) ∧ ((σ 1 (59 + (2 * v5))) = 1 → (0 ≤ (24 + (σ 1 ((59 + (2 * v5)) + 1))) ∧ (24 + (σ 1 ((59 + (2 * v5)) + 1))) < 91 ∧ ∀ σ6 : St, σ6 = up σ 1 (24 + (σ 1 ((59 + (2 * v5)) + 1))) 1 → (wp_X9_after_186 (wp_X9_after_63 post fu) post v1 v2 v3 v4 v5 σ6))) ∧ ((σ 1 (59 + (2 * v5))) = 2 → (rg ((σ 1 1) - (σ 1 ((59 + (2 * v5)) + 1))) ∧ (∀ σ7 : St, σ7 = up σ 1 1 (if 0 < ((σ 1 1) - (σ 1 ((59 + (2 * v5)) + 1))) then ((σ 1 1) - (σ 1 ((59 + (2 * v5)) + 1))) else 0) → (wp_X9_after_186 (wp_X9_after_63 post fu) post v1 v2 v3 v4 v5 σ7)))) ∧ (¬ (0 ≤ (σ 1 (59 + (2 * v5))) ∧ (σ 1 (59 + (2 * v5))) ≤ 2) → (∀ σ8 : St, σ8 = up σ 1 4 (σ 1 ((59 + (2 * v5)) + 1)) → (wp_X9_after_186 (wp_X9_after_63 post fu) post v1 v2 v3 v4 v5 σ8))))))))
def wp_X9_after_32 (post : Int → St → Prop) : Nat → Int → Int → Int → Int → Int → St → Prop
  | 0, _, _, _, _, _, _ => False
  | fu + 1, v1, v2, v3, v4, v5, σ => (rg v5 ∧ (v5 < 0 → (∃ n : Nat, wp_X9_after_63 post n v1 v2 v3 v4 0 σ)) ∧ (¬ v5 < 0 → (0 ≤ (24 + v5) ∧ (24 + v5) < 91 ∧ (wp_X9_after_32 post fu v1 v2 v3 ((3 * v4) + (σ 1 (24 + v5))) (v5 + (-1)) σ))))
def wp_X9_after (σ : St) (v1 : Int) (post : Int → St → Prop) : Prop := (wp_X9_within v1 0 2 (fun r1 => (rg r1 ∧ (¬ r1 = 0 → (∃ n : Nat, wp_X9_after_32 post n v1 (σ 1 4) (σ 1 1) 0 11 σ)) ∧ (r1 = 0 → (post (-1) σ)))))
-- X9_book
def wp_X9_book (σ : St) (v1 v2 : Int) (post : Int → St → Prop) : Prop := (rg v1 ∧ (¬ v1 = (-1) → (wp_X9_within v1 0 192 (fun r1 => (rg r1 ∧ (r1 = 0 → (post (-1) σ)) ∧ (¬ r1 = 0 → (wp_X9_isPlace σ v2 (fun r2 => (rg r2 ∧ (¬ r2 = 0 → (rg (σ 1 7) ∧ (¬ (σ 1 7) = 8 → (0 ≤ (75 + (2 * (σ 1 7))) ∧ (75 + (2 * (σ 1 7))) < 91 ∧ ∀ σ3 : St, σ3 = up σ 1 (75 + (2 * (σ 1 7))) v1 → (0 ≤ ((75 + (2 * (σ3 1 7))) + 1) ∧ ((75 + (2 * (σ3 1 7))) + 1) < 91 ∧ ∀ σ4 : St, σ4 = up σ3 1 ((75 + (2 * (σ3 1 7))) + 1) v2 → (∀ σ5 : St, σ5 = up σ4 1 7 ((σ4 1 7) + 1) → (post ((σ4 1 7) + 1) σ5))))) ∧ ((σ 1 7) = 8 → (post (-4) σ)))) ∧ (r2 = 0 → (post (-1) σ)))))))))) ∧ (v1 = (-1) → (∀ σ6 : St, σ6 = up σ 1 7 0 → (post 0 σ6))))
-- X9_looked
def wp_X9_looked_62 (post : Int → St → Prop) (v1 : Int) (σ : St) : Prop := (post v1 σ)
def wp_X9_looked_6 (post : Int → St → Prop) : Nat → Int → St → Prop
  | 0, _, _ => False
  | fu + 1, v1, σ => (rg v1 ∧ rg (σ 1 7) ∧ ((σ 1 7) ≤ v1 → (post (-5) σ)) ∧ (¬ (σ 1 7) ≤ v1 → (0 ≤ (75 + (2 * v1)) ∧ (75 + (2 * v1)) < 91 ∧ (rg (σ 1 (75 + (2 * v1))) ∧ rg (σ 0 3) ∧ ((σ 0 3) < (σ 1 (75 + (2 * v1))) → (wp_X9_looked_62 post v1 σ)) ∧ (¬ (σ 0 3) < (σ 1 (75 + (2 * v1))) → (0 ≤ (8 * (σ 1 (75 + (2 * v1)))) ∧ (8 * (σ 1 (75 + (2 * v1)))) < 1544 ∧ (0 ≤ ((75 + (2 * v1)) + 1) ∧ ((75 + (2 * v1)) + 1) < 91 ∧ (rg (σ 3 (8 * (σ 1 (75 + (2 * v1))))) ∧ rg (σ 1 ((75 + (2 * v1)) + 1)) ∧ ((σ 3 (8 * (σ 1 (75 + (2 * v1))))) = (σ 1 ((75 + (2 * v1)) + 1)) → (wp_X9_looked_6 post fu (v1 + 1) σ)) ∧ (¬ (σ 3 (8 * (σ 1 (75 + (2 * v1))))) = (σ 1 ((75 + (2 * v1)) + 1)) → (wp_X9_looked_62 post v1 σ))))))))))
def wp_X9_looked (σ : St) (post : Int → St → Prop) : Prop := (wp_X9_rings σ (fun σ1 => (∃ n : Nat, wp_X9_looked_6 post n 0 σ1)))
-- X9_isTape
def wp_X9_isTape (v0 : Int) (post : Int → Prop) : Prop := (wp_X9_within v0 0 5 (fun r1 => ((r1 = 0 ∨ r1 = 1) ∧ post r1)))
-- X9_judge
def wp_X9_judge_57 (post : Int → St → Prop) : Nat → Int → Int → Int → Int → St → Prop
  | 0, _, _, _, _, _ => False
  | fu + 1, v1, v2, v3, v4, σ => (rg v4 ∧ rg (σ 1 0) ∧ ((σ 1 0) ≤ v4 → (post (-5) σ)) ∧ (¬ (σ 1 0) ≤ v4 → (rg v3 ∧ (rg v4 ∧ (0 ≤ v2 ∧ v2 < 6 ∧ (rg (σ 11 v2) ∧ (rl (v3 + v4) ∧ rl (σ 11 v2) ∧ (rg (lcp (v3 + v4) (σ 11 v2)) ∧ ((lcp (v3 + v4) (σ 11 v2)) < 0 → (0 ≤ (((60 * v2) + v3) + v4) ∧ (((60 * v2) + v3) + v4) < 360 ∧ (0 ≤ ((8 * v1) + v4) ∧ ((8 * v1) + v4) < 1544 ∧ (rg (σ 3 ((8 * v1) + v4)) ∧ (rl (σ 12 (((60 * v2) + v3) + v4)) ∧ rl (σ 3 ((8 * v1) + v4)) ∧ (rg (lcp (σ 12 (((60 * v2) + v3) + v4)) (σ 3 ((8 * v1) + v4))) ∧ ((lcp (σ 12 (((60 * v2) + v3) + v4)) (σ 3 ((8 * v1) + v4))) = 0 → (wp_X9_judge_57 post fu v1 v2 v3 (v4 + 1) σ)) ∧ (¬ (lcp (σ 12 (((60 * v2) + v3) + v4)) (σ 3 ((8 * v1) + v4))) = 0 → (post (v4 + 1) σ)))))))) ∧ (¬ (lcp (v3 + v4) (σ 11 v2)) < 0 → (post (100 + v4) σ))))))))))
def wp_X9_judge (σ : St) (v1 v2 v3 : Int) (post : Int → St → Prop) : Prop := (wp_X9_rings σ (fun σ1 => (wp_X9_within v1 0 (σ1 0 3) (fun r2 => (rg r2 ∧ (r2 = 0 → (post (-1) σ1)) ∧ (¬ r2 = 0 → (wp_X9_isTape v2 (fun r3 => (rg r3 ∧ (¬ r3 = 0 → (0 ≤ v2 ∧ v2 < 6 ∧ (rg (σ1 10 v2) ∧ ((σ1 10 v2) ≤ 1 → (0 ≤ v2 ∧ v2 < 6 ∧ (rg (σ1 10 v2) ∧ ((σ1 10 v2) = 0 → (post 100 σ1)) ∧ (¬ (σ1 10 v2) = 0 → (rg v3 ∧ (0 ≤ v3 → (∃ n : Nat, wp_X9_judge_57 post n v1 v2 v3 0 σ1)) ∧ (¬ 0 ≤ v3 → (post 100 σ1))))))) ∧ (¬ (σ1 10 v2) ≤ 1 → (post (-12) σ1))))) ∧ (r3 = 0 → (post (-1) σ1)))))))))))
-- X9_image
def wp_X9_image_7 (post : Int → St → Prop) : Nat → Int → St → Prop
  | 0, _, _ => False
  | fu + 1, v1, σ => (rg v1 ∧ (91 ≤ v1 → (post (σ 1 1) σ)) ∧ (¬ 91 ≤ v1 → (0 ≤ v1 ∧ v1 < 91 ∧ (0 ≤ v1 ∧ v1 < 91 ∧ ∀ σ1 : St, σ1 = up σ 2 v1 (σ 1 v1) → (wp_X9_image_7 post fu (v1 + 1) σ1)))))
def wp_X9_image (σ : St) (post : Int → St → Prop) : Prop := (∀ σ1 : St, σ1 = up σ 0 2 1 → (∃ n : Nat, wp_X9_image_7 post n 0 σ1))
-- X9_undo
def wp_X9_undo_12 (post : Int → St → Prop) : Nat → Int → St → Prop
  | 0, _, _ => False
  | fu + 1, v1, σ => (rg v1 ∧ (91 ≤ v1 → (post (σ 1 1) σ)) ∧ (¬ 91 ≤ v1 → (0 ≤ v1 ∧ v1 < 91 ∧ (0 ≤ v1 ∧ v1 < 91 ∧ ∀ σ1 : St, σ1 = up σ 1 v1 (σ 2 v1) → (wp_X9_undo_12 post fu (v1 + 1) σ1)))))
def wp_X9_undo (σ : St) (post : Int → St → Prop) : Prop := (rg (σ 0 2) ∧ (¬ (σ 0 2) = 0 → (∃ n : Nat, wp_X9_undo_12 post n 0 σ)) ∧ ((σ 0 2) = 0 → (post (-3) σ)))
-- X9_count
def wp_X9_count (σ : St) (v1 : Int) (post : Int → Prop) : Prop := (wp_X9_within v1 0 2 (fun r1 => (rg r1 ∧ (r1 = 0 → (rg v1 ∧ (¬ v1 = 3 → (post (-2))) ∧ (v1 = 3 → (post (σ 0 6))))) ∧ (¬ r1 = 0 → (0 ≤ (5 + v1) ∧ (5 + v1) < 91 ∧ (post (σ 1 (5 + v1))))))))
-- X9_tape
def wp_X9_tape_69 (post : Int → St → Prop) : Nat → Int → Int → St → Prop
  | 0, _, _, _ => False
  | fu + 1, v1, v4, σ => (rg v4 ∧ (60 ≤ v4 → (post 1 σ)) ∧ (¬ 60 ≤ v4 → (0 ≤ ((60 * v1) + v4) ∧ ((60 * v1) + v4) < 360 ∧ ∀ σ1 : St, σ1 = up σ 12 ((60 * v1) + v4) 0 → (wp_X9_tape_69 post fu v1 (v4 + 1) σ1))))
def wp_X9_tape_65 (post : Int → St → Prop) (v1 s1 s2 : Int) (σ : St) : Prop := (0 ≤ s1 ∧ s1 < 6 ∧ ∀ σ1 : St, σ1 = up σ 11 s1 s2 → (∃ n : Nat, wp_X9_tape_69 post n v1 0 σ1))
def wp_X9_tape_42 (post : Int → St → Prop) (v1 v2 v3 : Int) (σ : St) : Prop := (0 ≤ v1 ∧ v1 < 6 ∧ ∀ σ1 : St, σ1 = up σ 10 v1 (v2 + 1) → (rg v2 ∧ (0 ≤ v2 → (wp_X9_tape_65 post v1 v1 v3 σ1)) ∧ (¬ 0 ≤ v2 → (wp_X9_tape_65 post v1 v1 0 σ1))))
def wp_X9_tape_31 (post : Int → St → Prop) (v1 v2 v3 : Int) (σ : St) : Prop := (rg v2 ∧ (v2 < 0 → (wp_X9_tape_42 post v1 v2 v3 σ)) ∧ (¬ v2 < 0 → (rg v3 ∧ (0 ≤ v3 → (wp_X9_tape_42 post v1 v2 v3 σ)) ∧ (¬ 0 ≤ v3 → (post (-14) σ)))))
def wp_X9_tape (σ : St) (v1 v2 v3 : Int) (post : Int → St → Prop) : Prop := (wp_X9_isTape v1 (fun r1 => (rg r1 ∧ (¬ r1 = 0 → (wp_X9_within v2 (-1) 4 (fun r2 => (rg r2 ∧ (r2 = 0 → (post (-2) σ)) ∧ (¬ r2 = 0 → (rg v2 ∧ (v2 < 0 → (wp_X9_tape_31 post v1 v2 v3 σ)) ∧ (¬ v2 < 0 → (rg v3 ∧ (v3 ≤ 60 → (wp_X9_tape_31 post v1 v2 v3 σ)) ∧ (¬ v3 ≤ 60 → (post (-2) σ)))))))))) ∧ (r1 = 0 → (post (-1) σ)))))
-- X9_item
def wp_X9_item_117 (post : Int → St → Prop) (s1 s2 : Int) (σ : St) : Prop := (0 ≤ s1 ∧ s1 < 360 ∧ ∀ σ1 : St, σ1 = up σ 12 s1 s2 → (post 1 σ1))
def wp_X9_item (σ : St) (v1 v2 v3 : Int) (post : Int → St → Prop) : Prop := (wp_X9_isTape v1 (fun r1 => (rg r1 ∧ (¬ r1 = 0 → (0 ≤ v1 ∧ v1 < 6 ∧ (rg (σ 10 v1) ∧ (¬ (σ 10 v1) = 0 → (0 ≤ v1 ∧ v1 < 6 ∧ (wp_X9_within v2 0 ((σ 11 v1) - 1) (fun r2 => (rg r2 ∧ (¬ r2 = 0 → (0 ≤ v1 ∧ v1 < 6 ∧ (rg (σ 10 v1) ∧ (¬ (σ 10 v1) = 1 → (rg (σ 10 v1) ∧ (¬ (σ 10 v1) = 2 → (rg (σ 10 v1) ∧ (¬ (σ 10 v1) = 3 → (rg (σ 10 v1) ∧ (¬ (σ 10 v1) = 4 → (rl v3 ∧ rl 0 ∧ (rg (lcp v3 0) ∧ ((lcp v3 0) = 0 → (wp_X9_item_117 post ((60 * v1) + v2) 0 σ)) ∧ (¬ (lcp v3 0) = 0 → (wp_X9_item_117 post ((60 * v1) + v2) 1 σ))))) ∧ ((σ 10 v1) = 4 → (wp_X9_item_117 post ((60 * v1) + v2) v3 σ)))) ∧ ((σ 10 v1) = 3 → (rg v3 ∧ (wp_X9_item_117 post ((60 * v1) + v2) v3 σ))))) ∧ ((σ 10 v1) = 2 → (rg (i2s v3) ∧ (wp_X9_item_117 post ((60 * v1) + v2) (i2s v3) σ))))) ∧ ((σ 10 v1) = 1 → (rg (i2b v3) ∧ (wp_X9_item_117 post ((60 * v1) + v2) (i2b v3) σ)))))) ∧ (r2 = 0 → (post (-13) σ))))))) ∧ ((σ 10 v1) = 0 → (post (-11) σ))))) ∧ (r1 = 0 → (post (-1) σ)))))
-- X9_peek
def wp_X9_peek_37 (post : Int → Prop) (σ : St) : Prop := (post (-9223372036854775808))
def wp_X9_peek (σ : St) (v1 v2 : Int) (post : Int → Prop) : Prop := (wp_X9_isTape v1 (fun r1 => (rg r1 ∧ (r1 = 0 → (wp_X9_peek_37 post σ)) ∧ (¬ r1 = 0 → (0 ≤ v1 ∧ v1 < 6 ∧ (wp_X9_within v2 0 ((σ 11 v1) - 1) (fun r2 => (rg r2 ∧ (r2 = 0 → (wp_X9_peek_37 post σ)) ∧ (¬ r2 = 0 → (0 ≤ ((60 * v1) + v2) ∧ ((60 * v1) + v2) < 360 ∧ (post (σ 12 ((60 * v1) + v2)))))))))))))
-- X9_shift
def wp_X9_shift_147 (post : Int → St → Prop) : Nat → Int → Int → Int → Int → St → Prop
  | 0, _, _, _, _, _ => False
  | fu + 1, v3, v4, v5, v6, σ => (rg v6 ∧ rg v5 ∧ (v5 ≤ v6 → (post v5 σ)) ∧ (¬ v5 ≤ v6 → (0 ≤ v6 ∧ v6 < 60 ∧ (0 ≤ (((60 * v3) + v4) + v6) ∧ (((60 * v3) + v4) + v6) < 360 ∧ ∀ σ1 : St, σ1 = up σ 12 (((60 * v3) + v4) + v6) (σ 13 v6) → (wp_X9_shift_147 post fu v3 v4 v5 (v6 + 1) σ1)))))
def wp_X9_shift_110 (post : Int → St → Prop) : Nat → Int → Int → Int → Int → Int → Int → St → Prop
  | 0, _, _, _, _, _, _, _ => False
  | fu + 1, v1, v2, v3, v4, v5, v6, σ => (rg v6 ∧ rg v5 ∧ (v5 ≤ v6 → (∃ n : Nat, wp_X9_shift_147 post n v3 v4 v5 0 σ)) ∧ (¬ v5 ≤ v6 → (0 ≤ (((60 * v1) + v2) + v6) ∧ (((60 * v1) + v2) + v6) < 360 ∧ (0 ≤ v6 ∧ v6 < 60 ∧ ∀ σ1 : St, σ1 = up σ 13 v6 (σ 12 (((60 * v1) + v2) + v6)) → (wp_X9_shift_110 post fu v1 v2 v3 v4 v5 (v6 + 1) σ1)))))
def wp_X9_shift (σ : St) (v1 v2 v3 v4 v5 : Int) (post : Int → St → Prop) : Prop := (wp_X9_isTape v1 (fun r1 => (rg r1 ∧ (r1 = 0 → (post (-1) σ)) ∧ (¬ r1 = 0 → (wp_X9_isTape v3 (fun r2 => (rg r2 ∧ (¬ r2 = 0 → (0 ≤ v1 ∧ v1 < 6 ∧ (rg (σ 10 v1) ∧ ((σ 10 v1) = 0 → (post (-11) σ)) ∧ (¬ (σ 10 v1) = 0 → (0 ≤ v3 ∧ v3 < 6 ∧ (rg (σ 10 v3) ∧ (¬ (σ 10 v3) = 0 → (0 ≤ v1 ∧ v1 < 6 ∧ (0 ≤ v3 ∧ v3 < 6 ∧ (rg (σ 10 v1) ∧ rg (σ 10 v3) ∧ ((σ 10 v1) = (σ 10 v3) → (rg v5 ∧ (v5 < 0 → (post (-13) σ)) ∧ (¬ v5 < 0 → (rg v2 ∧ (v2 < 0 → (post (-13) σ)) ∧ (¬ v2 < 0 → (rg v4 ∧ (v4 < 0 → (post (-13) σ)) ∧ (¬ v4 < 0 → (rg v2 ∧ (rg v5 ∧ (0 ≤ v1 ∧ v1 < 6 ∧ (rg (σ 11 v1) ∧ (rl (v2 + v5) ∧ rl (σ 11 v1) ∧ (rg (lcp (v2 + v5) (σ 11 v1)) ∧ (0 < (lcp (v2 + v5) (σ 11 v1)) → (post (-13) σ)) ∧ (¬ 0 < (lcp (v2 + v5) (σ 11 v1)) → (rg v4 ∧ (rg v5 ∧ (0 ≤ v3 ∧ v3 < 6 ∧ (rg (σ 11 v3) ∧ (rl (v4 + v5) ∧ rl (σ 11 v3) ∧ (rg (lcp (v4 + v5) (σ 11 v3)) ∧ ((lcp (v4 + v5) (σ 11 v3)) ≤ 0 → (∃ n : Nat, wp_X9_shift_110 post n v1 v2 v3 v4 v5 0 σ)) ∧ (¬ (lcp (v4 + v5) (σ 11 v3)) ≤ 0 → (post (-13) σ)))))))))))))))))))))) ∧ (¬ (σ 10 v1) = (σ 10 v3) → (post (-12) σ)))))) ∧ ((σ 10 v3) = 0 → (post (-11) σ)))))))) ∧ (r2 = 0 → (post (-1) σ)))))))))
