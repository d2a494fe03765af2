theorem nzF_le : ∀ L x, nzF L x ≤ L
  | 0, _ => Nat.le_refl _
  | L + 1, x => by
    have := nzF_le L (x / 3)
    show nzF L (x / 3) + (if x % 3 = 0 then 0 else 1) ≤ L + 1
    by_cases z : x % 3 = 0
    · rw [if_pos z]; omega
    · rw [if_neg z]; omega
/-- what the reference keeps of the best so far -/
def bOK (L : Nat) (st : Nat × Int) (v10 v11 : Int) : Prop := v10 = st.2 ∧ ((st.2 = -5 ∧ st.1 = L + 1 ∧ v11 = -5) ∨ (0 ≤ st.2 ∧ st.2 < 1000 ∧ st.1 ≤ L ∧ v11 = (st.1 : Int)))
theorem m_best {s : Su} {σ τ : St} (h : RR s σ τ) {L : Nat} (h1 : 1 ≤ L) (h5 : L ≤ 5) {v2 : Int} (hv2 : rg v2) {post : Int → St → Prop} (hp : ∀ (st : Nat × Int) (v10 v11 : Int) (τ' : St), st = lpR (trX s.1 L) L (3 ^ L) 0 (L + 1, -5) → bOK L st v10 v11 → RR s σ τ' → post (if v2 = 0 then v10 else v11) τ') : ∀ (k fu x : Nat) (st : Nat × Int) (v10 v11 : Int) (τ1 : St), x + k = 3 ^ L → k < fu → bOK L st v10 v11 → lpR (trX s.1 L) L k x st = lpR (trX s.1 L) L (3 ^ L) 0 (L + 1, -5) → τ1 1 4 = (L : Int) → (∀ q : Int, q ≠ 4 → ¬ (24 ≤ q ∧ q < 24 + (L : Int)) → τ1 1 q = τ 1 q) → (∀ j : Int, j ≠ 3 → τ1 0 j = τ 0 j) → (∀ d, d ≠ 0 → d ≠ 1 → d ≠ 3 → d ≠ 4 → τ1 d = τ d) → wp_X9_least_117 post fu L v2 (τ 1 4) (τ 1 24) (τ 1 25) (τ 1 26) (τ 1 27) (τ 1 28) ((3 ^ L : Nat) : Int) v10 v11 x τ1 := by
  have hw := h.1.1
  have hmc := h.2.2.1.1
  have h3L : 3 ^ L ≤ 243 := by
    have : 3 ^ L ≤ 3 ^ 5 := Nat.pow_le_pow_right (by decide) h5
    have e : (3 : Nat) ^ 5 = 243 := by decide
    omega
  intro k
  induction k with
  | zero =>
    intro fu x st v10 v11 τ1 e hf hb hlp q4 q1 q2 q3
    obtain ⟨fu, rfl⟩ : ∃ f, fu = f + 1 := ⟨fu - 1, by omega⟩
    unfold wp_X9_least_117
    refine ⟨rgn (by omega), rgn (by omega), fun _ => ?_, fun z => by omega⟩
    intro a1 u1 a2 u2 a3 u3 a4 u4 a5 u5 a6 u6
    have hR : RR s σ a6 := by
      refine RR_scr h ?_ (fun j hj => ?_) (fun d hd => ?_)
      · funext q
        rw [u6]; by_cases z6 : q = 28
        · rw [z6, up_same]
        · rw [up_j _ z6, u5]; by_cases z5 : q = 27
          · rw [z5, up_same]
          · rw [up_j _ z5, u4]; by_cases z4 : q = 26
            · rw [z4, up_same]
            · rw [up_j _ z4, u3]; by_cases z3 : q = 25
              · rw [z3, up_same]
              · rw [up_j _ z3, u2]; by_cases z2 : q = 24
                · rw [z2, up_same]
                · rw [up_j _ z2, u1]; by_cases z1 : q = 4
                  · rw [z1, up_same]
                  · rw [up_j _ z1]; exact q1 q z1 (by omega)
      · rw [u6, up_c _ _ (by decide), u5, up_c _ _ (by decide), u4, up_c _ _ (by decide), u3, up_c _ _ (by decide), u2, up_c _ _ (by decide), u1, up_c _ _ (by decide)]; exact q2 j (by omega)
      · rw [u6, up_ne _ (by omega), u5, up_ne _ (by omega), u4, up_ne _ (by omega), u3, up_ne _ (by omega), u2, up_ne _ (by omega), u1, up_ne _ (by omega)]; exact q3 d (by omega) (by omega) (by omega) (by omega)
    have := hp st v10 v11 a6 hlp hb hR
    refine ⟨hv2, fun c => ?_, fun c => ?_⟩
    · rwa [if_neg c] at this
    · rwa [if_pos c] at this
  | succ k ih =>
    intro fu x st v10 v11 τ1 e hf hb hlp q4 q1 q2 q3
    obtain ⟨fu, rfl⟩ : ∃ f, fu = f + 1 := ⟨fu - 1, by omega⟩
    have hx : x < 1000 := by omega
    have hnz := nzF_le L x
    have hlp' : lpR (trX s.1 L) L k (x + 1) (stR (trX s.1 L) L x st) = lpR (trX s.1 L) L (3 ^ L) 0 (L + 1, -5) := hlp
    unfold wp_X9_least_117
    refine ⟨rgn (by omega), rgn (by omega), fun z => by omega, fun _ => ⟨L + 1, ?_⟩⟩
    have r10 : rg v10 := by
      obtain ⟨b1, b2 | b2⟩ := hb
      · rw [b1, b2.1]; decide
      · rw [b1]; exact ⟨by omega, by omega⟩
    have r11 : rg v11 := by
      obtain ⟨b1, b2 | b2⟩ := hb
      · rw [b2.2.2]; decide
      · rw [b2.2.2.2]; exact rgn (by omega)
    have nx : ∀ (st' : Nat × Int) (w10 w11 : Int) (τ2 : St), bOK L st' w10 w11 → stR (trX s.1 L) L x st = st' → τ2 1 4 = (L : Int) → (∀ q : Int, q ≠ 4 → ¬ (24 ≤ q ∧ q < 24 + (L : Int)) → τ2 1 q = τ 1 q) → (∀ j : Int, j ≠ 3 → τ2 0 j = τ 0 j) → (∀ d, d ≠ 0 → d ≠ 1 → d ≠ 3 → d ≠ 4 → τ2 d = τ d) → wp_X9_least_223 (wp_X9_least_117 post fu) post L v2 (τ 1 4) (τ 1 24) (τ 1 25) (τ 1 26) (τ 1 27) (τ 1 28) ((3 ^ L : Nat) : Int) w10 w11 x τ2 := by
      intro st' w10 w11 τ2 hb' hst g4 g1 g2 g3
      show wp_X9_least_117 post fu L v2 (τ 1 4) (τ 1 24) (τ 1 25) (τ 1 26) (τ 1 27) (τ 1 28) ((3 ^ L : Nat) : Int) w10 w11 ((x : Int) + 1) τ2
      rw [show (x : Int) + 1 = ((x + 1 : Nat) : Int) by omega]
      rw [hst] at hlp'
      exact ih fu (x + 1) st' w10 w11 τ2 (by omega) (by omega) hb' hlp' g4 g1 g2 g3
    have D := m_digits (τ0 := τ1) (L := L) (x := x) h5 hx (k117 := wp_X9_least_117 post fu) (post := post) (v1 := L) (v2 := v2) (v3 := τ 1 4) (v4 := τ 1 24) (v5 := τ 1 25) (v6 := τ 1 26) (v7 := τ 1 27) (v8 := τ 1 28) (v9 := ((3 ^ L : Nat) : Int)) (v10 := v10) (v11 := v11) (fun τ' d1 d2 d3 => ?_) L (L + 1) 0 τ1 (Nat.le_refl _) (by omega) (by rw [Nat.sub_self, Nat.pow_zero, Nat.div_one]; rfl) (fun i hi1 hi2 => by omega) (fun _ _ => rfl) (fun _ _ => rfl)
    · rw [Nat.sub_self, Nat.pow_zero, Nat.div_one] at D
      exact D
    · have g4 : τ' 1 4 = (L : Int) := by rw [d2 4 (by omega)]; exact q4
      have g1 : ∀ q : Int, q ≠ 4 → ¬ (24 ≤ q ∧ q < 24 + (L : Int)) → τ' 1 q = τ 1 q := fun q z1 z2 => by rw [d2 q z2]; exact q1 q z1 z2
      have g2 : ∀ j : Int, j ≠ 3 → τ' 0 j = τ 0 j := fun j hj => by rw [d3 0 (by decide)]; exact q2 j hj
      have g3 : ∀ d, d ≠ 0 → d ≠ 1 → d ≠ 3 → d ≠ 4 → τ' d = τ d := fun d e0 e1 e3 e4 => by rw [d3 d e1]; exact q3 d e0 e1 e3 e4
      have hwx := cfx_wf hw h1 h5 x
      have hm : mcOK (τ' 1) (cfx s.1 L x) := by
        obtain ⟨a0, a1, a2, a3, a4, a5, a6⟩ := hmc
        have h16 := hw.2.2.1
        refine ⟨by rw [g1 _ (by decide) (by omega)]; exact a0, by rw [g1 _ (by decide) (by omega)]; exact a1, by rw [g1 _ (by decide) (by omega)]; exact a2, by rw [g1 _ (by decide) (by omega)]; exact a3, g4, fun i hi => by rw [g1 _ (by omega) (by have : i < cM s.1 := hi; omega)]; exact a5 i hi, fun i hi => ?_⟩
        show τ' 1 (24 + (i : Int)) = ((if i < L then dgt L x i else cC s.1 i : Nat) : Int)
        by_cases z : i < L
        · rw [if_pos z]; exact d1 i z
        · rw [if_neg z, g1 _ (by omega) (by omega)]; exact a6 i hi
      have go : nzF L x < st.1 → wp_X9_least_201 (wp_X9_least_117 post fu) post L v2 (τ 1 4) (τ 1 24) (τ 1 25) (τ 1 26) (τ 1 27) (τ 1 28) ((3 ^ L : Nat) : Int) v10 v11 x (nzF L x : Nat) τ' := by
        intro hlt
        refine s_rings hm hwx (fun τ4 r1 r2 r3 r4 => ?_)
        have f1 : τ4 1 = τ' 1 := r4 1 (by decide) (by decide) (by decide)
        have G4 : τ4 1 4 = (L : Int) := by rw [f1]; exact g4
        have G1 : ∀ q : Int, q ≠ 4 → ¬ (24 ≤ q ∧ q < 24 + (L : Int)) → τ4 1 q = τ 1 q := fun q z1 z2 => by rw [f1]; exact g1 q z1 z2
        have G2 : ∀ j : Int, j ≠ 3 → τ4 0 j = τ 0 j := fun j hj => by rw [r3 j hj]; exact g2 j hj
        have G3 : ∀ d, d ≠ 0 → d ≠ 1 → d ≠ 3 → d ≠ 4 → τ4 d = τ d := fun d e0 e1 e3 e4 => by rw [r4 d e0 e3 e4]; exact g3 d e0 e1 e3 e4
        refine s_misTrue (mr_mk hwx r1 r2) ?_
        have ht : trF (rwX τ4 3) (lastC (cfx s.1 L x)) = trX s.1 L x := trF_eq (mr_K r1)
        rw [ht]
        refine ibr (fun c => ?_) (fun c => ?_)
        · exact nx (nzF L x, (x : Int)) _ _ τ4 ⟨rfl, Or.inr ⟨by show (0 : Int) ≤ (x : Int); omega, by show (x : Int) < 1000; omega, hnz, rfl⟩⟩ (by unfold stR; rw [c, Bool.true_and, if_pos (by simpa using hlt)]) G4 G1 G2 G3
        · exact nx st _ _ τ4 hb (by unfold stR; rw [if_neg (by rw [Bool.and_eq_true]; exact fun z => c z.1)]) G4 G1 G2 G3
      have no : ¬ nzF L x < st.1 → wp_X9_least_223 (wp_X9_least_117 post fu) post L v2 (τ 1 4) (τ 1 24) (τ 1 25) (τ 1 26) (τ 1 27) (τ 1 28) ((3 ^ L : Nat) : Int) v10 v11 x τ' := fun hn =>
        nx st _ _ τ' hb (by unfold stR; rw [if_neg (by rw [Bool.and_eq_true]; exact fun z => hn (by simpa using z.2))]) g4 g1 g2 g3
      obtain ⟨b1, b2⟩ := id hb
      refine ⟨r10, fun c => go ?_, fun c => ⟨rgn (by omega), r11, fun c2 => go ?_, fun c2 => no ?_⟩⟩
      · rcases b2 with b2 | b2
        · omega
        · omega
      · rcases b2 with b2 | b2
        · omega
        · omega
      · rcases b2 with b2 | b2
        · omega
        · omega
