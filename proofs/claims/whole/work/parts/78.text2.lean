/-! texts: the class's parse -/
def CJ (len : Nat) (t : Nat → Int) (σ0 : St) (s : Ps) (σ : St) : Prop := σ 0 0 = (len : Int) ∧ (∀ i, i < len → σ 1 (i : Int) = t i) ∧ σ 0 2 = (s.1 : Int) ∧ σ 0 7 = (s.2.1 : Int) ∧ (∀ i, i < s.2.1 → σ 4 (i : Int) = s.2.2 i) ∧ σ 0 5 = σ0 0 5 ∧ σ 2 = σ0 2 ∧ σ 3 = σ0 3
theorem c_next {len : Nat} {t : Nat → Int} (hT : TX len t) {σ0 σ : St} {s : Ps} (h : CJ len t σ0 s σ) (hs : s.1 ≤ len) {post : Int → Prop} (hp : post (sgn len t s.1)) : wp_X5_next σ post := by
  have hl := hT.1
  obtain ⟨a0, a1, a2, -⟩ := h
  unfold wp_X5_next
  rw [a0, a2]
  refine ⟨rgn (by omega), rgn (by omega), fun c => ?_, fun c => ⟨by omega, by omega, ?_⟩⟩
  · unfold sgn at hp; rwa [if_neg (by omega)] at hp
  · rw [a1 s.1 (by omega)]
    unfold sgn at hp; rwa [if_pos (by omega)] at hp
theorem c_adv {len : Nat} {t : Nat → Int} {σ0 σ σ' : St} {s : Ps} (h : CJ len t σ0 s σ) (e : σ' = up σ 0 2 ((σ 0 2) + 1)) : CJ len t σ0 (adP s) σ' := by
  obtain ⟨a0, a1, a2, a3, a4, a5, a6, a7⟩ := h
  refine ⟨?_, ?_, ?_, ?_, ?_, ?_, ?_, ?_⟩
  · rw [e, up_j _ (by decide)]; exact a0
  · rw [e, up_ne _ (by decide)]; exact a1
  · rw [e, up_same, a2]; show (s.1 : Int) + 1 = ((s.1 + 1 : Nat) : Int); omega
  · rw [e, up_j _ (by decide)]; exact a3
  · rw [e, up_ne _ (by decide)]; exact a4
  · rw [e, up_j _ (by decide)]; exact a5
  · rw [e, up_ne _ (by decide)]; exact a6
  · rw [e, up_ne _ (by decide)]; exact a7
theorem c_keep {len : Nat} {t : Nat → Int} {σ0 σ : St} {s : Ps} (h : CJ len t σ0 s σ) (hm : s.2.1 < 100) {v : Int} {post : St → Prop} (hp : ∀ σ' : St, CJ len t σ0 (kpP s v) σ' → post σ') : wp_X5_keep σ v post := by
  obtain ⟨a0, a1, a2, a3, a4, a5, a6, a7⟩ := h
  unfold wp_X5_keep
  rw [a3]
  refine ⟨rgn (by omega), fun c => by omega, fun _ => ⟨by omega, by omega, ?_⟩⟩
  intro σ1 e1 σ2 e2
  refine hp σ2 ⟨?_, ?_, ?_, ?_, fun i hi => ?_, ?_, ?_, ?_⟩
  · rw [e2, up_j _ (by decide), e1, up_ne _ (by decide)]; exact a0
  · rw [e2, up_ne _ (by decide), e1, up_ne _ (by decide)]; exact a1
  · rw [e2, up_j _ (by decide), e1, up_ne _ (by decide)]; exact a2
  · rw [e2, up_same, e1, up_ne _ (by decide), a3]; show (s.2.1 : Int) + 1 = ((s.2.1 + 1 : Nat) : Int); omega
  · show σ2 4 (i : Int) = if i = s.2.1 then v else s.2.2 i
    have hi' : i < s.2.1 + 1 := hi
    rw [e2, up_ne _ (by decide), e1]
    by_cases z : i = s.2.1
    · rw [if_pos z, z, up_same]
    · rw [if_neg z, up_j _ (by omega)]; exact a4 i (by omega)
  · rw [e2, up_j _ (by decide), e1, up_ne _ (by decide)]; exact a5
  · rw [e2, up_ne _ (by decide), e1, up_ne _ (by decide)]; exact a6
  · rw [e2, up_ne _ (by decide), e1, up_ne _ (by decide)]; exact a7
theorem c_isPl {v : Int} (hv : rg v) {post : Int → Prop} (hp : post (if 49 ≤ v ∧ v ≤ 56 then 1 else 0)) : wp_X5_isPlaceSign v post := by
  refine ⟨hv, fun c => ?_, fun c => ⟨hv, fun c2 => ?_, fun c2 => ?_⟩⟩
  · rwa [if_neg (by omega)] at hp
  · rwa [if_neg (by omega)] at hp
  · rwa [if_pos (by omega)] at hp
theorem c_callOf {v : Int} (hv : rg v) {post : Int → Prop} (hp : post (coF v)) : wp_X5_callOf v post := by
  unfold coF at hp
  refine ⟨hv, fun c => ?_, fun c => ?_, fun c => ?_, fun c => ?_⟩
  · rwa [if_neg (by omega), if_pos c] at hp
  · rwa [if_pos c] at hp
  · rwa [if_neg (by omega), if_neg (by omega), if_pos c] at hp
  · rwa [if_neg c.2.1, if_neg c.1, if_neg c.2.2] at hp
theorem c_dig {len : Nat} {t : Nat → Int} (hT : TX len t) {σ0 : St} {s : Ps} (hO : OKs len s) {post : Int → St → Prop} (hk : ∀ σ' : St, CJ len t σ0 (digP (sgn len t) s).2 σ' → post (if (digP (sgn len t) s).1 = true then 1 else 0) σ') : ∀ (f p k : Nat) (b : Int) (σ : St), k + f = 8 → p ≤ len → CJ len t σ0 (p, s.2.1, s.2.2) σ → dgP (sgn len t) f p b k = dgP (sgn len t) 8 s.1 0 0 → wp_X5_parseWord_30 post (f + 1) b k σ := by
  have hl := hT.1
  have ha := hO.1
  have hb := hO.2
  have fin : ∀ (p k : Nat) (b : Int) (σ : St), k ≤ 8 → CJ len t σ0 (p, s.2.1, s.2.2) σ → (p, b, k) = dgP (sgn len t) 8 s.1 0 0 → wp_X5_parseWord_74 post b k σ := by
    intro p k b σ hk8 hC e
    unfold digP at hk
    rw [← e] at hk
    unfold wp_X5_parseWord_74
    refine ⟨rgn (by omega), fun c => ?_, fun c => ?_⟩
    · have hk0 : ¬ k = 0 := by omega
      simp only [if_neg hk0] at hk
      have hd := (dig_ok (t := t) hO).1.1
      have hm : s.2.1 < 100 := by
        unfold digP at hd
        rw [← e] at hd
        simp only [if_neg hk0] at hd
        have h1 : s.2.1 + 1 ≤ p := hd.1
        have h2 : p ≤ len := hd.2
        omega
      exact c_keep hC hm (fun σ' h' => hk σ' h')
    · have hk0 : k = 0 := by omega
      simp only [if_pos hk0] at hk
      exact hk σ hC
  intro f
  induction f with
  | zero =>
    intro p k b σ hf hp hC e
    unfold wp_X5_parseWord_30
    exact ⟨rgn (by omega), fun _ => fin p k b σ (by omega) hC e, fun c => by omega⟩
  | succ f ih =>
    intro p k b σ hf hp hC e
    unfold wp_X5_parseWord_30
    refine ⟨rgn (by omega), fun c => by omega, fun _ => c_next hT hC hp (c_isPl (sgn_rg hT) (ibs (fun c => ?_) (fun c => ?_)))⟩
    · have c : 49 ≤ sgn len t p ∧ sgn len t p ≤ 56 := c
      rw [dgP_t c] at e
      have hlt : p < len := sgn_lt (t := t) (by have := c.1; omega)
      refine c_next hT hC hp ?_
      intro σ4 e4
      rw [show ((k : Int) + 1) = ((k + 1 : Nat) : Int) by omega]
      exact ih (p + 1) (k + 1) _ σ4 (by omega) hlt (c_adv hC e4) e
    · rw [dgP_f c] at e
      exact fin p k b σ (by omega) hC e
theorem c_word {len : Nat} {t : Nat → Int} (hT : TX len t) {σ0 σ : St} {s : Ps} (hO : OKs len s) (hC : CJ len t σ0 s σ) {post : Int → St → Prop} (hk : ∀ σ' : St, CJ len t σ0 (wdP (sgn len t) s).2 σ' → post (if (wdP (sgn len t) s).1 = true then 1 else 0) σ') : wp_X5_parseWord σ post := by
  have hl := hT.1
  have ha := hO.1
  unfold wp_X5_parseWord
  unfold wdP at hk
  refine c_next hT hC hO.2 ⟨sgn_rg hT, fun c => ?_, fun c => ?_⟩
  · rw [if_neg c] at hk
    exact ⟨9, c_dig hT hO hk 8 s.1 0 0 σ rfl hO.2 hC rfl⟩
  · rw [if_pos c] at hk
    have hlt : s.1 < len := sgn_lt (t := t) (by omega)
    intro σ2 e2
    exact c_keep (c_adv hC e2) (by show s.2.1 < 100; omega) (fun σ' h' => hk σ' h')
theorem c_ws {len : Nat} {t : Nat → Int} (hT : TX len t) {σ0 : St} {R : Bool × Ps} {post : Int → St → Prop} (hk : ∀ σ' : St, CJ len t σ0 R.2 σ' → post (if R.1 = true then 1 else 0) σ') : ∀ (f w : Nat) (x : Bool) (s : Ps) (σ : St), w + f = 16 → OKs len s → 1 ≤ s.1 → (sgn len t (s.1 - 1) = 120 ↔ x = true) → CJ len t σ0 s σ → wsP (sgn len t) f x s = R → wp_X5_parseWords_11 post (f + 1) w σ := by
  have hl := hT.1
  intro f
  induction f with
  | zero =>
    intro w x s σ hf hO h1 hx hC e
    unfold wp_X5_parseWords_11
    subst e
    exact ⟨rgn (by omega), fun _ => hk σ hC, fun c => by omega⟩
  | succ f ih =>
    intro w x s σ hf hO h1 hx hC e
    obtain ⟨a0, a1, a2, -⟩ := id hC
    have hlen := hO.2
    unfold wp_X5_parseWords_11
    rw [a2, show ((s.1 : Int) - 1) = ((s.1 - 1 : Nat) : Int) by omega, a1 (s.1 - 1) (by omega), ← sgn_in (t := t) (show s.1 - 1 < len by omega)]
    -- a further word
    have go : ∀ (s' : Ps) (σ' : St), OKs len s' → (sgn len t s'.1 = 120 ∨ (49 ≤ sgn len t s'.1 ∧ sgn len t s'.1 ≤ 56)) → CJ len t σ0 s' σ' → wsP (sgn len t) f (decide (sgn len t s'.1 = 120)) (wdP (sgn len t) s').2 = R → wp_X5_parseWords_99 (wp_X5_parseWords_11 post (f + 1)) post w σ' := by
      intro s' σ' hO' hw' hC' e'
      unfold wp_X5_parseWords_99
      obtain ⟨b1, b2, b3⟩ := wd_ok (t := t) hO'
      have b4 := b2 (b3 hw')
      refine c_word hT hO' hC' (fun σ2 h2 => ?_)
      rw [show ((w : Int) + 1) = ((w + 1 : Nat) : Int) by omega]
      refine ih (w + 1) _ _ σ2 (by omega) b1.1 (by omega) ?_ h2 e'
      rw [decide_eq_true_eq]; exact b4.2.2
    unfold wsP at e
    have h74 : ∀ v2 : Int, (v2 = if x = true then 1 else 0) → ¬ (x = false ∧ sgn len t s.1 = 46) → wp_X5_parseWords_74 (wp_X5_parseWords_11 post (f + 1)) post w v2 σ := by
      intro v2 hv2 c
      rw [if_neg c] at e
      unfold wp_X5_parseWords_74
      refine c_next hT hC hO.2 ⟨sgn_rg hT, fun c2 => ?_, fun c2 => ⟨by rw [hv2]; split <;> decide, fun c3 => ?_, fun c3 => ?_⟩⟩
      · rw [if_pos (Or.inl c2)] at e
        exact go s σ hO (Or.inl c2) hC e
      · have hxf : ¬ x = true := fun z => by rw [if_pos z] at hv2; omega
        rw [if_neg (fun z => z.elim c2 (fun y => hxf y.1))] at e
        subst e
        exact hk σ hC
      · have hxt : x = true := by
          apply Classical.byContradiction
          intro z; rw [if_neg z] at hv2; exact c3 hv2
        refine c_next hT hC hO.2 (c_isPl (sgn_rg hT) (ibr (fun c4 => ?_) (fun c4 => ?_)))
        · rw [if_pos (Or.inr ⟨hxt, c4⟩)] at e
          exact go s σ hO (Or.inr c4) hC e
        · rw [if_neg (fun z => z.elim c2 (fun y => c4 y.2))] at e
          subst e
          exact hk σ hC
    have h38 : ∀ v2 : Int, (v2 = if x = true then 1 else 0) → wp_X5_parseWords_38 (wp_X5_parseWords_11 post (f + 1)) post w v2 σ := by
      intro v2 hv2
      unfold wp_X5_parseWords_38
      refine c_next hT hC hO.2 ⟨sgn_rg hT, fun c2 => h74 v2 hv2 (fun z => c2 z.2), fun c2 => ⟨by rw [hv2]; split <;> decide, fun c3 => h74 v2 hv2 (fun z => ?_), fun c3 => ?_⟩⟩
      · rw [if_neg (by rw [z.1]; decide)] at hv2; exact c3 hv2
      · have hxf : x = false := by
          cases x
          · rfl
          · rw [if_pos rfl] at hv2; omega
        rw [if_pos ⟨hxf, c2⟩] at e
        have hlt : s.1 < len := sgn_lt (t := t) (by omega)
        have hO2 : OKs len (adP s) := ⟨by have := hO.1; show s.2.1 ≤ s.1 + 1; omega, hlt⟩
        intro σ2 e2
        have hC2 := c_adv hC e2
        refine c_next hT hC2 hO2.2 (c_isPl (sgn_rg hT) (ibr (fun c4 => ?_) (fun c4 => ?_)))
        · have c4' : 49 ≤ sgn len t (s.1 + 1) ∧ sgn len t (s.1 + 1) ≤ 56 := c4
          rw [if_pos c4'] at e
          refine go (adP s) σ2 hO2 (Or.inr c4) hC2 ?_
          have : decide (sgn len t (adP s).1 = 120) = false := decide_eq_false (fun z => by have := c4.2; omega)
          rw [this]; exact e
        · have c4' : ¬ (49 ≤ sgn len t (s.1 + 1) ∧ sgn len t (s.1 + 1) ≤ 56) := c4
          rw [if_neg c4'] at e
          subst e
          exact hk σ2 hC2
    refine ⟨rgn (by omega), fun c => by omega, fun _ => ⟨by omega, by omega, sgn_rg hT, fun c => h38 0 ?_, fun c => h38 1 ?_⟩⟩
    · rw [if_neg (fun z => c (hx.mpr z))]
    · rw [if_pos (hx.mp c)]
theorem c_words {len : Nat} {t : Nat → Int} (hT : TX len t) {σ0 σ : St} {s : Ps} (hO : OKs len s) (hC : CJ len t σ0 s σ) {R : Bool × Ps} (hR : (if (wdP (sgn len t) s).1 = true then wsP (sgn len t) 15 (decide (sgn len t s.1 = 120)) (wdP (sgn len t) s).2 else wdP (sgn len t) s) = R) {post : Int → St → Prop} (hk : ∀ σ' : St, CJ len t σ0 R.2 σ' → post (if R.1 = true then 1 else 0) σ') : wp_X5_parseWords σ post := by
  unfold wp_X5_parseWords
  obtain ⟨b1, b2, b3⟩ := wd_ok (t := t) hO
  refine c_word hT hO hC (fun σ1 h1 => ?_)
  refine ⟨by split <;> decide, fun c => ?_, fun c => ?_⟩
  · have c' : (wdP (sgn len t) s).1 = true := by
      apply Classical.byContradiction
      intro z; rw [if_neg z] at c; exact c rfl
    rw [if_pos c'] at hR
    have b4 := b2 c'
    exact ⟨16, c_ws hT hk 15 1 _ _ σ1 rfl b1.1 (by omega) (by rw [decide_eq_true_eq]; exact b4.2.2) h1 hR⟩
  · have c' : ¬ (wdP (sgn len t) s).1 = true := by
      intro z; rw [if_pos z] at c; exact absurd c (by decide)
    rw [if_neg c'] at hR
    subst hR
    have := hk σ1 h1
    rwa [if_neg c'] at this
theorem c_cl {len : Nat} {t : Nat → Int} (hT : TX len t) {σ0 : St} {s0 : Ps} {post : Int → St → Prop} (hk : ∀ σ' : St, CJ len t σ0 (clP (sgn len t) 12 s0) σ' → post (if decide (s0.2.1 < (clP (sgn len t) 12 s0).2.1) = true then 1 else 0) σ') : ∀ (f w : Nat) (s : Ps) (σ : St), w + f = 12 → s0.2.1 + w = s.2.1 → OKs len s → CJ len t σ0 s σ → clP (sgn len t) f s = clP (sgn len t) 12 s0 → wp_X5_parseCalls_2 post (f + 1) w σ := by
  have hl := hT.1
  have fin : ∀ (w : Nat) (s : Ps) (σ : St), w ≤ 12 → s0.2.1 + w = s.2.1 → CJ len t σ0 s σ → s = clP (sgn len t) 12 s0 → wp_X5_parseCalls_46 post w σ := by
    intro w s σ hw h1 hC e
    rw [← e] at hk
    have := hk σ hC
    unfold wp_X5_parseCalls_46
    refine ⟨rgn (by omega), fun c => ?_, fun c => ?_⟩
    · rwa [if_neg (by rw [decide_eq_true_eq]; omega)] at this
    · rwa [if_pos (by rw [decide_eq_true_eq]; omega)] at this
  intro f
  induction f with
  | zero =>
    intro w s σ hf h1 hO hC e
    unfold wp_X5_parseCalls_2
    exact ⟨rgn (by omega), fun _ => fin w s σ (by omega) h1 hC e, fun c => by omega⟩
  | succ f ih =>
    intro w s σ hf h1 hO hC e
    have ha := hO.1
    unfold wp_X5_parseCalls_2
    unfold clP at e
    refine ⟨rgn (by omega), fun c => by omega, fun _ => c_next hT hC hO.2 (c_callOf (sgn_rg hT) ⟨?_, fun c => ?_, fun c => ?_⟩)⟩
    · by_cases z : coF (sgn len t s.1) = -1
      · rw [z]; decide
      · have := (coF_2 z).1; exact ⟨by have := this.1; omega, by have := this.2; omega⟩
    · rw [if_pos c] at e
      exact fin w s σ (by omega) h1 hC e
    · rw [if_neg c] at e
      have hlt : s.1 < len := sgn_lt (t := t) (coF_2 c).2
      refine c_next hT hC hO.2 (c_callOf (sgn_rg hT) (c_keep hC (by omega) (fun σ5 h5 => ?_)))
      intro σ6 e6
      rw [show ((w : Int) + 1) = ((w + 1 : Nat) : Int) by omega]
      exact ih (w + 1) (adP (kpP s (coF (sgn len t s.1)))) σ6 (by omega) (by show s0.2.1 + (w + 1) = s.2.1 + 1; omega) ⟨by show s.2.1 + 1 ≤ s.1 + 1; omega, hlt⟩ (c_adv h5 e6) e
theorem c_clause {len : Nat} {t : Nat → Int} (hT : TX len t) {σ0 σ : St} {s : Ps} (hO : OKs len s) (hC : CJ len t σ0 s σ) {R : Bool × Ps} (hR : cuP (sgn len t) s = R) {post : Int → St → Prop} (hk : ∀ σ' : St, CJ len t σ0 R.2 σ' → post (if R.1 = true then 1 else 0) σ') : wp_X5_parseClause σ post := by
  have hl := hT.1
  have ha := hO.1
  have hb := hO.2
  unfold cuP at hR
  unfold wp_X5_parseClause
  have i01b : ∀ b : Bool, (if b = true then (1 : Int) else 0) = 0 ∨ (if b = true then (1 : Int) else 0) = 1 := fun b => by cases b <;> simp
  have adO : sgn len t s.1 ≠ -1 → OKs len (adP s) := fun z => ⟨by show s.2.1 ≤ s.1 + 1; omega, sgn_lt (t := t) z⟩
  refine c_next hT hC hO.2 ⟨sgn_rg hT, fun c => ?_, fun c => ?_, fun c => ?_, fun c => ?_, fun c => ?_, fun c => ?_⟩
  · rw [if_neg (by omega), if_neg (by omega), if_pos (Or.inl c)] at hR
    intro σ2 e2
    subst hR
    exact c_word hT (adO (by omega)) (c_adv hC e2) (fun σ' h' => ⟨i01b _, hk σ' h'⟩)
  · rw [if_neg (by omega), if_neg (by omega), if_neg (by omega), if_pos c] at hR
    intro σ4 e4
    subst hR
    unfold wp_X5_parseCalls
    exact ⟨13, c_cl hT (s0 := adP s) (fun σ' h' => ⟨i01b _, hk σ' h'⟩) 12 0 (adP s) σ4 rfl rfl (adO (by omega)) (c_adv hC e4) rfl⟩
  · rw [if_neg (by omega), if_pos c] at hR
    intro σ6 e6
    exact c_words hT (adO (by omega)) (c_adv hC e6) hR (fun σ' h' => ⟨i01b _, hk σ' h'⟩)
  · rw [if_pos c] at hR
    intro σ8 e8
    have hC8 := c_adv hC e8
    have hO8 := adO (by omega)
    unfold wp_X5_parseDigit
    have no : ¬ (48 ≤ sgn len t (s.1 + 1) ∧ sgn len t (s.1 + 1) ≤ 57) → ((0 : Int) = 0 ∨ (0 : Int) = 1) ∧ post 0 σ8 := fun z => by
      rw [if_neg z] at hR
      subst hR
      exact ⟨Or.inl rfl, hk σ8 hC8⟩
    refine c_next hT hC8 hO8.2 ?_
    show rg (sgn len t (s.1 + 1)) ∧ (sgn len t (s.1 + 1) < 48 → ((0 : Int) = 0 ∨ (0 : Int) = 1) ∧ post 0 σ8) ∧ (¬ sgn len t (s.1 + 1) < 48 → (rg (sgn len t (s.1 + 1)) ∧ (sgn len t (s.1 + 1) ≤ 57 → (∀ σ2 : St, σ2 = up σ8 0 2 ((σ8 0 2) + 1) → (wp_X5_keep σ2 (sgn len t (s.1 + 1) - 48) (fun σ3 => (((1 : Int) = 0 ∨ (1 : Int) = 1) ∧ post 1 σ3))))) ∧ (¬ sgn len t (s.1 + 1) ≤ 57 → ((0 : Int) = 0 ∨ (0 : Int) = 1) ∧ post 0 σ8)))
    refine ⟨sgn_rg hT, fun c2 => no (by omega), fun c2 => ⟨sgn_rg hT, fun c3 => ?_, fun c3 => no (by omega)⟩⟩
    rw [if_pos ⟨by omega, c3⟩] at hR
    have hlt : s.1 + 1 < len := sgn_lt (t := t) (by omega)
    intro σ2 e2
    subst hR
    exact c_keep (c_adv hC8 e2) (by show s.2.1 < 100; omega) (fun σ' h' => ⟨Or.inr rfl, hk σ' h'⟩)
  · rw [if_neg (by omega), if_neg (by omega), if_pos (Or.inr c)] at hR
    intro σ10 e10
    subst hR
    exact c_word hT (adO (by omega)) (c_adv hC e10) (fun σ' h' => ⟨i01b _, hk σ' h'⟩)
  · rw [if_neg (by omega), if_neg (by omega), if_neg (by omega), if_neg (by omega)] at hR
    subst hR
    exact hk σ hC
/-- what the class holds after its parse -/
def CR (R : Pr) (σ : St) : Prop := R.1 = -5 → σ 0 5 = (R.2.1 : Int) ∧ (∀ k, k < R.2.1 → σ 2 (k : Int) = R.2.2.2.1 k) ∧ (∀ k, k ≤ R.2.1 → σ 3 (k : Int) = (R.2.2.2.2 k : Int)) ∧ ∀ i, i < R.2.2.1.2.1 → σ 4 (i : Int) = R.2.2.1.2.2 i
theorem c_pa {len : Nat} {t : Nat → Int} (hT : TX len t) {R : Pr} {post : Int → St → Prop} (hk : ∀ σ' : St, CR R σ' → post R.1 σ') : ∀ (f c : Nat) (s : Ps) (K : Nat → Int) (S : Nat → Nat) (σ0 σ : St), c + f = 10 → OKs len s → CJ len t σ0 s σ → (∀ k, k < c → σ 2 (k : Int) = K k) → (∀ k, k < c → σ 3 (k : Int) = (S k : Int)) → paP (sgn len t) f c s K S = R → wp_X5_parse_17 post (f + 1) c σ := by
  have hl := hT.1
  intro f
  induction f with
  | zero =>
    intro c s K S σ0 σ hf hO hC hK hS e
    unfold wp_X5_parse_17
    subst e
    refine ⟨rgn (by omega), fun _ => ?_, fun z => by omega⟩
    rw [hC.2.2.1]
    exact hk σ (fun z => by
      exfalso
      have : ((s.1 : Nat) : Int) = -5 := z
      omega)
  | succ f ih =>
    intro c s K S σ0 σ hf hO hC hK hS e
    unfold wp_X5_parse_17
    unfold paP at e
    refine ⟨rgn (by omega), fun z => by omega, fun _ => ⟨by omega, by omega, ?_⟩⟩
    intro σ1 e1
    obtain ⟨a0, a1, a2, a3, a4, a5, a6, a7⟩ := hC
    have hC1 : CJ len t σ1 s σ1 := by
      refine ⟨?_, ?_, ?_, ?_, ?_, rfl, rfl, rfl⟩
      · rw [e1, up_ne _ (by decide)]; exact a0
      · rw [e1, up_ne _ (by decide)]; exact a1
      · rw [e1, up_ne _ (by decide)]; exact a2
      · rw [e1, up_ne _ (by decide)]; exact a3
      · rw [e1, up_ne _ (by decide)]; exact a4
    refine c_next hT hC1 hO.2 ⟨by omega, by omega, ?_⟩
    intro σ3 e3
    have hC3 : CJ len t σ3 s σ3 := by
      obtain ⟨b0, b1, b2, b3, b4, -⟩ := hC1
      refine ⟨?_, ?_, ?_, ?_, ?_, rfl, rfl, rfl⟩
      · rw [e3, up_ne _ (by decide)]; exact b0
      · rw [e3, up_ne _ (by decide)]; exact b1
      · rw [e3, up_ne _ (by decide)]; exact b2
      · rw [e3, up_ne _ (by decide)]; exact b3
      · rw [e3, up_ne _ (by decide)]; exact b4
    have hK3 : ∀ k, k < c + 1 → σ3 2 (k : Int) = (if k = c then sgn len t s.1 else K k) := fun k hk1 => by
      rw [e3]
      by_cases z : k = c
      · rw [if_pos z, z, up_same]
      · rw [if_neg z, up_j _ (by omega), e1, up_ne _ (by decide)]; exact hK k (by omega)
    have hS3 : ∀ k, k < c + 1 → σ3 3 (k : Int) = ((if k = c then s.2.1 else S k : Nat) : Int) := fun k hk1 => by
      rw [e3, up_ne _ (by decide), e1]
      by_cases z : k = c
      · rw [if_pos z, z, up_same]; exact a3
      · rw [if_neg z, up_j _ (by omega)]; exact hS k (by omega)
    obtain ⟨u1, u2⟩ := cu_ok hT hO
    have hplace := u1.1.2
    refine c_clause hT hO hC3 rfl (fun σ4 h4 => ⟨by split <;> decide, fun c1 => ?_, fun c1 => ?_⟩)
    · have c1' : (cuP (sgn len t) s).1 = true := by
        apply Classical.byContradiction
        intro z; rw [if_neg z] at c1; exact c1 rfl
      rw [if_neg (by rw [c1']; decide)] at e
      intro σ5 e5
      have h55 : σ5 0 5 = ((c + 1 : Nat) : Int) := by rw [e5, up_same]; omega
      rw [h55]
      refine ⟨by omega, by omega, ?_⟩
      intro σ6 e6
      obtain ⟨b0, b1, b2, b3, b4, b5, b6, b7⟩ := h4
      have hC6 : CJ len t σ6 (cuP (sgn len t) s).2 σ6 := by
        refine ⟨?_, ?_, ?_, ?_, ?_, rfl, rfl, rfl⟩
        · rw [e6, up_ne _ (by decide), e5, up_j _ (by decide)]; exact b0
        · rw [e6, up_ne _ (by decide), e5, up_ne _ (by decide)]; exact b1
        · rw [e6, up_ne _ (by decide), e5, up_j _ (by decide)]; exact b2
        · rw [e6, up_ne _ (by decide), e5, up_j _ (by decide)]; exact b3
        · rw [e6, up_ne _ (by decide), e5, up_ne _ (by decide)]; exact b4
      have h65 : σ6 0 5 = ((c + 1 : Nat) : Int) := by rw [e6, up_ne _ (by decide)]; exact h55
      have hK6 : ∀ k, k < c + 1 → σ6 2 (k : Int) = (if k = c then sgn len t s.1 else K k) := fun k hk1 => by
        rw [e6, up_ne _ (by decide), e5, up_ne _ (by decide), b6]; exact hK3 k hk1
      have hS6 : ∀ k, k ≤ c + 1 → σ6 3 (k : Int) = ((if k = c + 1 then (cuP (sgn len t) s).2.2.1 else if k = c then s.2.1 else S k : Nat) : Int) := fun k hk1 => by
        rw [e6]
        by_cases z : k = c + 1
        · rw [if_pos z, z, up_same, e5, up_j _ (by decide)]; exact b3
        · rw [if_neg z, up_j _ (by omega), e5, up_ne _ (by decide), b7]; exact hS3 k (by omega)
      refine c_next hT hC6 hplace ⟨sgn_rg hT, fun c2 => ?_, fun c2 => ?_⟩
      · rw [if_neg c2] at e
        have h104 : (sgn len t (cuP (sgn len t) s).2.1 ≠ 59 ∨ c + 1 = 10) → wp_X5_parse_104 post σ6 := fun z => by
          rw [if_pos z] at e
          unfold wp_X5_parse_104
          rw [hC6.2.2.1]
          subst e
          exact hk σ6 (fun y => by
            exfalso
            have : (((cuP (sgn len t) s).2.1 : Nat) : Int) = -5 := y
            omega)
        refine c_next hT hC6 hplace ⟨sgn_rg hT, fun c3 => h104 (Or.inl c3), fun c3 => ?_⟩
        rw [h65]
        refine ⟨rgn (by omega), fun c4 => ?_, fun c4 => h104 (Or.inr (by omega))⟩
        rw [if_neg (fun z => z.elim (fun y => y c3) (fun y => c4 (by omega)))] at e
        intro σ9 e9
        have hlt : (cuP (sgn len t) s).2.1 < len := sgn_lt (t := t) c2
        rw [show ((c : Int) + 1) = ((c + 1 : Nat) : Int) by omega]
        refine ih (c + 1) (adP (cuP (sgn len t) s).2) _ _ σ6 σ9 (by omega) ⟨by have := u1.1.1; show (cuP (sgn len t) s).2.2.1 ≤ (cuP (sgn len t) s).2.1 + 1; omega, hlt⟩ (c_adv hC6 e9) (fun k hk1 => ?_) (fun k hk1 => ?_) e
        · rw [e9, up_ne _ (by decide)]; exact hK6 k hk1
        · rw [e9, up_ne _ (by decide)]; exact hS6 k (by omega)
      · rw [if_pos c2] at e
        subst e
        exact hk σ6 (fun _ => ⟨h65, hK6, hS6, hC6.2.2.2.2.1⟩)
    · have c1' : (cuP (sgn len t) s).1 = false := by
        cases z : (cuP (sgn len t) s).1
        · rfl
        · rw [z] at c1; exact absurd c1 (by decide)
      rw [if_pos c1'] at e
      rw [h4.2.2.1]
      subst e
      exact hk σ4 (fun y => by
        exfalso
        have : (((cuP (sgn len t) s).2.1 : Nat) : Int) = -5 := y
        omega)
theorem c_parse {len : Nat} {t : Nat → Int} (hT : TX len t) {σ : St} (h0 : σ 0 0 = (len : Int)) (h1 : ∀ i, i < len → σ 1 (i : Int) = t i) {post : Int → St → Prop} (hk : ∀ σ' : St, CR (paP (sgn len t) 10 0 (0, 0, fun _ => 0) (fun _ => 0) (fun _ => 0)) σ' → post (paP (sgn len t) 10 0 (0, 0, fun _ => 0) (fun _ => 0) (fun _ => 0)).1 σ') : wp_X5_parse σ post := by
  intro σ1 e1 σ2 e2 σ3 e3
  refine ⟨11, c_pa hT hk 10 0 (0, 0, fun _ => 0) _ _ σ3 σ3 rfl ⟨Nat.le_refl _, Nat.zero_le _⟩ ⟨?_, ?_, ?_, ?_, fun i hi => absurd hi (Nat.not_lt_zero _), rfl, rfl, rfl⟩ (fun k hk1 => absurd hk1 (Nat.not_lt_zero _)) (fun k hk1 => absurd hk1 (Nat.not_lt_zero _)) rfl⟩
  · rw [e3, up_j _ (by decide), e2, up_j _ (by decide), e1, up_j _ (by decide)]; exact h0
  · rw [e3, up_ne _ (by decide), e2, up_ne _ (by decide), e1, up_ne _ (by decide)]; exact h1
  · rw [e3, up_j _ (by decide), e2, up_j _ (by decide), e1, up_same]; rfl
  · rw [e3, up_same]; rfl
