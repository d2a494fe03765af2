/-! texts: the reference's parse -/
def MJ (len : Nat) (t : Nat → Int) (τ0 : St) (c m0 : Nat) (F : Int) (s : Ps) (τ : St) : Prop := τ 0 6 = (len : Int) ∧ (∀ i, i < len → τ 5 (i : Int) = t i) ∧ τ 0 8 = (s.1 : Int) ∧ τ 0 14 = (s.2.1 : Int) ∧ (∀ i, i < s.2.1 → τ 9 (i : Int) = s.2.2 i) ∧ τ 0 9 = F ∧ τ 0 10 = (c : Int) ∧ (m0 ≤ s.2.1 ∧ τ 8 (c : Int) = ((s.2.1 - m0 : Nat) : Int)) ∧ τ 0 2 = τ0 0 2 ∧ (∀ d, d ≠ 0 → d ≠ 8 → d ≠ 9 → τ d = τ0 d) ∧ (∀ j : Int, j ≠ (c : Int) → τ 8 j = τ0 8 j)
theorem m_sign {len : Nat} {t : Nat → Int} (hT : TX len t) {σ : St} {p : Nat} (h6 : σ 0 6 = (len : Int)) (h5 : ∀ i, i < len → σ 5 (i : Int) = t i) (h8 : σ 0 8 = (p : Int)) (hs : p ≤ 200) {post : Int → Prop} (hp : post (sgn len t p)) : wp_X9_sign σ post := by
  have hl := hT.1
  unfold wp_X9_sign
  rw [h6, h8]
  refine ⟨rgn (by omega), rgn (by omega), fun c => ?_, fun c => ⟨by omega, by omega, ?_⟩⟩
  · unfold sgn at hp; rwa [if_neg (by omega)] at hp
  · rw [h5 p (by omega)]
    unfold sgn at hp; rwa [if_pos (by omega)] at hp
theorem m_next {len : Nat} {t : Nat → Int} (hT : TX len t) {τ0 τ : St} {c m0 : Nat} {F : Int} {s : Ps} (h : MJ len t τ0 c m0 F s τ) (hs : s.1 ≤ len) {post : Int → Prop} (hp : post (sgn len t s.1)) : wp_X9_sign τ post :=
  m_sign hT h.1 h.2.1 h.2.2.1 (by have := hT.1; omega) hp
theorem m_adv {len : Nat} {t : Nat → Int} {τ0 τ τ' : St} {c m0 : Nat} {F : Int} {s : Ps} (h : MJ len t τ0 c m0 F s τ) (e : τ' = up τ 0 8 ((τ 0 8) + 1)) : MJ len t τ0 c m0 F (adP s) τ' := by
  obtain ⟨a0, a1, a2, a3, a4, a5, a6, a7, a8, a9, a10⟩ := h
  refine ⟨?_, ?_, ?_, ?_, ?_, ?_, ?_, ⟨a7.1, ?_⟩, ?_, fun d d0 d8 d9 => ?_, fun j hj => ?_⟩
  · rw [e, up_j _ (by decide)]; exact a0
  · rw [e, up_ne _ (by decide)]; exact a1
  · rw [e, up_same, a2]; show (s.1 : Int) + 1 = ((s.1 + 1 : Nat) : Int); omega
  · rw [e, up_j _ (by decide)]; exact a3
  · rw [e, up_ne _ (by decide)]; exact a4
  · rw [e, up_j _ (by decide)]; exact a5
  · rw [e, up_j _ (by decide)]; exact a6
  · rw [e, up_ne _ (by decide)]; exact a7.2
  · rw [e, up_j _ (by decide)]; exact a8
  · rw [e, up_ne _ d0]; exact a9 d d0 d8 d9
  · rw [e, up_ne _ (by decide)]; exact a10 j hj
theorem m_wrong {len : Nat} {t : Nat → Int} (hT : TX len t) {τ0 τ : St} {c m0 : Nat} {s : Ps} (h : MJ len t τ0 c m0 (-1) s τ) {post : St → Prop} (hp : ∀ τ' : St, MJ len t τ0 c m0 (s.1 : Int) s τ' → post τ') : wp_X9_wrong τ post := by
  obtain ⟨a0, a1, a2, a3, a4, a5, a6, a7, a8, a9, a10⟩ := h
  unfold wp_X9_wrong
  rw [a5]
  refine ⟨by decide, fun z => absurd z (by decide), fun _ => ?_⟩
  intro τ' e
  refine hp τ' ⟨?_, ?_, ?_, ?_, ?_, ?_, ?_, ⟨a7.1, ?_⟩, ?_, fun d d0 d8 d9 => ?_, fun j hj => ?_⟩
  · rw [e, up_j _ (by decide)]; exact a0
  · rw [e, up_ne _ (by decide)]; exact a1
  · rw [e, up_j _ (by decide)]; exact a2
  · rw [e, up_j _ (by decide)]; exact a3
  · rw [e, up_ne _ (by decide)]; exact a4
  · rw [e, up_same]; exact a2
  · rw [e, up_j _ (by decide)]; exact a6
  · rw [e, up_ne _ (by decide)]; exact a7.2
  · rw [e, up_j _ (by decide)]; exact a8
  · rw [e, up_ne _ d0]; exact a9 d d0 d8 d9
  · rw [e, up_ne _ (by decide)]; exact a10 j hj
theorem m_adds {len : Nat} {t : Nat → Int} {τ0 τ : St} {c m0 : Nat} {F : Int} {s : Ps} (h : MJ len t τ0 c m0 F s τ) (hc : c < 10) (hm : s.2.1 < 100) {v : Int} {post : St → Prop} (hp : ∀ τ' : St, MJ len t τ0 c m0 F (kpP s v) τ' → post τ') : wp_X9_adds τ v post := by
  obtain ⟨a0, a1, a2, a3, a4, a5, a6, a7, a8, a9, a10⟩ := h
  intro τ1 e1
  rw [a3]
  refine ⟨by omega, by omega, ?_⟩
  intro τ2 e2
  have c2 : τ2 0 10 = (c : Int) := by rw [e2, up_ne _ (by decide), e1, up_j _ (by decide)]; exact a6
  rw [c2]
  refine ⟨by omega, by omega, by omega, by omega, ?_⟩
  intro τ3 e3
  have z0 : ∀ j : Int, j ≠ 14 → τ3 0 j = τ 0 j := fun j hj => by rw [e3, up_ne _ (by decide), e2, up_ne _ (by decide), e1, up_j _ hj]
  refine hp τ3 ⟨?_, ?_, ?_, ?_, fun i hi => ?_, ?_, ?_, ⟨?_, ?_⟩, ?_, fun d d0 d8 d9 => ?_, fun j hj => ?_⟩
  · rw [z0 _ (by decide)]; exact a0
  · rw [e3, up_ne _ (by decide), e2, up_ne _ (by decide), e1, up_ne _ (by decide)]; exact a1
  · rw [z0 _ (by decide)]; exact a2
  · rw [e3, up_ne _ (by decide), e2, up_ne _ (by decide), e1, up_same, a3]; show (s.2.1 : Int) + 1 = ((s.2.1 + 1 : Nat) : Int); omega
  · show τ3 9 (i : Int) = if i = s.2.1 then v else s.2.2 i
    have hi' : i < s.2.1 + 1 := hi
    rw [e3, up_ne _ (by decide), e2]
    by_cases z : i = s.2.1
    · rw [if_pos z, z, up_same]
    · rw [if_neg z, up_j _ (by omega), e1, up_ne _ (by decide)]; exact a4 i (by omega)
  · rw [z0 _ (by decide)]; exact a5
  · rw [z0 _ (by decide)]; exact a6
  · show m0 ≤ s.2.1 + 1; omega
  · have y := a7.1
    rw [e3, up_same, e2, up_ne _ (by decide), e1, up_ne _ (by decide), a7.2]
    show ((s.2.1 - m0 : Nat) : Int) + 1 = ((s.2.1 + 1 - m0 : Nat) : Int); omega
  · rw [z0 _ (by decide)]; exact a8
  · rw [e3, up_ne _ d8, e2, up_ne _ d9, e1, up_ne _ d0]; exact a9 d d0 d8 d9
  · rw [e3, up_j _ hj, e2, up_ne _ (by decide), e1, up_ne _ (by decide)]; exact a10 j hj
theorem m_callOf {v : Int} (hv : rg v) {post : Int → Prop} (hp : post (coF v)) : wp_X9_callOf v post := by
  unfold coF at hp
  refine ⟨hv, fun c => ⟨hv, fun c2 => ⟨hv, fun c3 => ?_, fun c3 => ?_⟩, fun c2 => ?_⟩, fun c => ?_⟩
  · rwa [if_neg c, if_neg c2, if_neg c3] at hp
  · rwa [if_neg c, if_neg c2, if_pos c3] at hp
  · rwa [if_neg c, if_pos c2] at hp
  · rwa [if_pos c] at hp
/-- the fault behind a part of the text -/
def ftR (R : Bool × Ps) : Int := if R.1 = true then -1 else (R.2.1 : Int)
theorem m_dig {len : Nat} {t : Nat → Int} (hT : TX len t) {τ0 : St} {c m0 : Nat} (hc : c < 10) {s : Ps} (hO : OKs len s) {post : St → Prop} (hk : ∀ τ' : St, MJ len t τ0 c m0 (ftR (digP (sgn len t) s)) (digP (sgn len t) s).2 τ' → post τ') : ∀ (f p k : Nat) (b : Int) (τ : St), k + f = 8 → p ≤ len → MJ len t τ0 c m0 (-1) (p, s.2.1, s.2.2) τ → dgP (sgn len t) f p b k = dgP (sgn len t) 8 s.1 0 0 → wp_X9_digits_4 post (f + 1) b k τ := by
  have hl := hT.1
  have ha := hO.1
  have hb := hO.2
  have fin : ∀ (p k : Nat) (b : Int) (τ : St), k ≤ 8 → MJ len t τ0 c m0 (-1) (p, s.2.1, s.2.2) τ → (p, b, k) = dgP (sgn len t) 8 s.1 0 0 → wp_X9_digits_52 post b k τ := by
    intro p k b τ hk8 hC e
    unfold digP at hk
    rw [← e] at hk
    unfold wp_X9_digits_52
    refine ⟨rgn (by omega), fun z => ?_, fun z => ?_⟩
    · have hk0 : ¬ k = 0 := by omega
      simp only [if_neg hk0] at hk
      have hd := (dig_ok (t := t) hO).1.1
      have hm : s.2.1 < 100 := by
        unfold digP at hd
        rw [← e] at hd
        simp only [if_neg hk0] at hd
        have h1 : s.2.1 + 1 ≤ p := hd.1
        have h2 : p ≤ len := hd.2
        omega
      exact m_adds hC hc hm (fun τ' h' => hk τ' h')
    · have hk0 : k = 0 := by omega
      simp only [if_pos hk0] at hk
      exact m_wrong hT hC (fun τ' h' => hk τ' h')
  intro f
  induction f with
  | zero =>
    intro p k b τ hf hp hC e
    unfold wp_X9_digits_4
    refine m_next hT hC hp (s_within (sgn_rg hT) (by decide) (by decide) (ibs (fun _ => ⟨rgn (by omega), fun _ => fin p k b τ (by omega) hC e, fun z => by omega⟩) (fun _ => fin p k b τ (by omega) hC e)))
  | succ f ih =>
    intro p k b τ hf hp hC e
    unfold wp_X9_digits_4
    refine m_next hT hC hp (s_within (sgn_rg hT) (by decide) (by decide) (ibs (fun z => ⟨rgn (by omega), fun y => by omega, fun _ => ?_⟩) (fun z => ?_)))
    · have z : 49 ≤ sgn len t p ∧ sgn len t p ≤ 56 := z
      rw [dgP_t z] at e
      have hlt : p < len := sgn_lt (t := t) (by have := z.1; omega)
      refine m_next hT hC hp ?_
      intro τ4 e4
      rw [show ((k : Int) + 1) = ((k + 1 : Nat) : Int) by omega]
      exact ih (p + 1) (k + 1) _ τ4 (by omega) hlt (m_adv hC e4) e
    · rw [dgP_f z] at e
      exact fin p k b τ (by omega) hC e
theorem m_digitsT {len : Nat} {t : Nat → Int} (hT : TX len t) {τ0 τ : St} {c m0 : Nat} (hc : c < 10) {s : Ps} (hO : OKs len s) (hC : MJ len t τ0 c m0 (-1) s τ) {post : St → Prop} (hk : ∀ τ' : St, MJ len t τ0 c m0 (ftR (digP (sgn len t) s)) (digP (sgn len t) s).2 τ' → post τ') : wp_X9_digits τ post :=
  ⟨9, m_dig hT hc hO hk 8 s.1 0 0 τ rfl hO.2 hC rfl⟩
theorem m_word {len : Nat} {t : Nat → Int} (hT : TX len t) {τ0 τ : St} {c m0 : Nat} (hc : c < 10) {s : Ps} (hO : OKs len s) (hC : MJ len t τ0 c m0 (-1) s τ) {post : Int → St → Prop} (hk : ∀ τ' : St, MJ len t τ0 c m0 (ftR (wdP (sgn len t) s)) (wdP (sgn len t) s).2 τ' → post (if sgn len t s.1 = 120 then 1 else 0) τ') : wp_X9_word τ post := by
  have hl := hT.1
  have ha := hO.1
  unfold wp_X9_word
  unfold wdP at hk
  refine m_next hT hC hO.2 ⟨sgn_rg hT, fun z => ?_, fun z => ?_⟩
  · simp only [if_neg z] at hk
    exact m_digitsT hT hc hO hC (fun τ' h' => hk τ' h')
  · simp only [if_pos z] at hk
    have hlt : s.1 < len := sgn_lt (t := t) (by omega)
    intro τ3 e3
    exact m_adds (m_adv hC e3) hc (by show s.2.1 < 100; omega) (fun τ' h' => hk τ' h')
theorem ft_t {R : Bool × Ps} (h : R.1 = true) : ftR R = -1 := by unfold ftR; rw [if_pos h]
theorem ft_f {R : Bool × Ps} (h : R.1 = false) : ftR R = (R.2.1 : Int) := by unfold ftR; rw [if_neg (by rw [h]; decide)]
theorem m_ws {len : Nat} {t : Nat → Int} (hT : TX len t) {τ0 : St} {c m0 : Nat} (hc : c < 10) {R : Bool × Ps} {post : St → Prop} (hk : ∀ τ' : St, MJ len t τ0 c m0 (ftR R) R.2 τ' → post τ') : ∀ (f : Nat) (x : Bool) (s : Ps) (τ : St), s.2.1 + f = m0 + 16 → OKs len s → MJ len t τ0 c m0 (-1) s τ → wsP (sgn len t) f x s = R → wp_X9_words_18 post (f + 2) (if x = true then 1 else 0) 1 τ := by
  have hl := hT.1
  intro f
  induction f with
  | zero =>
    intro x s τ hf hO hC e
    unfold wp_X9_words_18
    subst e
    obtain ⟨a0, a1, a2, a3, a4, a5, a6, a7, a8, a9, a10⟩ := id hC
    rw [a6, a7.2]
    refine ⟨by decide, fun z => absurd z (by decide), fun _ => ⟨by omega, by omega, rgn (by omega), fun _ => hk τ hC, fun z => by omega⟩⟩
  | succ f ih =>
    intro x s τ hf hO hC e
    unfold wp_X9_words_18
    obtain ⟨a0, a1, a2, a3, a4, a5, a6, a7, a8, a9, a10⟩ := id hC
    rw [a6, a7.2]
    unfold wsP at e
    -- behind a further word
    have w127 : ∀ (x' : Bool) (s' : Ps) (v : Int) (τ' : St), v = (if x' = true then 1 else 0) → s'.2.1 + f = m0 + 16 → OKs len s' → MJ len t τ0 c m0 (-1) s' τ' → wsP (sgn len t) f x' s' = R → wp_X9_words_127 (wp_X9_words_18 post (f + 2)) post v τ' := by
      intro x' s' v τ' hv hf' hO' hC' e'
      unfold wp_X9_words_127
      rw [hC'.2.2.2.2.2.1]
      refine ⟨by decide, fun z => absurd z (by decide), fun _ => ?_⟩
      unfold wp_X9_words_139
      rw [hv]
      exact ih x' s' τ' hf' hO' hC' e'
    -- no more
    have stop : ∀ v3 : Int, R = (true, s) → wp_X9_words_90 (wp_X9_words_18 post (f + 2)) post v3 τ := by
      intro v3 hR
      unfold wp_X9_words_90 wp_X9_words_91
      refine ⟨by decide, fun z => absurd rfl z, fun _ => ?_⟩
      subst hR
      exact hk τ hC
    -- a word, no point ahead
    have word : (sgn len t s.1 = 120 ∨ (49 ≤ sgn len t s.1 ∧ sgn len t s.1 ≤ 56)) → wsP (sgn len t) f (decide (sgn len t s.1 = 120)) (wdP (sgn len t) s).2 = R → wp_X9_words_86 (wp_X9_words_18 post (f + 2)) post 0 τ := by
      intro hw' e'
      obtain ⟨b1, b2, b3⟩ := wd_ok (t := t) hO
      have b5 := b3 hw'
      have b4 := b2 b5
      unfold wp_X9_words_86 wp_X9_words_91
      refine ⟨by decide, fun _ => ⟨by decide, fun _ => ?_, fun z => absurd rfl z⟩, fun z => absurd z (by decide)⟩
      refine m_word hT hc hO hC (fun τ1 h1 => ?_)
      rw [ft_t b5] at h1
      refine w127 (decide (sgn len t s.1 = 120)) _ _ τ1 ?_ (by omega) b1.1 h1 e'
      by_cases z : sgn len t s.1 = 120
      · rw [if_pos z, if_pos (decide_eq_true z)]
      · rw [if_neg z, if_neg (by rw [decide_eq_true_eq]; exact z)]
    have h54 : ¬ (x = false ∧ sgn len t s.1 = 46) → wp_X9_words_54 (wp_X9_words_18 post (f + 2)) post (if x = true then 1 else 0) 0 τ := by
      intro z
      rw [if_neg z] at e
      unfold wp_X9_words_54
      refine ⟨by decide, fun y => absurd rfl y, fun _ => m_next hT hC hO.2 ⟨sgn_rg hT, fun c1 => ?_, fun c1 => ⟨by split <;> decide, fun c2 => ?_, fun c2 => ?_⟩⟩⟩
      · rw [if_pos (Or.inl c1)] at e
        exact word (Or.inl c1) e
      · have hxf : ¬ x = true := fun y => by rw [if_pos y] at c2; exact absurd c2 (by decide)
        rw [if_neg (fun y => y.elim c1 (fun q => hxf q.1))] at e
        exact stop 0 e.symm
      · have hxt : x = true := by
          apply Classical.byContradiction
          intro y; rw [if_neg y] at c2; exact c2 rfl
        refine m_next hT hC hO.2 (s_within (sgn_rg hT) (by decide) (by decide) (ibs (fun c4 => ?_) (fun c4 => ?_)))
        · rw [if_pos (Or.inr ⟨hxt, c4⟩)] at e
          exact word (Or.inr c4) e
        · rw [if_neg (fun y => y.elim c1 (fun q => c4 q.2))] at e
          exact stop 0 e.symm
    refine ⟨by decide, fun z => absurd z (by decide), fun _ => ⟨by omega, by omega, rgn (by omega), fun z => by omega, fun _ => ⟨by split <;> decide, fun z => ?_, fun z => ?_⟩⟩⟩
    · unfold wp_X9_words_53
      refine h54 (fun y => ?_)
      rw [y.1] at z; exact z rfl
    · have hxf : x = false := by
        cases x
        · rfl
        · exact absurd z (by decide)
      refine m_next hT hC hO.2 ⟨sgn_rg hT, fun c1 => ?_, fun c1 => ?_⟩
      · unfold wp_X9_words_53
        exact h54 (fun y => c1 y.2)
      · rw [if_pos ⟨hxf, c1⟩] at e
        have hlt : s.1 < len := sgn_lt (t := t) (by omega)
        have hO2 : OKs len (adP s) := ⟨by have := hO.1; show s.2.1 ≤ s.1 + 1; omega, hlt⟩
        unfold wp_X9_words_54 wp_X9_words_86 wp_X9_words_91
        refine ⟨by decide, fun _ => ⟨by decide, fun _ => ⟨by decide, fun y => absurd y (by decide), fun _ => ?_⟩, fun y => absurd y (by decide)⟩, fun y => absurd y (by decide)⟩
        intro τ2 e2
        have hC2 := m_adv hC e2
        refine m_digitsT hT hc hO2 hC2 (fun τ3 h3 => ?_)
        by_cases c4 : 49 ≤ sgn len t (s.1 + 1) ∧ sgn len t (s.1 + 1) ≤ 56
        · rw [if_pos c4] at e
          obtain ⟨b1, b2, b3⟩ := dig_ok (t := t) hO2
          have b5 := b3 c4
          have b4 := (b2 b5).1
          have ew : wdP (sgn len t) (adP s) = digP (sgn len t) (adP s) := by
            unfold wdP
            rw [if_neg]
            show ¬ sgn len t (s.1 + 1) = 120
            have := c4.2
            omega
          rw [ew] at e
          rw [ft_t b5] at h3
          have e0 : (adP s).2.1 = s.2.1 := rfl
          exact w127 false _ 0 τ3 (by rw [if_neg (by decide)]) (by omega) b1.1 h3 e
        · rw [if_neg c4] at e
          have ew : digP (sgn len t) (adP s) = (false, adP s) := dig_no c4
          rw [ew] at h3
          subst e
          unfold wp_X9_words_127
          rw [h3.2.2.2.2.2.1]
          have hf1 : ftR (false, adP s) = ((s.1 + 1 : Nat) : Int) := ft_f rfl
          refine ⟨by rw [hf1]; exact rgn (by omega), fun _ => ?_, fun y => by rw [hf1] at y; omega⟩
          unfold wp_X9_words_139
          show wp_X9_words_18 post (f + 1 + 1) 0 0 τ3
          unfold wp_X9_words_18
          exact ⟨by decide, fun _ => hk τ3 h3, fun y => absurd rfl y⟩
theorem m_words {len : Nat} {t : Nat → Int} (hT : TX len t) {τ0 τ : St} {c : Nat} (hc : c < 10) {s : Ps} (hO : OKs len s) (hC : MJ len t τ0 c s.2.1 (-1) s τ) {R : Bool × Ps} (hR : (if (wdP (sgn len t) s).1 = true then wsP (sgn len t) 15 (decide (sgn len t s.1 = 120)) (wdP (sgn len t) s).2 else wdP (sgn len t) s) = R) {post : St → Prop} (hk : ∀ τ' : St, MJ len t τ0 c s.2.1 (ftR R) R.2 τ' → post τ') : wp_X9_words τ post := by
  have hl := hT.1
  unfold wp_X9_words
  obtain ⟨b1, b2, b3⟩ := wd_ok (t := t) hO
  refine m_word hT hc hO hC (fun τ1 h1 => ?_)
  by_cases z : (wdP (sgn len t) s).1 = true
  · rw [if_pos z] at hR
    have b4 := b2 z
    rw [ft_t z] at h1
    rw [h1.2.2.2.2.2.1]
    refine ⟨by decide, fun y => absurd y (by decide), fun _ => ⟨17, ?_⟩⟩
    have := m_ws hT hc hk 15 (decide (sgn len t s.1 = 120)) _ τ1 (by omega) b1.1 h1 hR
    have ee : (if decide (sgn len t s.1 = 120) = true then (1 : Int) else 0) = (if sgn len t s.1 = 120 then 1 else 0) := by
      by_cases y : sgn len t s.1 = 120
      · rw [if_pos y, if_pos (decide_eq_true y)]
      · rw [if_neg y, if_neg (by rw [decide_eq_true_eq]; exact y)]
    rw [ee] at this
    exact this
  · rw [if_neg z] at hR
    have z' : (wdP (sgn len t) s).1 = false := by
      cases y : (wdP (sgn len t) s).1
      · rfl
      · exact absurd y z
    have hpl := b1.1.2
    subst hR
    rw [h1.2.2.2.2.2.1, ft_f z']
    refine ⟨rgn (by omega), fun _ => ⟨1, ?_⟩, fun y => by omega⟩
    show wp_X9_words_18 post (0 + 1) _ 0 τ1
    unfold wp_X9_words_18
    exact ⟨by decide, fun _ => hk τ1 h1, fun y => absurd rfl y⟩
theorem m_cl {len : Nat} {t : Nat → Int} (hT : TX len t) {τ0 : St} {c : Nat} (hc : c < 10) {s0 : Ps} {post : St → Prop} (hk : ∀ τ' : St, MJ len t τ0 c s0.2.1 (ftR (decide (s0.2.1 < (clP (sgn len t) 12 s0).2.1), clP (sgn len t) 12 s0)) (clP (sgn len t) 12 s0) τ' → wp_X9_reads_264 post τ') : ∀ (f : Nat) (s : Ps) (τ : St), s.2.1 + f = s0.2.1 + 12 → OKs len s → MJ len t τ0 c s0.2.1 (-1) s τ → clP (sgn len t) f s = clP (sgn len t) 12 s0 → wp_X9_reads_192 post (f + 1) τ := by
  have hl := hT.1
  have fin : ∀ (s : Ps) (τ : St), s.2.1 ≤ 100 → MJ len t τ0 c s0.2.1 (-1) s τ → s = clP (sgn len t) 12 s0 → wp_X9_reads_241 post τ := by
    intro s τ hw hC e
    rw [← e] at hk
    obtain ⟨a0, a1, a2, a3, a4, a5, a6, a7, a8, a9, a10⟩ := id hC
    unfold wp_X9_reads_241
    rw [a6, a7.2]
    have y := a7.1
    refine ⟨by omega, by omega, rgn (by omega), fun z => ?_, fun z => ?_⟩
    · refine hk τ ?_
      rw [ft_t (decide_eq_true (by omega))]; exact hC
    · refine m_wrong hT hC (fun τ' h' => hk τ' ?_)
      rw [ft_f (decide_eq_false (by omega))]; exact h'
  intro f
  induction f with
  | zero =>
    intro s τ hf hO hC e
    have ha := hO.1
    have hb := hO.2
    obtain ⟨a0, a1, a2, a3, a4, a5, a6, a7, a8, a9, a10⟩ := id hC
    unfold wp_X9_reads_192
    refine m_next hT hC hO.2 (m_callOf (sgn_rg hT) ⟨?_, fun z => fin s τ (by omega) hC e, fun z => ?_⟩)
    · by_cases z : coF (sgn len t s.1) = -1
      · rw [z]; decide
      · have := (coF_2 z).1; exact ⟨by have := this.1; omega, by have := this.2; omega⟩
    · rw [a6, a7.2]
      exact ⟨by omega, by omega, rgn (by omega), fun _ => fin s τ (by omega) hC e, fun y => by omega⟩
  | succ f ih =>
    intro s τ hf hO hC e
    have ha := hO.1
    have hb := hO.2
    obtain ⟨a0, a1, a2, a3, a4, a5, a6, a7, a8, a9, a10⟩ := id hC
    unfold wp_X9_reads_192
    unfold clP at e
    refine m_next hT hC hO.2 (m_callOf (sgn_rg hT) ⟨?_, fun z => ?_, fun z => ?_⟩)
    · by_cases z : coF (sgn len t s.1) = -1
      · rw [z]; decide
      · have := (coF_2 z).1; exact ⟨by have := this.1; omega, by have := this.2; omega⟩
    · rw [if_pos z] at e
      exact fin s τ (by omega) hC e
    · rw [if_neg z] at e
      have hlt : s.1 < len := sgn_lt (t := t) (coF_2 z).2
      rw [a6, a7.2]
      refine ⟨by omega, by omega, rgn (by omega), fun y => by omega, fun _ => ?_⟩
      refine m_next hT hC hO.2 (m_callOf (sgn_rg hT) (m_adds hC hc (by omega) (fun τ5 h5 => ?_)))
      intro τ6 e6
      exact ih (adP (kpP s (coF (sgn len t s.1)))) τ6 (by show s.2.1 + 1 + f = _; omega) ⟨by show s.2.1 + 1 ≤ s.1 + 1; omega, hlt⟩ (m_adv h5 e6) e
theorem m_clause {len : Nat} {t : Nat → Int} (hT : TX len t) {τ : St} {c : Nat} (hc : c < 10) {s : Ps} (hO : OKs len s) (h6 : τ 0 6 = (len : Int)) (h5 : ∀ i, i < len → τ 5 (i : Int) = t i) (h8 : τ 0 8 = (s.1 : Int)) (h14 : τ 0 14 = (s.2.1 : Int)) (h9v : ∀ i, i < s.2.1 → τ 9 (i : Int) = s.2.2 i) (h9 : τ 0 9 = -1) (h10 : τ 0 10 = (c : Int)) {R : Bool × Ps} (hR : cuP (sgn len t) s = R) {post : St → Prop}
    (hk : ∀ τ0 τ' : St, (∀ d, d ≠ 6 → d ≠ 7 → d ≠ 8 → τ0 d = τ d) → (∀ j : Int, τ0 6 j = if j = (c : Int) then sgn len t s.1 else τ 6 j) → (∀ j : Int, τ0 7 j = if j = (c : Int) then (s.2.1 : Int) else τ 7 j) → (∀ j : Int, j ≠ (c : Int) → τ0 8 j = τ 8 j) → (R.1 = true → MJ len t τ0 c s.2.1 (-1) R.2 τ') → (R.1 = false → ∃ s'' : Ps, MJ len t τ0 c s.2.1 (R.2.1 : Int) s'' τ') → wp_X9_reads_264 post τ') : wp_X9_reads τ post := by
  have hl := hT.1
  have ha := hO.1
  have hb := hO.2
  unfold cuP at hR
  unfold wp_X9_reads
  refine m_sign hT h6 h5 h8 (by omega) ?_
  rw [h10]
  refine ⟨by omega, by omega, ?_⟩
  intro τ2 e2
  have c2 : τ2 0 = τ 0 := by rw [e2, up_ne _ (by decide)]
  rw [c2, h10, h14]
  refine ⟨by omega, by omega, ?_⟩
  intro τ3 e3
  have c3 : τ3 0 = τ 0 := by rw [e3, up_ne _ (by decide)]; exact c2
  rw [c3, h10]
  refine ⟨by omega, by omega, ?_⟩
  intro τ4 e4
  have c4 : τ4 0 = τ 0 := by rw [e4, up_ne _ (by decide)]; exact c3
  have f1 : ∀ d, d ≠ 6 → d ≠ 7 → d ≠ 8 → τ4 d = τ d := fun d d6 d7 d8 => by rw [e4, up_ne _ d8, e3, up_ne _ d7, e2, up_ne _ d6]
  have f2 : ∀ j : Int, τ4 6 j = if j = (c : Int) then sgn len t s.1 else τ 6 j := fun j => by
    rw [e4, up_ne _ (by decide), e3, up_ne _ (by decide), e2, up_cell]
  have f3 : ∀ j : Int, τ4 7 j = if j = (c : Int) then (s.2.1 : Int) else τ 7 j := fun j => by
    rw [e4, up_ne _ (by decide), e3, up_cell, e2, up_ne _ (by decide)]
  have f4 : ∀ j : Int, j ≠ (c : Int) → τ4 8 j = τ 8 j := fun j hj => by
    rw [e4, up_j _ hj, e3, up_ne _ (by decide), e2, up_ne _ (by decide)]
  have hC : MJ len t τ4 c s.2.1 (-1) s τ4 := by
    refine ⟨by rw [c4]; exact h6, fun i hi => by rw [f1 5 (by decide) (by decide) (by decide)]; exact h5 i hi, by rw [c4]; exact h8, by rw [c4]; exact h14, fun i hi => by rw [f1 9 (by decide) (by decide) (by decide)]; exact h9v i hi, by rw [c4]; exact h9, by rw [c4]; exact h10, ⟨Nat.le_refl _, ?_⟩, rfl, fun _ _ _ _ => rfl, fun _ _ => rfl⟩
    rw [e4, up_same, Nat.sub_self]; rfl
  have done : ∀ τ' : St, MJ len t τ4 c s.2.1 (ftR R) R.2 τ' → wp_X9_reads_264 post τ' := fun τ' h' => hk τ4 τ' f1 f2 f3 f4 (fun z => by rw [ft_t z] at h'; exact h') (fun z => by rw [ft_f z] at h'; exact ⟨_, h'⟩)
  have adO : sgn len t s.1 ≠ -1 → OKs len (adP s) := fun z => ⟨by show s.2.1 ≤ s.1 + 1; omega, sgn_lt (t := t) z⟩
  refine m_next hT hC hO.2 ⟨sgn_rg hT, fun z => ?_, fun z => ?_, fun z => ?_, fun z => ?_, fun z => ?_, fun z => ?_⟩
  · rw [if_neg (by omega), if_neg (by omega), if_pos (Or.inl z)] at hR
    intro τ6 e6
    subst hR
    exact m_word hT hc (adO (by omega)) (m_adv hC e6) (fun τ' h' => done τ' h')
  · rw [if_neg (by omega), if_neg (by omega), if_neg (by omega), if_pos z] at hR
    intro τ8 e8
    subst hR
    exact ⟨13, m_cl hT hc (s0 := adP s) (fun τ' h' => done τ' h') 12 (adP s) τ8 rfl (adO (by omega)) (m_adv hC e8) rfl⟩
  · rw [if_neg (by omega), if_pos z] at hR
    intro τ9 e9
    exact m_words hT hc (adO (by omega)) (m_adv hC e9) hR (fun τ' h' => done τ' h')
  · rw [if_pos z] at hR
    intro τ11 e11
    have hC11 := m_adv hC e11
    have hO11 := adO (by omega)
    refine m_next hT hC11 hO11.2 (s_within (sgn_rg hT) (by decide) (by decide) (ibr (fun c1 => ?_) (fun c1 => ?_)))
    · have c1' : 48 ≤ sgn len t (s.1 + 1) ∧ sgn len t (s.1 + 1) ≤ 57 := c1
      rw [if_pos c1'] at hR
      have hlt : s.1 + 1 < len := sgn_lt (t := t) (by omega)
      refine m_next hT hC11 hO11.2 (m_adds hC11 hc (by show s.2.1 < 100; omega) (fun τ15 h15 => ?_))
      intro τ16 e16
      subst hR
      exact done τ16 (m_adv h15 e16)
    · have c1' : ¬ (48 ≤ sgn len t (s.1 + 1) ∧ sgn len t (s.1 + 1) ≤ 57) := c1
      rw [if_neg c1'] at hR
      refine m_wrong hT hC11 (fun τ15 h15 => ?_)
      intro τ16 e16
      subst hR
      exact hk τ4 τ16 f1 f2 f3 f4 (fun y => absurd y Bool.false_ne_true) (fun _ => ⟨_, m_adv h15 e16⟩)
  · rw [if_neg (by omega), if_neg (by omega), if_pos (Or.inr z)] at hR
    intro τ17 e17
    subst hR
    exact m_word hT hc (adO (by omega)) (m_adv hC e17) (fun τ' h' => done τ' h')
  · rw [if_neg (by omega), if_neg (by omega), if_neg (by omega), if_neg (by omega)] at hR
    subst hR
    exact m_wrong hT hC (fun τ' h' => done τ' (by rw [ft_f rfl]; exact h'))
