/-! texts: the reference does the clauses -/
theorem m_call1 {τ : St} {n : Nat} (h8 : n ≤ 8) (m0 : τ 1 0 = n) {v : Int} (hv : v = 1 ∨ v = 2) {pl : Nat} (hpl : pl < 256) (hq : rg (τ 1 (1 + v))) {post : Int → St → Prop} (h1 : GD n pl = true → ∀ r : Int, rg r → 0 ≤ r → post r (up τ 1 (1 + v) pl)) (h0 : ¬ GD n pl = true → ∀ r : Int, rg r → r < 0 → post r τ) : wp_X9_calls τ v pl post := by
  have hvr : rg v := by rcases hv with e | e <;> rw [e] <;> decide
  unfold wp_X9_calls
  refine s_within hvr (by decide) (by decide) (ibr (fun _ => ⟨rgn (by omega), fun z => by omega, fun _ => ?_⟩) (fun z => by omega))
  refine s_areKept h8 m0 (rgn (by omega)) (ibr (fun c => ⟨rgn (by omega), fun z => by omega, fun _ => ?_⟩) (fun c => ?_))
  · have hlt : pl < 2 ^ n := Int.ofNat_lt.mp c.2
    refine s_misGood h8 (by omega) m0 (ibr (fun c2 => ?_) (fun c2 => ?_))
    · rw [← GD_lt hlt] at c2
      unfold wp_X9_calls_43
      exact s_becomes (by omega) (by omega) ⟨hq, fun z => h1 c2 1 (by decide) (by decide), fun z => h1 c2 0 (by decide) (by decide)⟩
    · rw [← GD_lt hlt] at c2
      exact h0 c2 (-3) (by decide) (by decide)
  · exact h0 (fun q => c ⟨by omega, Int.ofNat_lt.mpr (GD_p q)⟩) (-2) (by decide) (by decide)
theorem m_does {τ : St} {s : Su} (hm : moOK (τ 1) s) (hw : wfS s) {k : Nat} (hk : k < 10) {K : Int} {a b : Nat} {vs : Nat → Int} (hc : cKd K a b vs) (h6 : τ 6 (k : Int) = K) (h7 : τ 7 (k : Int) = (a : Int)) (h8' : τ 8 (k : Int) = ((b - a : Nat) : Int)) (hv : ∀ i, i < b → τ 9 (i : Int) = vs i) {post : Int → St → Prop} (hp : ∀ τ' : St, moOK (τ' 1) (doP s K a b vs).1 → (∀ d, d ≠ 1 → τ' d = τ d) → post (if (doP s K a b vs).2 = true then 1 else 0) τ') : wp_X9_does τ k post := by
  obtain ⟨h4, h8, h16, hh, hB, hS, hcal, hl1, hl12⟩ := id hw.1
  obtain ⟨m0, m1, m2, m3, m4, mch, mcal⟩ := id hm.1
  obtain ⟨k1, k2, k3, k4, k5, k6⟩ := hc
  unfold doP at hp
  unfold wp_X9_does
  have va := hv a k2
  have hva := k6 a (Nat.le_refl _) k2
  have hvr : rg (vs a) := ⟨by have := hva.1; omega, by have := hva.2; omega⟩
  rw [h6, h7, h8']
  refine ⟨by omega, by omega, by omega, by omega, by omega, by omega, ?_, fun z => ?_, fun z => ?_, fun z => ?_, fun z => ?_, fun z => ?_⟩
  · rcases k1 with e | e | e | e | e <;> rw [e] <;> decide
  · simp only [if_neg (show ¬ K = 110 by omega), if_neg (show ¬ K = 109 by omega), if_pos z] at hp
    obtain ⟨n, en, hn⟩ := v256 hva
    rw [va, en]
    rw [en, Int.toNat_natCast] at hp
    have hq : τ 1 (1 + 1) = cB s.1 := m2
    refine m_call1 h8 m0 (Or.inl rfl) hn (by rw [hq]; exact chOK_rg hB) (fun g r hr hr0 => ⟨hr, fun y => by omega, fun _ => ?_⟩) (fun g r hr hr0 => ⟨hr, fun _ => ?_, fun y => absurd hr0 y⟩)
    · simp only [if_pos g] at hp
      exact hp _ (moOK_cfg hm (c' := (cN s.1, cM s.1, cH s.1, (n : Int), cS s.1, cC s.1, cL s.1)) (by rw [up_cell]; exact mc_set hm.1 _ _ (Or.inl rfl)) (fun j hj => up_j _ (by omega))) (fun d hd => up_ne _ hd)
    · simp only [if_neg g] at hp
      exact hp τ hm (fun _ _ => rfl)
  · simp only [if_neg (show ¬ K = 110 by omega), if_neg (show ¬ K = 109 by omega), if_neg (show ¬ K = 98 by omega), if_neg (show ¬ K = 115 by omega)] at hp
    obtain ⟨k51, k52⟩ := k5 z
    refine ⟨by omega, by omega, ?_⟩
    intro τ0 e0
    have l2 : ∀ (fu i : Nat) (τ1 : St), i ≤ b - a → b - a < i + fu → (∀ d, d ≠ 1 → τ1 d = τ d) → (∀ j : Int, j ≠ 4 → ¬ (24 ≤ j ∧ j < 36) → τ1 1 j = τ 1 j) → τ1 1 4 = ((b - a : Nat) : Int) → (∀ q : Nat, q < 12 → τ1 1 (24 + (q : Int)) = ((if q < i then (vs (a + q)).toNat else cC s.1 q : Nat) : Int)) → wp_X9_does_118 post fu k i τ1 := by
      intro fu
      induction fu with
      | zero => intro i τ1 x1 x2; omega
      | succ fu ih =>
        intro i τ1 x1 x2 y1 y2 y4 y5
        unfold wp_X9_does_118
        rw [y1 8 (by decide), y1 7 (by decide), y1 9 (by decide), h8', h7]
        refine ⟨by omega, by omega, rgn (by omega), rgn (by omega), fun c => ?_, fun c => ⟨by omega, by omega, by omega, by omega, by omega, by omega, ?_⟩⟩
        · obtain rfl : i = b - a := by omega
          refine hp τ1 (moOK_cfg hm ⟨?_, ?_, ?_, ?_, y4, fun q hq => ?_, fun q hq => y5 q hq⟩ (fun j hj => y2 j (by omega) (by omega))) y1
          · rw [y2 _ (by decide) (by decide)]; exact m0
          · rw [y2 _ (by decide) (by decide)]; exact m1
          · rw [y2 _ (by decide) (by decide)]; exact m2
          · rw [y2 _ (by decide) (by decide)]; exact m3
          · have : q < cM s.1 := hq
            rw [y2 _ (by omega) (by omega)]; exact mch q hq
        · have hi : i < b - a := by omega
          intro τ2 e2
          rw [show ((a : Int) + (i : Int)) = ((a + i : Nat) : Int) by omega, hv (a + i) (by omega)] at e2
          rw [show ((i : Int) + 1) = ((i + 1 : Nat) : Int) by omega]
          refine ih (i + 1) τ2 (by omega) (by omega) (fun d hd => by rw [e2, up_ne _ hd]; exact y1 d hd) (fun j j4 jr => by rw [e2, up_j _ (by omega)]; exact y2 j j4 jr) (by rw [e2, up_j _ (by omega)]; exact y4) (fun q hq => ?_)
          rw [e2]
          by_cases x : q = i
          · have := (k6 (a + i) (by omega) (by omega)).1
            rw [x, up_same, if_pos (by omega)]; omega
          · rw [up_j _ (by omega), y5 q hq]
            by_cases x3 : q < i
            · rw [if_pos x3, if_pos (by omega)]
            · rw [if_neg x3, if_neg (by omega)]
    refine ⟨b - a + 1, l2 (b - a + 1) 0 τ0 (Nat.zero_le _) (by omega) (fun d hd => by rw [e0, up_ne _ hd]) (fun j j4 _ => by rw [e0, up_j _ j4]) (by rw [e0, up_same]) (fun q hq => ?_)⟩
    rw [e0, up_j _ (by omega), if_neg (Nat.not_lt_zero _)]; exact mcal q hq
  · simp only [if_pos z] at hp
    rw [va]
    unfold wp_X9_bells
    refine s_within hvr (by decide) (by decide) (ibr (fun c => ?_) (fun c => ⟨by decide, fun _ => ?_, fun y => absurd (by decide) y⟩))
    · simp only [if_pos c] at hp
      obtain ⟨n, en, hn⟩ := v256 hva
      rw [en] at hp ⊢
      rw [Int.toNat_natCast] at hp
      refine s_mbegins (fun υ u1 u2 => ?_)
      rw [m0]
      exact ⟨rgn (by omega), fun y => by omega, fun _ => hp υ u1 u2⟩
    · simp only [if_neg c] at hp
      exact hp τ hm (fun _ _ => rfl)
  · simp only [if_neg (show ¬ K = 110 by omega), if_neg (show ¬ K = 109 by omega), if_neg (show ¬ K = 98 by omega), if_pos z] at hp
    obtain ⟨n, en, hn⟩ := v256 hva
    rw [va, en]
    rw [en, Int.toNat_natCast] at hp
    have hq : τ 1 (1 + 2) = cS s.1 := m3
    refine m_call1 h8 m0 (Or.inr rfl) hn (by rw [hq]; exact chOK_rg hS) (fun g r hr hr0 => ⟨hr, fun y => by omega, fun _ => ?_⟩) (fun g r hr hr0 => ⟨hr, fun _ => ?_, fun y => absurd hr0 y⟩)
    · simp only [if_pos g] at hp
      exact hp _ (moOK_cfg hm (c' := (cN s.1, cM s.1, cH s.1, cB s.1, (n : Int), cC s.1, cL s.1)) (by rw [up_cell]; exact mc_set hm.1 _ _ (Or.inr rfl)) (fun j hj => up_j _ (by omega))) (fun d hd => up_ne _ hd)
    · simp only [if_neg g] at hp
      exact hp τ hm (fun _ _ => rfl)
  · simp only [if_neg (show ¬ K = 110 by omega), if_pos (show K = 109 by omega)] at hp
    have hb := k4 (by omega)
    have l2 : ∀ (fu i : Nat) (τ1 : St), i ≤ b - a → b - a < i + fu → (alG (cN s.1) vs (b - a) a = true) → (∀ d, d ≠ 1 → τ1 d = τ d) → (∀ j : Int, j ≠ 1 → ¬ (8 ≤ j ∧ j < 24) → τ1 1 j = τ 1 j) → τ1 1 1 = ((b - a : Nat) : Int) → (∀ q : Nat, q < i → τ1 1 (8 + (q : Int)) = ((vs (a + q)).toNat : Int)) → wp_X9_does_182 post fu k i τ1 := by
      intro fu
      induction fu with
      | zero => intro i τ1 x1 x2; omega
      | succ fu ih =>
        intro i τ1 x1 x2 hg y1 y2 y4 y5
        unfold wp_X9_does_182
        rw [y1 8 (by decide), y1 7 (by decide), y1 9 (by decide), h8', h7]
        refine ⟨by omega, by omega, rgn (by omega), rgn (by omega), fun c => ?_, fun c => ⟨by omega, by omega, by omega, by omega, by omega, by omega, ?_⟩⟩
        · obtain rfl : i = b - a := by omega
          simp only [if_pos hg] at hp
          refine hp τ1 (moOK_cfg hm ⟨?_, y4, ?_, ?_, ?_, fun q hq => y5 q hq, fun q hq => ?_⟩ (fun j hj => y2 j (by omega) (by omega))) y1
          · rw [y2 _ (by decide) (by decide)]; exact m0
          · rw [y2 _ (by decide) (by decide)]; exact m2
          · rw [y2 _ (by decide) (by decide)]; exact m3
          · rw [y2 _ (by decide) (by decide)]; exact m4
          · rw [y2 _ (by omega) (by omega)]; exact mcal q hq
        · have hi : i < b - a := by omega
          intro τ2 e2
          rw [show ((a : Int) + (i : Int)) = ((a + i : Nat) : Int) by omega, hv (a + i) (by omega)] at e2
          rw [show ((i : Int) + 1) = ((i + 1 : Nat) : Int) by omega]
          refine ih (i + 1) τ2 (by omega) (by omega) hg (fun d hd => by rw [e2, up_ne _ hd]; exact y1 d hd) (fun j j4 jr => by rw [e2, up_j _ (by omega)]; exact y2 j j4 jr) (by rw [e2, up_j _ (by omega)]; exact y4) (fun q hq => ?_)
          rw [e2]
          by_cases x : q = i
          · have := (k6 (a + i) (by omega) (by omega)).1
            rw [x, up_same]; omega
          · rw [up_j _ (by omega)]; exact y5 q (by omega)
    have l1 : ∀ (fu i : Nat), i ≤ b - a → b - a < i + fu → alG (cN s.1) vs (b - a - i) (a + i) = alG (cN s.1) vs (b - a) a → wp_X9_areGood_2 (fun r5 => (rg r5 ∧ (¬ r5 = 0 → (0 ≤ (k : Int) ∧ (k : Int) < 10 ∧ (∀ σ6 : St, σ6 = up τ 1 1 ((b - a : Nat) : Int) → (∃ n : Nat, wp_X9_does_182 post n k 0 σ6)))) ∧ (r5 = 0 → (post 0 τ)))) fu k i τ := by
      intro fu
      induction fu with
      | zero => intro i x1 x2; omega
      | succ fu ih =>
        intro i x1 x2 hg
        unfold wp_X9_areGood_2
        rw [h8', h7]
        refine ⟨by omega, by omega, rgn (by omega), rgn (by omega), fun c => ?_, fun c => ⟨by omega, by omega, by omega, by omega, ?_⟩⟩
        · obtain rfl : i = b - a := by omega
          rw [Nat.sub_self] at hg
          have hg' : alG (cN s.1) vs (b - a) a = true := hg.symm
          refine ⟨by decide, fun _ => ⟨by omega, by omega, ?_⟩, fun y => absurd y (by decide)⟩
          intro τ1 e1
          exact ⟨b - a + 1, l2 (b - a + 1) 0 τ1 (Nat.zero_le _) (by omega) hg' (fun d hd => by rw [e1, up_ne _ hd]) (fun j j1 _ => by rw [e1, up_j _ j1]) (by rw [e1, up_same]) (fun q hq => absurd hq (Nat.not_lt_zero _))⟩
        · have hi : i < b - a := by omega
          rw [show ((a : Int) + (i : Int)) = ((a + i : Nat) : Int) by omega, hv (a + i) (by omega)]
          obtain ⟨n, en, hn⟩ := v256 (k6 (a + i) (by omega) (by omega))
          obtain ⟨m, hm'⟩ : ∃ m, b - a - i = m + 1 := ⟨b - a - i - 1, by omega⟩
          rw [hm', alG_s] at hg
          rw [en, Int.toNat_natCast] at hg
          rw [en]
          have no : ¬ GD (cN s.1) n = true → (rg (0 : Int) ∧ (¬ (0 : Int) = 0 → (0 ≤ (k : Int) ∧ (k : Int) < 10 ∧ (∀ σ6 : St, σ6 = up τ 1 1 ((b - a : Nat) : Int) → (∃ n : Nat, wp_X9_does_182 post n k 0 σ6)))) ∧ ((0 : Int) = 0 → (post 0 τ))) := fun c2 => by
            rw [if_neg c2] at hg
            have hgf : ¬ alG (cN s.1) vs (b - a) a = true := by rw [← hg]; decide
            simp only [if_neg hgf] at hp
            exact ⟨by decide, fun y => absurd rfl y, fun _ => hp τ hm (fun _ _ => rfl)⟩
          refine s_areKept h8 m0 (rgn (by omega)) (ibs (fun c2 => ?_) (fun c2 => no (fun q => c2 ⟨by omega, Int.ofNat_lt.mpr (GD_p q)⟩)))
          have hlt : n < 2 ^ cN s.1 := Int.ofNat_lt.mp c2.2
          refine s_misGood h8 (by omega) m0 (ibr (fun c3 => ?_) (fun c3 => ?_))
          · rw [← GD_lt hlt] at c3
            rw [if_pos c3] at hg
            rw [show ((i : Int) + 1) = ((i + 1 : Nat) : Int) by omega]
            refine ih (i + 1) (by omega) (by omega) ?_
            rw [show b - a - (i + 1) = m by omega]; exact hg
          · rw [← GD_lt hlt] at c3
            exact no c3
    exact ⟨b - a + 1, l1 (b - a + 1) 0 (Nat.zero_le _) (by omega) (by rw [Nat.sub_zero, Nat.add_zero])⟩
