/-! judge -/
def jF (it : Nat → Int) (ln xs : Nat) (f : Nat → Nat) : Nat → Nat → Int
  | 0, _ => -5
  | k + 1, p => if xs + p < ln then (if it (xs + p) = (f p : Int) then jF it ln xs f k (p + 1) else (p : Int) + 1) else 100 + (p : Int)
theorem jF_rg {it : Nat → Int} {ln xs : Nat} {f : Nat → Nat} : ∀ k p, p + k ≤ 100 → rg (jF it ln xs f k p)
  | 0, _, _ => by show rg (-5); decide
  | k + 1, p, h => by
    show rg (if xs + p < ln then (if it (xs + p) = (f p : Int) then jF it ln xs f k (p + 1) else (p : Int) + 1) else 100 + (p : Int))
    by_cases a : xs + p < ln
    · rw [if_pos a]
      by_cases b : it (xs + p) = (f p : Int)
      · rw [if_pos b]; exact jF_rg k (p + 1) (by omega)
      · rw [if_neg b]; exact ⟨by omega, by omega⟩
    · rw [if_neg a]; exact ⟨by omega, by omega⟩
theorem tp_same {s' : Su} {σ σ' τ : St} {t : Nat} {so : Int} {ln : Nat} (ht : t < 6) (h : tp1 σ τ t so ln) (h' : RR s' σ' τ) : tp1 σ' τ t so ln := by
  obtain ⟨so', ln', d1, d2, d3, d4, d5, d6, d7, d8, d9⟩ := tp_get h' ht
  obtain ⟨b1, b2, b3, b4, b5, b6, b7, b8, b9⟩ := h
  have e1 : so' = so := by rw [d7] at b7; omega
  have e2 : ln' = ln := by rw [d8] at b8; omega
  rw [e1] at d5; rw [e2] at d6
  exact ⟨b1, b2, b3, b4, d5, d6, b7, b8, d9⟩
theorem t_judge {s : Su} {τ : St} {t r xs : Nat} {so : Int} {ln : Nat} (ht : t < 6) (hr : r ≤ lastC s.1) (hxs : xs < 2147483648) {post : Int → St → Prop} : ∀ (k fu p : Nat) (σ : St), RR s σ τ → tp1 σ τ t so ln → p + k = cN s.1 → k < fu → (∀ σ' : St, RR s σ' τ → post (jF (fun i => τ 12 (60 * (t : Int) + i)) ln xs (RFc s.1 r) k p) σ') → wp_X8_judge_55 post fu r t xs ((p : Int) + 1) σ := by
  intro k
  induction k with
  | zero =>
    intro fu p σ h h9 e hf hp
    obtain ⟨fu, rfl⟩ : ∃ f, fu = f + 1 := ⟨fu - 1, by omega⟩
    have h8 := h.1.1.2.1
    unfold wp_X8_judge_55
    rw [show σ 1 0 = _ from h.2.1.1.1]
    exact ⟨⟨by omega, by omega⟩, rgn (by omega), fun _ => hp σ h, fun z => by omega⟩
  | succ k ih =>
    intro fu p σ h h9 e hf hp
    obtain ⟨fu, rfl⟩ : ∃ f, fu = f + 1 := ⟨fu - 1, by omega⟩
    have h8 := h.1.1.2.1
    have hl := lastC_le h.1.1
    obtain ⟨b1, b2, b3, b4, b5, b6, b7, b8, b9⟩ := id h9
    unfold wp_X8_judge_55
    rw [show σ 1 0 = _ from h.2.1.1.1]
    refine ⟨⟨by omega, by omega⟩, rgn (by omega), fun z => by omega, fun _ => ?_⟩
    refine s_has b3 (show σ (80 + 2 * t) 1 = ln from b6) ⟨by omega, by omega⟩ ⟨by omega, by omega⟩ (ibr (fun c => ⟨by omega, by omega, s_rung h (fun σ2 h2 _ _ => ⟨by omega, by omega, ?_⟩)⟩) (fun c => ?_))
    · have hlt : xs + p < ln := by omega
      refine t_bell h2 hr (p := p) (by omega) ?_
      have hin := RFc_in h.1 hr (p := p) (by omega)
      have e1 : (xs : Int) + ((p : Int) + 1) - 1 = ((xs + p : Nat) : Int) := by omega
      rw [e1, show σ (81 + 2 * ((t : Nat) : Int).toNat) ((xs + p : Nat) : Int) = τ 12 (60 * (t : Int) + ((xs + p : Nat) : Int)) from (b9 (xs + p) (by omega)).1]
      refine ⟨rgn (by omega), (b9 (xs + p) (by omega)).2, rln (by omega), lcp_rg _ _, fun c2 => ?_, fun c2 => ?_⟩
      · rw [show (p : Int) + 1 + 1 = ((p + 1 : Nat) : Int) + 1 by omega]
        refine ih fu (p + 1) σ2 h2.1 (tp_same ht h9 h2.1) (by omega) (by omega) (fun σ' h' => ?_)
        have := hp σ' h'
        unfold jF at this
        rwa [if_pos hlt, if_pos (lcp_0.mp c2)] at this
      · have := hp σ2 h2.1
        unfold jF at this
        rwa [if_pos hlt, if_neg (fun z => c2 (lcp_0.mpr z))] at this
    · have hlt : ¬ xs + p < ln := by omega
      have := hp σ h
      unfold jF at this
      rw [if_neg hlt] at this
      rwa [show (100 : Int) + ((p : Int) + 1) - 1 = 100 + (p : Int) by omega]
theorem m_judge {s : Su} {σ τ : St} (m : RM s σ τ) {t r xs : Nat} {so : Int} {ln : Nat} (ht : t < 6) (hr : r ≤ lastC s.1) (hxs : xs < 2147483648) (h9 : tp1 σ τ t so ln) {post : Int → St → Prop} : ∀ (k fu p : Nat), p + k = cN s.1 → k < fu → post (jF (fun i => τ 12 (60 * (t : Int) + i)) ln xs (RFc s.1 r) k p) τ → wp_X9_judge_57 post fu r t xs p τ := by
  have h8 := m.1.1.1.2.1
  have hl := lastC_le m.1.1.1
  obtain ⟨b1, b2, b3, b4, b5, b6, b7, b8, b9⟩ := id h9
  intro k
  induction k with
  | zero =>
    intro fu p e hf hp
    obtain ⟨fu, rfl⟩ : ∃ f, fu = f + 1 := ⟨fu - 1, by omega⟩
    unfold wp_X9_judge_57
    rw [m.1.2.2.1.1.1]
    exact ⟨rgn (by omega), rgn (by omega), fun _ => hp, fun z => by omega⟩
  | succ k ih =>
    intro fu p e hf hp
    obtain ⟨fu, rfl⟩ : ∃ f, fu = f + 1 := ⟨fu - 1, by omega⟩
    unfold wp_X9_judge_57
    rw [m.1.2.2.1.1.1, b8]
    refine ⟨rgn (by omega), rgn (by omega), fun z => by omega, fun _ => ⟨⟨by omega, by omega⟩, rgn (by omega), by omega, by omega, rgn (by omega), ⟨by omega, by omega⟩, rln (by omega), lcp_rg _ _, fun c => ?_, fun c => ?_⟩⟩
    · have hlt : xs + p < ln := by have := lcp_n.mp c; omega
      have hin := RFc_in m.1.1 hr (p := p) (by omega)
      rw [RM_row m hr p (by omega), show 60 * (t : Int) + (xs : Int) + (p : Int) = 60 * (t : Int) + ((xs + p : Nat) : Int) by omega]
      refine ⟨by omega, by omega, by omega, by omega, rgn (by omega), (b9 (xs + p) (by omega)).2, rln (by omega), lcp_rg _ _, fun c2 => ?_, fun c2 => ?_⟩
      · rw [show (p : Int) + 1 = ((p + 1 : Nat) : Int) by omega]
        refine ih fu (p + 1) (by omega) (by omega) ?_
        unfold jF at hp
        rwa [if_pos hlt, if_pos (lcp_0.mp c2)] at hp
      · unfold jF at hp
        rwa [if_pos hlt, if_neg (fun z => c2 (lcp_0.mpr z))] at hp
    · have hlt : ¬ xs + p < ln := fun z => c (lcp_n.mpr (by omega))
      unfold jF at hp
      rwa [if_neg hlt] at hp
theorem op_judge {s : Su} {σ τ : St} (h : RR s σ τ) {v w x : Int} (hv : rg v) (hw : rg w) (hx : rg x) {K : Kt} (hk : ∀ s' σ' τ', RR s' σ' τ' → K σ' τ') : wp_X8_judge σ v w x (fun r1 σ1 => wp_X9_judge τ v w x (fun r2 τ1 => An K r1 r2 σ1 τ1)) := by
  have hl := lastC_le h.1.1
  have h8 := h.1.1.2.1
  have h4 := h.1.1.1
  have bad : ¬ ((0 ≤ v ∧ v ≤ (lastC s.1 : Int)) ∧ (0 ≤ w ∧ w ≤ 5)) → ∀ σ' : St, RR s σ' τ → wp_X9_judge τ v w x (fun r2 τ1 => An K (-1) r2 σ' τ1) := fun c σ' h' => by
    unfold wp_X9_judge
    refine s_mrings h' (fun τ' m _ _ => ?_)
    rw [m.2.2]
    refine s_within hv (by decide) (lC_rg h.1) (ibs (fun c1 => ?_) (fun _ => An_same (by decide) (hk s _ _ m.1)))
    exact s_isTape9 hw (ibr (fun c2 => absurd ⟨c1, c2⟩ c) (fun _ => An_same (by decide) (hk s _ _ m.1)))
  unfold wp_X8_judge
  refine s_isRow h hv (fun σ1 h1 _ => ibs (fun c => ?_) (fun c => bad (fun z => c z.1) σ1 h1))
  refine s_isTape8 hw (ibr (fun c2 => ⟨by omega, by omega, ?_⟩) (fun c2 => bad (fun z => c2 z.2) σ1 h1))
  obtain ⟨r, rfl, -, hr⟩ := natOf (v := v) (a := 0) (b := lastC s.1) (by omega) (by omega)
  obtain ⟨t, rfl, -, ht⟩ := natOf (v := w) (a := 0) (b := 5) (by omega) (by omega)
  obtain ⟨so, ln, b⟩ := tp_get h1 (t := t) (by omega)
  obtain ⟨b1, b2, b3, b4, b5, b6, b7, b8, b9⟩ := id b
  have mm : ∀ (σ' : St) (y : Int), RR s σ' τ → (so ≤ 0 → x < 0 → y = 100) → (so ≤ 0 → ∀ xs : Nat, x = (xs : Int) → y = jF (fun i => τ 12 (60 * (t : Int) + i)) ln xs (RFc s.1 r) (cN s.1) 0) → (0 < so → y = -12) → wp_X9_judge τ r t x (fun r2 τ1 => An K y r2 σ' τ1) := by
    intro σ' y h' y1 y2 y3
    unfold wp_X9_judge
    refine s_mrings h' (fun τ' m _ md => ?_)
    have g10 : τ' 10 = τ 10 := md 10 (by decide) (by decide) (by decide)
    have g11 : τ' 11 = τ 11 := md 11 (by decide) (by decide) (by decide)
    have g12 : τ' 12 = τ 12 := md 12 (by decide) (by decide) (by decide)
    rw [m.2.2]
    refine s_within hv (by decide) (lC_rg h.1) (ibs (fun _ => ?_) (fun z => absurd c z))
    refine s_isTape9 hw (ibr (fun _ => ⟨by omega, by omega, ?_⟩) (fun z => absurd c2 z))
    rw [g10, b7]
    have hKm := hk s σ' τ' m.1
    refine ⟨⟨by omega, by omega⟩, fun e1 => ⟨by omega, by omega, ⟨by omega, by omega⟩, fun e2 => ?_, fun e2 => ⟨hx, fun e3 => ?_, fun e3 => ?_⟩⟩, fun e1 => ?_⟩
    · have hy : y = 100 := by
        by_cases z : x < 0
        · exact y1 (by omega) z
        · have := y2 (by omega) x.toNat (by omega)
          rw [this]
          have hln : ln = 0 := b4 (by omega)
          obtain ⟨k, hk4⟩ : ∃ k, cN s.1 = k + 1 := ⟨cN s.1 - 1, by omega⟩
          rw [hk4, hln]
          show (if x.toNat + 0 < 0 then _ else (100 : Int) + ((0 : Nat) : Int)) = 100
          rw [if_neg (by omega)]; rfl
      rw [hy]; exact An_same (by decide) hKm
    · obtain ⟨xs, hxs⟩ : ∃ n : Nat, x = (n : Int) := ⟨x.toNat, by omega⟩
      have hy := y2 (by omega) xs hxs
      subst hxs
      have hx2 : xs < 2147483648 := by obtain ⟨_, _⟩ := hx; omega
      refine ⟨cN s.1 + 1, m_judge m (so := so) (ln := ln) (by omega) hr hx2 ?_ (cN s.1) (cN s.1 + 1) 0 (by omega) (by omega) ?_⟩
      · have := tp_same (by omega) b h'
        obtain ⟨q1, q2, q3, q4, q5, q6, q7, q8, q9⟩ := this
        exact ⟨q1, q2, q3, q4, q5, q6, by rw [g10]; exact q7, by rw [g11]; exact q8, by rw [g12]; exact q9⟩
      · rw [g12, ← hy]
        rw [hy]
        exact An_same (jF_rg _ _ (by omega)) hKm
    · rw [y1 (by omega) (by omega)]; exact An_same (by decide) hKm
    · rw [y3 (by omega)]; exact An_same (by decide) hKm
  rw [show σ1 (80 + 2 * ((t : Nat) : Int).toNat) 0 = so from b5]
  have k45 : so ≤ 0 → wp_X8_judge_45 (fun r1 σ1 => wp_X9_judge τ r t x (fun r2 τ1 => An K r1 r2 σ1 τ1)) r t x σ1 := by
    intro hso
    refine ⟨hx, fun e => ?_, fun e => mm σ1 100 h1 (fun _ _ => rfl) (fun _ xs hxs => by omega) (fun z => by omega)⟩
    obtain ⟨xs, rfl⟩ : ∃ n : Nat, x = (n : Int) := ⟨x.toNat, by omega⟩
    have hx2 : xs < 2147483648 := by obtain ⟨_, _⟩ := hx; omega
    refine ⟨cN s.1 + 1, t_judge (so := so) (ln := ln) (by omega) hr hx2 (cN s.1) (cN s.1 + 1) 0 σ1 h1 b (by omega) (by omega) (fun σ' h' => ?_)⟩
    exact mm σ' _ h' (fun _ z => by omega) (fun _ xs' hxs' => by rw [show xs' = xs by omega]) (fun z => by omega)
  exact ⟨⟨by omega, by omega⟩, fun e => k45 (by omega), fun e => ⟨⟨by omega, by omega⟩, fun e2 => k45 (by omega), fun e2 => mm σ1 (-12) h1 (fun z => by omega) (fun z => by omega) (fun _ => rfl)⟩⟩
