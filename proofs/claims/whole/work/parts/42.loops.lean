/-! counts over the rows -/
def cntF (p : Nat → Bool) : Nat → Nat → Nat → Nat
  | 0, _, a => a
  | k + 1, r, a => cntF p k (r + 1) (if p r then a + 1 else a)
theorem cntF_le (p : Nat → Bool) : ∀ k r a, cntF p k r a ≤ a + k
  | 0, _, _ => Nat.le_refl _
  | k + 1, r, a => by
    have h1 := cntF_le p k (r + 1) (a + 1)
    have h2 := cntF_le p k (r + 1) a
    show cntF p k (r + 1) (if p r then a + 1 else a) ≤ a + (k + 1)
    by_cases h : p r = true
    · rw [if_pos h]; omega
    · rw [if_neg h]; omega
theorem cntF_t {p : Nat → Bool} {k r a : Nat} (h : p r = true) : cntF p (k + 1) r a = cntF p k (r + 1) (a + 1) := by
  show cntF p k (r + 1) (if p r then a + 1 else a) = _
  rw [if_pos h]
theorem cntF_f {p : Nat → Bool} {k r a : Nat} (h : p r = false) : cntF p (k + 1) r a = cntF p k (r + 1) a := by
  show cntF p k (r + 1) (if p r then a + 1 else a) = _
  rw [if_neg (by rw [h]; decide)]
theorem ie {a b : Nat} : ((a : Int) + 1 = (b : Int) + 1) ↔ a = b := by omega
section
variable {s : Su} {σ τ : St}
/-- still -/
abbrev stB (c : Cf) (b r : Nat) : Bool := PL c r b == PL c (r - 1) b
theorem t_still (h : RT s σ τ) {b : Nat} (h1 : 1 ≤ b) (h2 : b ≤ cN s.1) {post : Int → St → Prop} : ∀ (k fu r a : Nat), r + k = lastC s.1 + 1 → k < fu → 1 ≤ r → a ≤ r → post (cntF (stB s.1 b) k r a : Nat) σ → wp_X8_still_23 post fu b a r σ := by
  have hl := lastC_le h.1.1.1
  intro k
  induction k with
  | zero =>
    intro fu r a e hf hr ha hp
    obtain ⟨fu, rfl⟩ : ∃ f, fu = f + 1 := ⟨fu - 1, by omega⟩
    unfold wp_X8_still_23
    rw [RT_last h]
    exact ⟨rgn (by omega), rgn (by omega), fun _ => hp, fun z => by omega⟩
  | succ k ih =>
    intro fu r a e hf hr ha hp
    obtain ⟨fu, rfl⟩ : ∃ f, fu = f + 1 := ⟨fu - 1, by omega⟩
    unfold wp_X8_still_23
    rw [RT_last h]
    refine ⟨rgn (by omega), rgn (by omega), fun z => by omega, fun _ => ⟨by omega, by omega, t_place h (by omega) h1 h2 ⟨by omega, by omega, ?_⟩⟩⟩
    rw [show (r : Int) - 1 = ((r - 1 : Nat) : Int) by omega]
    refine t_place h (by omega) h1 h2 ?_
    have a1 := (PL_ok h.1.1 (r := r) (by omega) h1 h2).1
    have a2 := (PL_ok h.1.1 (r := r - 1) (by omega) h1 h2).1
    have h8 := h.1.1.1.2.1
    refine ⟨⟨by omega, by omega⟩, ⟨by omega, by omega⟩, fun c => ?_, fun c => ?_⟩
    · rw [cntF_f (by simpa [stB] using fun z => c (ie.mpr z))] at hp
      show wp_X8_still_23 post fu b a ((r : Int) + 1) σ
      rw [show (r : Int) + 1 = ((r + 1 : Nat) : Int) by omega]
      exact ih fu (r + 1) a (by omega) (by omega) (by omega) (by omega) hp
    · rw [cntF_t (by simpa [stB] using ie.mp c)] at hp
      show wp_X8_still_23 post fu b ((a : Int) + 1) ((r : Int) + 1) σ
      rw [show (r : Int) + 1 = ((r + 1 : Nat) : Int) by omega, show (a : Int) + 1 = ((a + 1 : Nat) : Int) by omega]
      exact ih fu (r + 1) (a + 1) (by omega) (by omega) (by omega) (by omega) hp
theorem m_still (h : RM s σ τ) {b : Nat} (h1 : 1 ≤ b) (h2 : b ≤ cN s.1) {post : Int → St → Prop} : ∀ (k fu r a : Nat), r + k = lastC s.1 + 1 → k < fu → 1 ≤ r → a ≤ r → post (cntF (stB s.1 b) k r a : Nat) τ → wp_X9_still_18 post fu b a r τ := by
  have hl := lastC_le h.1.1.1
  intro k
  induction k with
  | zero =>
    intro fu r a e hf hr ha hp
    obtain ⟨fu, rfl⟩ : ∃ f, fu = f + 1 := ⟨fu - 1, by omega⟩
    unfold wp_X9_still_18
    rw [h.2.2]
    exact ⟨rgn (by omega), rgn (by omega), fun _ => hp, fun z => by omega⟩
  | succ k ih =>
    intro fu r a e hf hr ha hp
    obtain ⟨fu, rfl⟩ : ∃ f, fu = f + 1 := ⟨fu - 1, by omega⟩
    unfold wp_X9_still_18
    rw [h.2.2]
    refine ⟨rgn (by omega), rgn (by omega), fun z => by omega, fun _ => m_place h (by omega) h1 h2 ?_⟩
    rw [show (r : Int) - 1 = ((r - 1 : Nat) : Int) by omega]
    refine m_place h (by omega) h1 h2 ?_
    have a1 := (PL_ok h.1.1 (r := r) (by omega) h1 h2).1
    have a2 := (PL_ok h.1.1 (r := r - 1) (by omega) h1 h2).1
    have h8 := h.1.1.1.2.1
    refine ⟨⟨by omega, by omega⟩, ⟨by omega, by omega⟩, fun c => ?_, fun c => ?_⟩
    · rw [cntF_f (by simpa [stB] using fun z => c (ie.mpr z))] at hp
      show wp_X9_still_18 post fu b a ((r : Int) + 1) τ
      rw [show (r : Int) + 1 = ((r + 1 : Nat) : Int) by omega]
      exact ih fu (r + 1) a (by omega) (by omega) (by omega) (by omega) hp
    · rw [cntF_t (by simpa [stB] using ie.mp c)] at hp
      show wp_X9_still_18 post fu b ((a : Int) + 1) ((r : Int) + 1) τ
      rw [show (r : Int) + 1 = ((r + 1 : Nat) : Int) by omega, show (a : Int) + 1 = ((a + 1 : Nat) : Int) by omega]
      exact ih fu (r + 1) (a + 1) (by omega) (by omega) (by omega) (by omega) hp
/-- ahead -/
abbrev ahB (c : Cf) (b d r : Nat) : Bool := PL c r b + 1 == PL c r d
theorem t_right (h : RT s σ τ) {r : Nat} (hr : r ≤ lastC s.1) {b d : Nat} (h1 : 1 ≤ b) (h2 : b ≤ cN s.1) (h3 : 1 ≤ d) (h4 : d ≤ cN s.1) {post : Int → Prop} (hp : post (if ahB s.1 b d r then 1 else 0)) : wp_X2_isRightAhead (σ 50 (r : Int)) b d post := by
  have a1 := (PL_ok h.1.1 hr h1 h2).1
  have a2 := (PL_ok h.1.1 hr h3 h4).1
  have h8 := h.1.1.1.2.1
  unfold wp_X2_isRightAhead
  refine t_place h hr h1 h2 (t_place h hr h3 h4 ⟨⟨by omega, by omega⟩, ⟨by omega, by omega⟩, fun c => ?_, fun c => ?_⟩)
  · rwa [if_neg (by simp [ahB]; omega)] at hp
  · rwa [if_pos (by simp [ahB]; omega)] at hp
theorem t_ahead (h : RT s σ τ) {b d : Nat} (h1 : 1 ≤ b) (h2 : b ≤ cN s.1) (h3 : 1 ≤ d) (h4 : d ≤ cN s.1) {post : Int → St → Prop} : ∀ (k fu r a : Nat), r + k = lastC s.1 + 1 → k < fu → a ≤ r → post (cntF (ahB s.1 b d) k r a : Nat) σ → wp_X8_ahead_37 post fu b d a r σ := by
  have hl := lastC_le h.1.1.1
  intro k
  induction k with
  | zero =>
    intro fu r a e hf ha hp
    obtain ⟨fu, rfl⟩ : ∃ f, fu = f + 1 := ⟨fu - 1, by omega⟩
    unfold wp_X8_ahead_37
    rw [RT_last h]
    exact ⟨rgn (by omega), rgn (by omega), fun _ => hp, fun z => by omega⟩
  | succ k ih =>
    intro fu r a e hf ha hp
    obtain ⟨fu, rfl⟩ : ∃ f, fu = f + 1 := ⟨fu - 1, by omega⟩
    unfold wp_X8_ahead_37
    rw [RT_last h]
    refine ⟨rgn (by omega), rgn (by omega), fun z => by omega, fun _ => ⟨by omega, by omega, t_right h (by omega) h1 h2 h3 h4 (ibs (fun c => ?_) (fun c => ?_))⟩⟩
    · rw [cntF_t c] at hp
      show wp_X8_ahead_37 post fu b d ((a : Int) + 1) ((r : Int) + 1) σ
      rw [show (r : Int) + 1 = ((r + 1 : Nat) : Int) by omega, show (a : Int) + 1 = ((a + 1 : Nat) : Int) by omega]
      exact ih fu (r + 1) (a + 1) (by omega) (by omega) (by omega) hp
    · rw [cntF_f (by simpa using c)] at hp
      show wp_X8_ahead_37 post fu b d a ((r : Int) + 1) σ
      rw [show (r : Int) + 1 = ((r + 1 : Nat) : Int) by omega]
      exact ih fu (r + 1) a (by omega) (by omega) (by omega) hp
theorem m_ahead (h : RM s σ τ) {b d : Nat} (h1 : 1 ≤ b) (h2 : b ≤ cN s.1) (h3 : 1 ≤ d) (h4 : d ≤ cN s.1) {post : Int → St → Prop} : ∀ (k fu r a : Nat), r + k = lastC s.1 + 1 → k < fu → a ≤ r → post (cntF (ahB s.1 b d) k r a : Nat) τ → wp_X9_ahead_32 post fu b d a r τ := by
  have hl := lastC_le h.1.1.1
  intro k
  induction k with
  | zero =>
    intro fu r a e hf ha hp
    obtain ⟨fu, rfl⟩ : ∃ f, fu = f + 1 := ⟨fu - 1, by omega⟩
    unfold wp_X9_ahead_32
    rw [h.2.2]
    exact ⟨rgn (by omega), rgn (by omega), fun _ => hp, fun z => by omega⟩
  | succ k ih =>
    intro fu r a e hf ha hp
    obtain ⟨fu, rfl⟩ : ∃ f, fu = f + 1 := ⟨fu - 1, by omega⟩
    unfold wp_X9_ahead_32
    rw [h.2.2]
    have a1 := (PL_ok h.1.1 (r := r) (by omega) h1 h2).1
    have a2 := (PL_ok h.1.1 (r := r) (by omega) h3 h4).1
    have h8 := h.1.1.1.2.1
    refine ⟨rgn (by omega), rgn (by omega), fun z => by omega, fun _ => m_place h (by omega) h1 h2 (m_place h (by omega) h3 h4 ⟨⟨by omega, by omega⟩, ⟨by omega, by omega⟩, fun c => ?_, fun c => ?_⟩)⟩
    · rw [cntF_f (by simp [ahB]; omega)] at hp
      show wp_X9_ahead_32 post fu b d a ((r : Int) + 1) τ
      rw [show (r : Int) + 1 = ((r + 1 : Nat) : Int) by omega]
      exact ih fu (r + 1) a (by omega) (by omega) (by omega) hp
    · rw [cntF_t (by simp [ahB]; omega)] at hp
      show wp_X9_ahead_32 post fu b d ((a : Int) + 1) ((r : Int) + 1) τ
      rw [show (r : Int) + 1 = ((r + 1 : Nat) : Int) by omega, show (a : Int) + 1 = ((a + 1 : Nat) : Int) by omega]
      exact ih fu (r + 1) (a + 1) (by omega) (by omega) (by omega) hp
end
theorem cnt_rg {p : Nat → Bool} {k r a : Nat} (h : a + k ≤ 1000) : rg ((cntF p k r a : Nat) : Int) := rgn (by have := cntF_le p k r a; omega)
theorem op_still {s : Su} {σ τ : St} (h : RR s σ τ) {v : Int} (hv : rg v) {K : Kt} (hk : ∀ s' σ' τ', RR s' σ' τ' → K σ' τ') : wp_X8_still σ v (fun r1 σ1 => wp_X9_still τ v (fun r2 τ1 => An K r1 r2 σ1 τ1)) := by
  have hl := lastC_le h.1.1
  have h8 := h.1.1.2.1
  unfold wp_X8_still
  refine s_isBell h8 h.2.1.1.1 hv (ibr (fun c => s_rung h (fun σ2 h2 _ _ => ⟨lastC s.1 + 1, ?_⟩)) (fun c => ?_))
  · obtain ⟨b, rfl, hb1, hb⟩ := natOf (v := v) (a := 1) (b := cN s.1) (by omega) (by omega)
    refine t_still h2 hb1 hb (lastC s.1) (lastC s.1 + 1) 1 0 (by omega) (by omega) (by omega) (by omega) ?_
    unfold wp_X9_still
    refine s_isPlace h8 h.2.2.1.1.1 hv (ibr (fun _ => s_mrings h2.1 (fun τ' m _ _ => ⟨lastC s.1 + 1, ?_⟩)) (fun z => absurd c z))
    exact m_still m hb1 hb (lastC s.1) (lastC s.1 + 1) 1 0 (by omega) (by omega) (by omega) (by omega) (An_same (cnt_rg (by omega)) (hk s _ _ m.1))
  · unfold wp_X9_still
    exact s_isPlace h8 h.2.2.1.1.1 hv (ibr (fun z => absurd z c) (fun _ => An_same (by decide) (hk s _ _ h)))
theorem op_ahead {s : Su} {σ τ : St} (h : RR s σ τ) {v w : Int} (hv : rg v) (hw : rg w) {K : Kt} (hk : ∀ s' σ' τ', RR s' σ' τ' → K σ' τ') : wp_X8_ahead σ v w (fun r1 σ1 => wp_X9_ahead τ v w (fun r2 τ1 => An K r1 r2 σ1 τ1)) := by
  have hl := lastC_le h.1.1
  have h8 := h.1.1.2.1
  have bad : ¬ ((1 ≤ v ∧ v ≤ (cN s.1 : Int)) ∧ (1 ≤ w ∧ w ≤ (cN s.1 : Int)) ∧ v ≠ w) → wp_X9_ahead τ v w (fun r2 τ1 => An K (-1) r2 σ τ1) := fun c => by
    unfold wp_X9_ahead
    refine s_isPlace h8 h.2.2.1.1.1 hv (ibs (fun c1 => ?_) (fun _ => An_same (by decide) (hk s _ _ h)))
    refine s_isPlace h8 h.2.2.1.1.1 hw (ibs (fun c2 => ⟨hv, hw, fun c3 => absurd ⟨c1, c2, c3⟩ c, fun _ => An_same (by decide) (hk s _ _ h)⟩) (fun _ => An_same (by decide) (hk s _ _ h)))
  unfold wp_X8_ahead
  refine s_isBell h8 h.2.1.1.1 hv (ibs (fun c1 => ?_) (fun c1 => bad (fun z => c1 z.1)))
  refine s_isBell h8 h.2.1.1.1 hw (ibs (fun c2 => ⟨hv, hw, fun c3 => s_rung h (fun σ2 h2 _ _ => ⟨lastC s.1 + 2, ?_⟩), fun c3 => bad (fun z => z.2.2 c3)⟩) (fun c2 => bad (fun z => c2 z.2.1)))
  obtain ⟨b, rfl, hb1, hb⟩ := natOf (v := v) (a := 1) (b := cN s.1) (by omega) (by omega)
  obtain ⟨d, rfl, hd1, hd⟩ := natOf (v := w) (a := 1) (b := cN s.1) (by omega) (by omega)
  refine t_ahead h2 hb1 hb hd1 hd (lastC s.1 + 1) (lastC s.1 + 2) 0 0 (by omega) (by omega) (by omega) ?_
  unfold wp_X9_ahead
  refine s_isPlace h8 h.2.2.1.1.1 hv (ibs (fun _ => ?_) (fun z => absurd c1 z))
  refine s_isPlace h8 h.2.2.1.1.1 hw (ibs (fun _ => ⟨hv, hw, fun _ => s_mrings h2.1 (fun τ' m _ _ => ⟨lastC s.1 + 2, ?_⟩), fun z => absurd z c3⟩) (fun z => absurd c2 z))
  exact m_ahead m hb1 hb hd1 hd (lastC s.1 + 1) (lastC s.1 + 2) 0 0 (by omega) (by omega) (by omega) (An_same (cnt_rg (by omega)) (hk s _ _ m.1))
