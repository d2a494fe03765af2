/-! music's counts, odds, mean -/
theorem t_count {s : Su} {σ τ : St} (h : RT s σ τ) {v : Nat} (hv : v < 4) {post : Int → St → Prop} : ∀ (k fu r a : Nat), r + k = lastC s.1 + 1 → k < fu → a ≤ r → post (cntF (MU s v) k r a : Nat) σ → wp_X8_countMusic_13 post fu v a r σ := by
  have hl := lastC_le h.1.1.1
  intro k
  induction k with
  | zero =>
    intro fu r a e hf ha hp
    obtain ⟨fu, rfl⟩ : ∃ f, fu = f + 1 := ⟨fu - 1, by omega⟩
    unfold wp_X8_countMusic_13
    rw [RT_last h]
    exact ⟨rgn (by omega), rgn (by omega), fun _ => hp, fun z => by omega⟩
  | succ k ih =>
    intro fu r a e hf ha hp
    obtain ⟨fu, rfl⟩ : ∃ f, fu = f + 1 := ⟨fu - 1, by omega⟩
    unfold wp_X8_countMusic_13
    rw [RT_last h]
    refine ⟨rgn (by omega), rgn (by omega), fun z => by omega, fun _ => ⟨by omega, by omega, t_isMusic h (r := r) (by omega) hv (ibs (fun c => ?_) (fun c => ?_))⟩⟩
    · rw [cntF_t c] at hp
      show wp_X8_countMusic_13 post fu v ((a : Int) + 1) ((r : Int) + 1) σ
      rw [show (r : Int) + 1 = ((r + 1 : Nat) : Int) by omega, show (a : Int) + 1 = ((a + 1 : Nat) : Int) by omega]
      exact ih fu (r + 1) (a + 1) (by omega) (by omega) (by omega) hp
    · rw [cntF_f (by simpa using c)] at hp
      show wp_X8_countMusic_13 post fu v a ((r : Int) + 1) σ
      rw [show (r : Int) + 1 = ((r + 1 : Nat) : Int) by omega]
      exact ih fu (r + 1) a (by omega) (by omega) (by omega) hp
theorem m_musicOf {s : Su} {σ τ : St} (h : RM s σ τ) {v : Nat} (hv : v < 4) {post : Int → Prop} (hp : post (cntF (MU s v) (lastC s.1) 1 0 : Nat)) : wp_X9_musicOf τ v post := by
  have hl := lastC_le h.1.1.1
  have l : ∀ (k fu r a : Nat), r + k = lastC s.1 + 1 → k < fu → a ≤ r → post (cntF (MU s v) k r a : Nat) → wp_X9_musicOf_4 post fu v a r τ := by
    intro k
    induction k with
    | zero =>
      intro fu r a e hf ha hp
      obtain ⟨fu, rfl⟩ : ∃ f, fu = f + 1 := ⟨fu - 1, by omega⟩
      unfold wp_X9_musicOf_4
      rw [h.2.2]
      exact ⟨rgn (by omega), rgn (by omega), fun _ => hp, fun z => by omega⟩
    | succ k ih =>
      intro fu r a e hf ha hp
      obtain ⟨fu, rfl⟩ : ∃ f, fu = f + 1 := ⟨fu - 1, by omega⟩
      unfold wp_X9_musicOf_4
      rw [h.2.2]
      refine ⟨rgn (by omega), rgn (by omega), fun z => by omega, fun _ => m_isMusic h (r := r) (by omega) hv (ibs (fun c => ?_) (fun c => ?_))⟩
      · rw [cntF_t c] at hp
        show wp_X9_musicOf_4 post fu v ((a : Int) + 1) ((r : Int) + 1) τ
        rw [show (r : Int) + 1 = ((r + 1 : Nat) : Int) by omega, show (a : Int) + 1 = ((a + 1 : Nat) : Int) by omega]
        exact ih fu (r + 1) (a + 1) (by omega) (by omega) (by omega) hp
      · rw [cntF_f (by simpa using c)] at hp
        show wp_X9_musicOf_4 post fu v a ((r : Int) + 1) τ
        rw [show (r : Int) + 1 = ((r + 1 : Nat) : Int) by omega]
        exact ih fu (r + 1) a (by omega) (by omega) (by omega) hp
  exact ⟨lastC s.1 + 1, l (lastC s.1) (lastC s.1 + 1) 1 0 (by omega) (by omega) (by omega) hp⟩
theorem t_countMusic {s : Su} {σ τ : St} (h : RR s σ τ) {v : Nat} (hv : v < 4) {post : Int → St → Prop} (hp : ∀ σ' : St, RT s σ' τ → post (cntF (MU s v) (lastC s.1) 1 0 : Nat) σ') : wp_X8_countMusic σ v post := by
  unfold wp_X8_countMusic
  exact s_rung h (fun σ1 h1 _ _ => ⟨lastC s.1 + 1, t_count h1 hv (lastC s.1) (lastC s.1 + 1) 1 0 (by omega) (by omega) (by omega) (hp σ1 h1)⟩)
theorem op_music {s : Su} {σ τ : St} (h : RR s σ τ) {v : Int} (hv : rg v) {K : Kt} (hk : ∀ s' σ' τ', RR s' σ' τ' → K σ' τ') : wp_X8_music σ v (fun r1 σ1 => wp_X9_music τ v (fun r2 τ1 => An K r1 r2 σ1 τ1)) := by
  have hl := lastC_le h.1.1
  have bad : ¬ (0 ≤ v ∧ v ≤ 3) → wp_X9_music τ v (fun r2 τ1 => An K (-1) r2 σ τ1) := fun c => by
    unfold wp_X9_music
    exact s_within hv (by decide) (by decide) (ibr (fun z => absurd z c) (fun _ => An_same (by decide) (hk s _ _ h)))
  unfold wp_X8_music
  refine ⟨hv, fun c => bad (by omega), fun c => ⟨hv, fun c2 => ?_, fun c2 => bad (by omega)⟩⟩
  obtain ⟨k, rfl, -, hk4⟩ := natOf (v := v) (a := 0) (b := 3) (by omega) (by omega)
  refine t_countMusic h (by omega) (fun σ1 h1 => ?_)
  unfold wp_X9_music
  refine s_within hv (by decide) (by decide) (ibr (fun _ => s_mrings h1.1 (fun τ' m _ _ => ?_)) (fun z => by omega))
  exact m_musicOf m (by omega) (An_same (cnt_rg (by omega)) (hk s _ _ m.1))
theorem nat_tmod (a b : Nat) : ((a : Int).tmod (b : Int)) = ((a % b : Nat) : Int) := (Int.ofNat_tmod a b).symm
theorem nat_tdiv (a b : Nat) : ((a : Int).tdiv (b : Int)) = ((a / b : Nat) : Int) := (Int.ofNat_tdiv a b).symm
theorem s_lowestTerms {a b : Nat} (ha : a ≤ 1000) (hb1 : 1 ≤ b) (hb : b ≤ 1000) {v : Int} (hv : rg v) {post : Int → Prop} (hp : post (((if v = 0 then a else b) / Nat.gcd a b : Nat) : Int)) : wp_X8_lowestTerms a b v post := by
  have l : ∀ (x : Nat), x ≤ 1000 → post ((x / Nat.gcd a b : Nat) : Int) → ∀ (fu d : Nat), d < fu → 1 ≤ d → d ≤ b → (∀ e, d < e → e ≤ b → ¬ (a % e = 0 ∧ b % e = 0)) → wp_X8_lowestTerms_13 post fu a b x d := by
    intro x hx hp fu
    induction fu with
    | zero => intro d h1; omega
    | succ fu ih =>
      intro d h1 h2 h3 h4
      unfold wp_X8_lowestTerms_13
      have g1 : a % Nat.gcd a b = 0 := Nat.mod_eq_zero_of_dvd (Nat.gcd_dvd_left a b)
      have g2 : b % Nat.gcd a b = 0 := Nat.mod_eq_zero_of_dvd (Nat.gcd_dvd_right a b)
      have g3 : Nat.gcd a b ≤ b := Nat.gcd_le_right a (by omega)
      have g4 : 0 < Nat.gcd a b := Nat.gcd_pos_of_pos_right a (by omega)
      have g5 : Nat.gcd a b ≤ d := by
        rcases Nat.lt_or_ge d (Nat.gcd a b) with z | z
        · exact absurd ⟨g1, g2⟩ (h4 _ z g3)
        · exact z
      have nx : ¬ (a % d = 0 ∧ b % d = 0) → 1 < d → wp_X8_lowestTerms_39 (wp_X8_lowestTerms_13 post fu) post a b x d := fun z1 z2 => by
        show wp_X8_lowestTerms_13 post fu a b x ((d : Int) + (-1))
        rw [show (d : Int) + (-1) = ((d - 1 : Nat) : Int) by omega]
        refine ih (d - 1) (by omega) (by omega) (by omega) (fun e e1 e2 => ?_)
        by_cases q : e = d
        · rw [q]; exact z1
        · exact h4 e (by omega) e2
      refine ⟨rgn (by omega), fun c => ⟨rgn (by omega), ?_⟩, fun c => ?_⟩
      · have : Nat.gcd a b = 1 := by omega
        rwa [this, Nat.div_one] at hp
      · rw [nat_tmod, nat_tmod, nat_tdiv]
        have q1 : a % d ≤ 1000 := by have := Nat.mod_le a d; omega
        have q2 : b % d ≤ 1000 := by have := Nat.mod_le b d; omega
        have q3 : x / d ≤ 1000 := by have := Nat.div_le_self x d; omega
        refine ⟨rgn (by omega), rgn (by omega), by omega, rgn q1, fun c1 => nx (fun z => by omega) (by omega), fun c1 => ⟨rgn (by omega), rgn (by omega), by omega, rgn q2, fun c2 => nx (fun z => by omega) (by omega), fun c2 => ⟨rgn (by omega), rgn (by omega), by omega, rgn q3, ?_⟩⟩⟩
        have : Nat.gcd a b = d := by
          have q4 : d ∣ Nat.gcd a b := Nat.dvd_gcd (Nat.dvd_of_mod_eq_zero (by omega)) (Nat.dvd_of_mod_eq_zero (by omega))
          have := Nat.le_of_dvd g4 q4
          omega
        rwa [this] at hp
  unfold wp_X8_lowestTerms
  refine ⟨hv, fun c => ?_, fun c => ?_⟩
  · rw [if_neg c] at hp
    exact ⟨b + 1, l b hb hp (b + 1) b (by omega) hb1 (Nat.le_refl _) (fun e e1 e2 => by omega)⟩
  · rw [if_pos c] at hp
    exact ⟨b + 1, l a ha hp (b + 1) b (by omega) hb1 (Nat.le_refl _) (fun e e1 e2 => by omega)⟩
theorem s_lowest {a b : Nat} (ha : a ≤ 1000) (hb1 : 1 ≤ b) (hb : b ≤ 1000) {v : Int} (hv : rg v) {post : Int → Prop} (hp : post (((if v = 0 then a else b) / Nat.gcd a b : Nat) : Int)) : wp_X9_lowest a b v post := by
  have l : ∀ (fu x y : Nat), y < fu → x ≤ 1000 → y ≤ 1000 → Nat.gcd x y = Nat.gcd a b → wp_X9_lowest_5 post fu a b v x y := by
    intro fu
    induction fu with
    | zero => intro x y h1; omega
    | succ fu ih =>
      intro x y h1 h2 h3 h4
      unfold wp_X9_lowest_5
      have g4 : 0 < Nat.gcd a b := Nat.gcd_pos_of_pos_right a (by omega)
      refine ⟨rgn (by omega), fun c => ?_, fun c => ?_⟩
      · have hy : y = 0 := by omega
        rw [hy, Nat.gcd_zero_right] at h4
        subst h4
        rw [nat_tdiv, nat_tdiv]
        have q1 : a / Nat.gcd a b ≤ 1000 := by have := Nat.div_le_self a (Nat.gcd a b); omega
        have q2 : b / Nat.gcd a b ≤ 1000 := by have := Nat.div_le_self b (Nat.gcd a b); omega
        refine ⟨hv, fun c2 => ⟨rgn (by omega), rgn (by omega), by omega, rgn q2, ?_⟩, fun c2 => ⟨rgn (by omega), rgn (by omega), by omega, rgn q1, ?_⟩⟩
        · rwa [if_neg c2] at hp
        · rwa [if_pos c2] at hp
      · rw [nat_tmod]
        have q := Nat.mod_lt x (show y > 0 by omega)
        refine ⟨rgn (by omega), rgn (by omega), by omega, ih y (x % y) (by omega) (by omega) (by omega) ?_⟩
        rw [← h4, Nat.gcd_comm x y, Nat.gcd_rec y x, Nat.gcd_comm]
  exact ⟨1002, l 1002 a b (by omega) ha hb rfl⟩
theorem lt_rl {a b : Nat} (ha : a ≤ 1000) (hb : b ≤ 1000) {v : Int} : ((if v = 0 then a else b) / Nat.gcd a b) ≤ 1000 := by
  have h1 := Nat.div_le_self (if v = 0 then a else b) (Nat.gcd a b)
  by_cases c : v = 0
  · rw [if_pos c] at h1 ⊢; omega
  · rw [if_neg c] at h1 ⊢; omega
theorem rln {n : Nat} (h : n ≤ 1000) : rl (n : Int) := ⟨by omega, by omega⟩
/-- both calls' long answers -/
abbrev Al (K : Kt) (r1 r2 : Int) (σ τ : St) : Prop := rl r1 ∧ rl r2 ∧ r1 = r2 ∧ K σ τ
theorem Al_same {K : Kt} {r : Int} {σ τ : St} (hr : rl r) (h : K σ τ) : Al K r r σ τ := ⟨hr, hr, rfl, h⟩
theorem s_isPart {v : Int} (hv : rg v) {post : Int → Prop} (hp : post (if 0 ≤ v ∧ v ≤ 1 then 1 else 0)) : wp_X8_isPart v post := by
  unfold wp_X8_isPart
  refine ⟨hv, fun c => ?_, fun c => ⟨hv, fun c2 => ?_, fun c2 => ?_⟩⟩
  · rwa [if_pos (by omega)] at hp
  · rwa [if_neg (by omega)] at hp
  · rwa [if_pos (by omega)] at hp
abbrev odB (c : Cf) (b q r : Nat) : Bool := PL c r b == q
theorem PL_row {s : Su} (h : wfS s) {r : Nat} (hr : r ≤ lastC s.1) {b : Nat} (h1 : 1 ≤ b) (h2 : b ≤ cN s.1) {q : Nat} (hq : q < cN s.1) : PL s.1 r b = q ↔ RFc s.1 r q = b := by
  obtain ⟨a, e, -⟩ := PL_ok h hr h1 h2
  constructor
  · intro z; rw [← z]; exact e
  · intro z; exact RF_inj h.1.1 h.1.2.1 (stp_ok h.1 (Nat.le_refl _)) r hr _ _ a hq (e.trans z.symm)
theorem t_odds {s : Su} {σ τ : St} (h : RT s σ τ) {b q : Nat} (h1 : 1 ≤ b) (h2 : b ≤ cN s.1) (hq : q < cN s.1) {w : Int} (hw : rg w) {post : Int → St → Prop} : ∀ (k fu r a : Nat), r + k = lastC s.1 + 1 → k < fu → a ≤ r → (∀ x : Nat, x = cntF (odB s.1 b q) k r a → post (((if w = 0 then x else lastC s.1 + 1) / Nat.gcd x (lastC s.1 + 1) : Nat) : Int) σ) → wp_X8_odds_42 post fu b ((q : Int) + 1) w a r σ := by
  have hl := lastC_le h.1.1.1
  have h8 := h.1.1.1.2.1
  intro k
  induction k with
  | zero =>
    intro fu r a e hf ha hp
    obtain ⟨fu, rfl⟩ : ∃ f, fu = f + 1 := ⟨fu - 1, by omega⟩
    unfold wp_X8_odds_42
    rw [RT_last h]
    refine ⟨rgn (by omega), rgn (by omega), fun _ => ?_, fun z => by omega⟩
    rw [show (lastC s.1 : Int) + 1 = ((lastC s.1 + 1 : Nat) : Int) by omega]
    exact s_lowestTerms (by omega) (by omega) (by omega) hw (hp a rfl)
  | succ k ih =>
    intro fu r a e hf ha hp
    obtain ⟨fu, rfl⟩ : ∃ f, fu = f + 1 := ⟨fu - 1, by omega⟩
    unfold wp_X8_odds_42
    rw [RT_last h]
    have hin := RFc_in h.1.1 (r := r) (by omega) hq
    have hiff := PL_row h.1.1 (r := r) (by omega) h1 h2 hq
    refine ⟨rgn (by omega), rgn (by omega), fun z => by omega, fun _ => ⟨by omega, by omega, t_bell h (by omega) hq ⟨rgn (by omega), rgn (by omega), fun c => ?_, fun c => ?_⟩⟩⟩
    · show wp_X8_odds_42 post fu b ((q : Int) + 1) w a ((r : Int) + 1) σ
      rw [show (r : Int) + 1 = ((r + 1 : Nat) : Int) by omega]
      refine ih fu (r + 1) a (by omega) (by omega) (by omega) (fun x hx => hp x ?_)
      rw [cntF_f (by simp only [odB, beq_eq_false_iff_ne]; intro z; have := hiff.mp z; omega)]; exact hx
    · show wp_X8_odds_42 post fu b ((q : Int) + 1) w ((a : Int) + 1) ((r : Int) + 1) σ
      rw [show (r : Int) + 1 = ((r + 1 : Nat) : Int) by omega, show (a : Int) + 1 = ((a + 1 : Nat) : Int) by omega]
      refine ih fu (r + 1) (a + 1) (by omega) (by omega) (by omega) (fun x hx => hp x ?_)
      rw [cntF_t (by simp only [odB, beq_iff_eq]; exact hiff.mpr (by omega))]; exact hx
theorem m_odds {s : Su} {σ τ : St} (h : RM s σ τ) {b q : Nat} (h1 : 1 ≤ b) (h2 : b ≤ cN s.1) (hq : q < cN s.1) {w : Int} (hw : rg w) {post : Int → St → Prop} : ∀ (k fu r a : Nat), r + k = lastC s.1 + 1 → k < fu → a ≤ r → (∀ x : Nat, x = cntF (odB s.1 b q) k r a → post (((if w = 0 then x else lastC s.1 + 1) / Nat.gcd x (lastC s.1 + 1) : Nat) : Int) τ) → wp_X9_odds_39 post fu b ((q : Int) + 1) w a r τ := by
  have hl := lastC_le h.1.1.1
  have h8 := h.1.1.1.2.1
  intro k
  induction k with
  | zero =>
    intro fu r a e hf ha hp
    obtain ⟨fu, rfl⟩ : ∃ f, fu = f + 1 := ⟨fu - 1, by omega⟩
    unfold wp_X9_odds_39
    rw [h.2.2]
    refine ⟨rgn (by omega), rgn (by omega), fun _ => ?_, fun z => by omega⟩
    rw [show (lastC s.1 : Int) + 1 = ((lastC s.1 + 1 : Nat) : Int) by omega]
    exact s_lowest (by omega) (by omega) (by omega) hw (hp a rfl)
  | succ k ih =>
    intro fu r a e hf ha hp
    obtain ⟨fu, rfl⟩ : ∃ f, fu = f + 1 := ⟨fu - 1, by omega⟩
    unfold wp_X9_odds_39
    rw [h.2.2]
    have a1 := (PL_ok h.1.1 (r := r) (by omega) h1 h2).1
    refine ⟨rgn (by omega), rgn (by omega), fun z => by omega, fun _ => m_place h (by omega) h1 h2 ⟨⟨by omega, by omega⟩, ⟨by omega, by omega⟩, fun c => ?_, fun c => ?_⟩⟩
    · show wp_X9_odds_39 post fu b ((q : Int) + 1) w a ((r : Int) + 1) τ
      rw [show (r : Int) + 1 = ((r + 1 : Nat) : Int) by omega]
      refine ih fu (r + 1) a (by omega) (by omega) (by omega) (fun x hx => hp x ?_)
      rw [cntF_f (by simp only [odB, beq_eq_false_iff_ne]; omega)]; exact hx
    · show wp_X9_odds_39 post fu b ((q : Int) + 1) w ((a : Int) + 1) ((r : Int) + 1) τ
      rw [show (r : Int) + 1 = ((r + 1 : Nat) : Int) by omega, show (a : Int) + 1 = ((a + 1 : Nat) : Int) by omega]
      refine ih fu (r + 1) (a + 1) (by omega) (by omega) (by omega) (fun x hx => hp x ?_)
      rw [cntF_t (by simp only [odB, beq_iff_eq]; omega)]; exact hx
theorem op_odds {s : Su} {σ τ : St} (h : RR s σ τ) {v w x : Int} (hv : rg v) (hw : rg w) (hx : rg x) {K : Kt} (hk : ∀ s' σ' τ', RR s' σ' τ' → K σ' τ') : wp_X8_odds σ v w x (fun r1 σ1 => wp_X9_odds τ v w x (fun r2 τ1 => Al K r1 r2 σ1 τ1)) := by
  have hl := lastC_le h.1.1
  have h8 := h.1.1.2.1
  have s0 := h.2.1.1.1
  have m0 := h.2.2.1.1.1
  have bad : ¬ ((1 ≤ v ∧ v ≤ (cN s.1 : Int)) ∧ (1 ≤ w ∧ w ≤ (cN s.1 : Int)) ∧ (0 ≤ x ∧ x ≤ 1)) → wp_X9_odds τ v w x (fun r2 τ1 => Al K (-9223372036854775808) r2 σ τ1) := fun c => by
    unfold wp_X9_odds
    have e : Al K (-9223372036854775808) (-9223372036854775808) σ τ := Al_same (by constructor <;> decide) (hk s _ _ h)
    refine s_isPlace h8 m0 hv (ibs (fun c1 => ?_) (fun _ => e))
    refine s_isPlace h8 m0 hw (ibs (fun c2 => ?_) (fun _ => e))
    exact s_within hx (by decide) (by decide) (ibr (fun c3 => absurd ⟨c1, c2, c3⟩ c) (fun _ => e))
  unfold wp_X8_odds
  refine s_isBell h8 s0 hv (ibs (fun c1 => ?_) (fun c1 => bad (fun z => c1 z.1)))
  refine s_isBell h8 s0 hw (ibs (fun c2 => ?_) (fun c2 => bad (fun z => c2 z.2.1)))
  refine s_isPart hx (ibr (fun c3 => s_rung h (fun σ4 h4 _ _ => ⟨lastC s.1 + 2, ?_⟩)) (fun c3 => bad (fun z => c3 z.2.2)))
  obtain ⟨b, rfl, hb1, hb⟩ := natOf (v := v) (a := 1) (b := cN s.1) (by omega) (by omega)
  obtain ⟨q, hq1, -, hq⟩ := natOf (v := w - 1) (a := 0) (b := cN s.1 - 1) (by omega) (by omega)
  obtain rfl : w = (q : Int) + 1 := by omega
  refine t_odds h4 hb1 hb (by omega) hx (lastC s.1 + 1) (lastC s.1 + 2) 0 0 (by omega) (by omega) (by omega) (fun y hy => ?_)
  have hyb : y ≤ lastC s.1 + 1 := by rw [hy]; have := cntF_le (odB s.1 b q) (lastC s.1 + 1) 0 0; omega
  unfold wp_X9_odds
  refine s_isPlace h8 m0 hv (ibs (fun _ => ?_) (fun z => absurd c1 z))
  refine s_isPlace h8 m0 hw (ibs (fun _ => ?_) (fun z => absurd c2 z))
  refine s_within hx (by decide) (by decide) (ibr (fun _ => s_mrings h4.1 (fun τ' m _ _ => ⟨lastC s.1 + 2, ?_⟩)) (fun z => absurd c3 z))
  refine m_odds m hb1 hb (by omega) hx (lastC s.1 + 1) (lastC s.1 + 2) 0 0 (by omega) (by omega) (by omega) (fun y2 hy2 => ?_)
  rw [hy2, ← hy]
  exact Al_same (rln (lt_rl (by omega) (by omega))) (hk s _ _ m.1)
theorem t_mean {s : Su} {τ : St} {w : Int} (hw : rg w) {post : Int → St → Prop} (hl : lastC s.1 ≤ 192) (hp : ∀ σ' : St, RT s σ' τ → ∀ x : Nat, x = cntF (MU s 0) (lastC s.1) 1 0 + cntF (MU s 1) (lastC s.1) 1 0 + cntF (MU s 2) (lastC s.1) 1 0 + cntF (MU s 3) (lastC s.1) 1 0 → post (((if w = 0 then x else lastC s.1 + 1) / Nat.gcd x (lastC s.1 + 1) : Nat) : Int) σ') {σ : St} (h : RR s σ τ) : wp_X8_mean_15 post 5 w 0 0 σ := by
  have b := fun k => cntF_le (MU s k) (lastC s.1) 1 0
  have b0 := b 0; have b1 := b 1; have b2 := b 2; have b3 := b 3
  refine ⟨by decide, fun z => absurd z (by decide), fun _ => t_countMusic (v := 0) h (by decide) (fun σ1 h1 => ?_)⟩
  refine ⟨by decide, fun z => absurd z (by decide), fun _ => t_countMusic (v := 1) h1.1 (by decide) (fun σ2 h2 => ?_)⟩
  refine ⟨by decide, fun z => absurd z (by decide), fun _ => t_countMusic (v := 2) h2.1 (by decide) (fun σ3 h3 => ?_)⟩
  refine ⟨by decide, fun z => absurd z (by decide), fun _ => t_countMusic (v := 3) h3.1 (by decide) (fun σ4 h4 => ?_)⟩
  refine ⟨by decide, fun _ => s_rung h4.1 (fun σ5 h5 _ _ => ?_), fun z => absurd (by decide) z⟩
  rw [RT_last h5, show (lastC s.1 : Int) + 1 = ((lastC s.1 + 1 : Nat) : Int) by omega, show (0 : Int) + (cntF (MU s 0) (lastC s.1) 1 0 : Nat) + (cntF (MU s 1) (lastC s.1) 1 0 : Nat) + (cntF (MU s 2) (lastC s.1) 1 0 : Nat) + (cntF (MU s 3) (lastC s.1) 1 0 : Nat) = ((cntF (MU s 0) (lastC s.1) 1 0 + cntF (MU s 1) (lastC s.1) 1 0 + cntF (MU s 2) (lastC s.1) 1 0 + cntF (MU s 3) (lastC s.1) 1 0 : Nat) : Int) by omega]
  exact s_lowestTerms (by omega) (by omega) (by omega) hw (hp σ5 h5 _ rfl)
theorem m_mean {s : Su} {σ τ : St} {w : Int} (hw : rg w) {post : Int → St → Prop} (hl : lastC s.1 ≤ 192) (m : RM s σ τ) (hp : ∀ x : Nat, x = cntF (MU s 0) (lastC s.1) 1 0 + cntF (MU s 1) (lastC s.1) 1 0 + cntF (MU s 2) (lastC s.1) 1 0 + cntF (MU s 3) (lastC s.1) 1 0 → post (((if w = 0 then x else lastC s.1 + 1) / Nat.gcd x (lastC s.1 + 1) : Nat) : Int) τ) : wp_X9_mean_21 post 5 w 0 0 τ := by
  have b := fun k => cntF_le (MU s k) (lastC s.1) 1 0
  have b0 := b 0; have b1 := b 1; have b2 := b 2; have b3 := b 3
  refine ⟨by decide, fun z => absurd z (by decide), fun _ => m_musicOf (v := 0) m (by decide) ?_⟩
  refine ⟨by decide, fun z => absurd z (by decide), fun _ => m_musicOf (v := 1) m (by decide) ?_⟩
  refine ⟨by decide, fun z => absurd z (by decide), fun _ => m_musicOf (v := 2) m (by decide) ?_⟩
  refine ⟨by decide, fun z => absurd z (by decide), fun _ => m_musicOf (v := 3) m (by decide) ?_⟩
  refine ⟨by decide, fun _ => ?_, fun z => absurd (by decide) z⟩
  rw [m.2.2, show (lastC s.1 : Int) + 1 = ((lastC s.1 + 1 : Nat) : Int) by omega, show (0 : Int) + (cntF (MU s 0) (lastC s.1) 1 0 : Nat) + (cntF (MU s 1) (lastC s.1) 1 0 : Nat) + (cntF (MU s 2) (lastC s.1) 1 0 : Nat) + (cntF (MU s 3) (lastC s.1) 1 0 : Nat) = ((cntF (MU s 0) (lastC s.1) 1 0 + cntF (MU s 1) (lastC s.1) 1 0 + cntF (MU s 2) (lastC s.1) 1 0 + cntF (MU s 3) (lastC s.1) 1 0 : Nat) : Int) by omega]
  exact s_lowest (by omega) (by omega) (by omega) hw (hp _ rfl)
theorem op_mean {s : Su} {σ τ : St} (h : RR s σ τ) {v : Int} (hv : rg v) {K : Kt} (hk : ∀ s' σ' τ', RR s' σ' τ' → K σ' τ') : wp_X8_mean σ v (fun r1 σ1 => wp_X9_mean τ v (fun r2 τ1 => Al K r1 r2 σ1 τ1)) := by
  have hl := lastC_le h.1.1
  have b := fun k => cntF_le (MU s k) (lastC s.1) 1 0
  have b0 := b 0; have b1 := b 1; have b2 := b 2; have b3 := b 3
  unfold wp_X8_mean
  refine s_isPart hv (ibr (fun c => ⟨5, t_mean hv hl (fun σ5 h5 x hx => ?_) h⟩) (fun c => ?_))
  · unfold wp_X9_mean
    refine s_within hv (by decide) (by decide) (ibr (fun _ => s_mrings h5.1 (fun τ' m _ _ => ⟨5, m_mean hv hl m (fun y hy => ?_)⟩)) (fun z => absurd c z))
    rw [hy, ← hx]
    exact Al_same (rln (lt_rl (by omega) (by omega))) (hk s _ _ m.1)
  · unfold wp_X9_mean
    exact s_within hv (by decide) (by decide) (ibr (fun z => absurd z c) (fun _ => Al_same (by constructor <;> decide) (hk s _ _ h)))
