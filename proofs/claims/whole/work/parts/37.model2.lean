/-! the reference: ROUND, FALSE, TRUE, places -/
def mkOK (σ : St) (last : Nat) : Prop := last ≤ 192 ∧ σ 0 3 = last ∧ ∀ r, r ≤ last → rg (σ 4 (r : Int))
theorem fst_0 {X : Nat → Int} {r : Nat} : fst X r = 0 ↔ X r = X 0 := by
  obtain ⟨a, b, d⟩ := fst_spec X r
  constructor
  · intro e; rw [e] at b; exact b.symm
  · intro e
    rcases Nat.eq_zero_or_pos (fst X r) with z | z
    · exact z
    · exact absurd e.symm (d 0 z)
theorem s_mround {σ : St} {last : Nat} (h : mkOK σ last) {post : Int → Prop} (hp : post (rdF (rwX σ 3) last)) : wp_X9_round σ post := by
  obtain ⟨hl, h3, hk⟩ := h
  have l : ∀ (fu r : Nat), 1 ≤ r → r ≤ last + 1 → last + 1 < r + fu → post (sch (fun r => fst (rwX σ 3) r == 0) (last + 1 - r) r) → wp_X9_round_2 post fu r σ := by
    intro fu
    induction fu with
    | zero => intro r h0 h1 h2; omega
    | succ fu ih =>
      intro r h0 h1 h2 hq
      unfold wp_X9_round_2
      rw [h3]
      refine ⟨⟨by omega, by omega⟩, ⟨by omega, by omega⟩, fun cc => ?_, fun cc => ⟨by omega, by omega, hk r (by omega), hk 0 (by omega), fun c2 => ?_, fun c2 => ?_⟩⟩
      · rw [show last + 1 - r = 0 by omega] at hq; exact hq
      all_goals
        rw [show last + 1 - r = (last + 1 - (r + 1)) + 1 by omega] at hq
        unfold sch at hq
      · have e : (fst (rwX σ 3) r == 0) = false := by
          rw [beq_eq_false_iff_ne]; intro e; exact c2 (fst_0.mp e)
        rw [if_neg (by rw [e]; decide)] at hq
        rw [show ((r : Int) + 1) = ((r + 1 : Nat) : Int) by omega]
        exact ih (r + 1) (by omega) (by omega) (by omega) hq
      · have e : (fst (rwX σ 3) r == 0) = true := by
          rw [beq_iff_eq]; exact fst_0.mpr c2
        rwa [if_pos e] at hq
  refine ⟨last + 2, l (last + 2) 1 (Nat.le_refl _) (by omega) (by omega) ?_⟩
  rw [show last + 1 - 1 = last by omega]; exact hp
theorem s_mfirst {σ : St} {last r : Nat} (h : mkOK σ last) (hr : r ≤ last) {post : Int → Prop} (hp : post (fst (rwX σ 3) r : Nat)) : wp_X9_first σ r post := by
  obtain ⟨hl, h3, hk⟩ := h
  obtain ⟨a, b, d⟩ := fst_spec (rwX σ 3) r
  have l : ∀ (fu q : Nat), q ≤ fst (rwX σ 3) r → fst (rwX σ 3) r < q + fu → wp_X9_first_2 post fu r q σ := by
    intro fu
    induction fu with
    | zero => intro q h1 h2; omega
    | succ fu ih =>
      intro q h1 h2
      unfold wp_X9_first_2
      refine ⟨by omega, by omega, by omega, by omega, hk q (by omega), hk r hr, fun c => ?_, fun c => ?_⟩
      · have : q = fst (rwX σ 3) r := fst_unique c (fun z hz => d z (by omega))
        rw [this]; exact hp
      · have : q ≠ fst (rwX σ 3) r := fun e => c (by rw [e]; exact b)
        rw [show ((q : Int) + 1) = ((q + 1 : Nat) : Int) by omega]
        exact ih (q + 1) (by omega) (by omega)
  exact ⟨r + 1, l (r + 1) 0 (Nat.zero_le _) (by omega)⟩
theorem s_wrongRow {σ : St} {last : Nat} (h : mkOK σ last) {post : Int → Prop} (hp : post (flF (rwX σ 3) last)) : wp_X9_wrongRow σ post := by
  obtain ⟨hl, h3, hk⟩ := id h
  have l : ∀ (fu r : Nat), 1 ≤ r → r ≤ last + 1 → last + 1 < r + fu → post (sch (fun r => fst (rwX σ 3) r != r && !(r == last && fst (rwX σ 3) r == 0)) (last + 1 - r) r) → wp_X9_wrongRow_2 post fu r σ := by
    intro fu
    induction fu with
    | zero => intro r h0 h1 h2; omega
    | succ fu ih =>
      intro r h0 h1 h2 hq
      unfold wp_X9_wrongRow_2
      rw [h3]
      refine ⟨⟨by omega, by omega⟩, ⟨by omega, by omega⟩, fun cc => ?_, fun cc => ?_⟩
      · rw [show last + 1 - r = 0 by omega] at hq; exact hq
      · refine s_mfirst h (by omega) ?_
        have hf := (fst_spec (rwX σ 3) r).1
        rw [show last + 1 - r = (last + 1 - (r + 1)) + 1 by omega] at hq
        unfold sch at hq
        have hn : ¬ ((fst (rwX σ 3) r != r && !(r == last && fst (rwX σ 3) r == 0)) = true) → wp_X9_wrongRow_2 post fu ((r : Int) + 1) σ := fun e => by
          rw [if_neg e] at hq
          rw [show ((r : Int) + 1) = ((r + 1 : Nat) : Int) by omega]
          exact ih (r + 1) (by omega) (by omega) (by omega) hq
        unfold wp_X9_wrongRow_35 wp_X9_wrongRow_33
        refine ⟨⟨by omega, by omega⟩, ⟨by omega, by omega⟩, fun c2 => hn (by simp; omega), fun c2 => ⟨⟨by omega, by omega⟩, ⟨by omega, by omega⟩, fun c3 => ?_, fun c3 => ⟨⟨by omega, by omega⟩, fun c4 => hn (by simp; omega), fun c4 => ?_⟩⟩⟩
        · rwa [if_pos (by simp; omega)] at hq
        · rwa [if_pos (by simp; omega)] at hq
  refine ⟨last + 2, l (last + 2) 1 (Nat.le_refl _) (by omega) (by omega) ?_⟩
  rw [show last + 1 - 1 = last by omega]; exact hp
theorem s_misTrue {σ : St} {last : Nat} (h : mkOK σ last) {post : Int → Prop} (hp : post (if trF (rwX σ 3) last then 1 else 0)) : wp_X9_isTrue σ post := by
  obtain ⟨hl, h3, hk⟩ := id h
  unfold wp_X9_isTrue
  rw [h3]
  refine ⟨⟨by omega, by omega⟩, fun c1 => ?_, fun c1 => ⟨by omega, by omega, hk last (Nat.le_refl _), hk 0 (Nat.zero_le _), fun c2 => ?_, fun c2 => ?_⟩⟩
  · rwa [if_neg (by simp [trF]; omega)] at hp
  · rwa [if_neg (by simp only [trF, Bool.and_eq_true, decide_eq_true_eq, not_and]; intro _ z; exact absurd z c2)] at hp
  · refine s_wrongRow h ⟨sch_rg _ _ (by omega), fun c3 => ?_, fun c3 => ?_⟩
    · rwa [if_neg (by simp only [trF, Bool.and_eq_true, decide_eq_true_eq, not_and]; intro _ _; exact c3)] at hp
    · rwa [if_pos (by simp only [trF, Bool.and_eq_true, decide_eq_true_eq]; exact ⟨by omega, c2, c3⟩)] at hp
theorem s_mplace {σ : St} {n r b q : Nat} {f : Nat → Nat} (h8 : n ≤ 8) (hr : r < 193) (hb : b ≤ 8) (hf : ∀ p, p < n → σ 3 (8 * (r : Int) + p) = f p) (hfb : ∀ p, p < n → f p ≤ 8) (hq : q < n) (hfq : f q = b) (hu : ∀ z, z < q → f z ≠ b) {post : Int → Prop} (hp : post ((q : Int) + 1)) : wp_X9_place σ r b post := by
  have l : ∀ (fu p : Nat), p ≤ q → q < p + fu → wp_X9_place_2 post fu r b p σ := by
    intro fu
    induction fu with
    | zero => intro p h1 h2; omega
    | succ fu ih =>
      intro p h1 h2
      unfold wp_X9_place_2
      have e1 := hf p (by omega)
      have e2 := hfb p (by omega)
      rw [e1]
      refine ⟨by omega, by omega, ⟨by omega, by omega⟩, ⟨by omega, by omega⟩, fun c => ?_, fun c => ?_⟩
      · have : p = q := by
          rcases Nat.lt_or_ge p q with z | z
          · exact absurd (by omega) (hu p z)
          · omega
        rw [this]; exact hp
      · have : p ≠ q := fun e => c (by rw [e, hfq])
        rw [show ((p : Int) + 1) = ((p + 1 : Nat) : Int) by omega]
        exact ih (p + 1) (by omega) (by omega)
  exact ⟨9, l 9 0 (Nat.zero_le _) (by omega)⟩
/-! both sides' rows -/
theorem ky_eq {n : Nat} (h4 : 4 ≤ n) (h8 : n ≤ 8) {P : Nat → Nat} {last : Nat} (hP : gdP n P last) {X K : Nat → Int} (hX : ∀ q, q ≤ last → rwOK n (RF n P q) (X q)) (hK : ∀ q, q ≤ last → K q = kyF (RF n P q) n) {q r : Nat} (hq : q ≤ last) (hr : r ≤ last) : X q = X r ↔ K q = K r := by
  rw [rw_eq h8 (hX q hq) (hX r hr), hK q hq, hK r hr, kyF_inj n (fun p hp => by have := RF_in h4 h8 hP q hq p hp; omega) (fun p hp => by have := RF_in h4 h8 hP r hr p hp; omega)]
theorem fst_eq {X K : Nat → Int} {last : Nat} (h : ∀ q r, q ≤ last → r ≤ last → (X q = X r ↔ K q = K r)) {r : Nat} (hr : r ≤ last) : fst X r = fst K r := fst_cong (fun q hq => h q r (by omega) hr)
theorem rdF_eq {X K : Nat → Int} {last : Nat} (h : ∀ q r, q ≤ last → r ≤ last → (X q = X r ↔ K q = K r)) : rdF X last = rdF K last :=
  sch_cong last 1 (fun z a b => by rw [fst_eq h (show z ≤ last by omega)])
theorem flF_eq {X K : Nat → Int} {last : Nat} (h : ∀ q r, q ≤ last → r ≤ last → (X q = X r ↔ K q = K r)) : flF X last = flF K last :=
  sch_cong last 1 (fun z a b => by rw [fst_eq h (show z ≤ last by omega)])
theorem trF_eq {X K : Nat → Int} {last : Nat} (h : ∀ q r, q ≤ last → r ≤ last → (X q = X r ↔ K q = K r)) : trF X last = trF K last := by
  unfold trF
  rw [flF_eq h]
  have := h last 0 (Nat.le_refl _) (Nat.zero_le _)
  by_cases z : X last = X 0
  · rw [decide_eq_true z, decide_eq_true (this.mp z)]
  · rw [decide_eq_false z, decide_eq_false (fun y => z (this.mpr y))]
/-- the canonical keys of a touch -/
def KK (c : Cf) (r : Nat) : Int := kyF (RF (cN c) (stp c) r) (cN c)
theorem tou_K {σ : St} {o : Nat} {c : Cf} (hw : wfC c) (h : touOK σ o c) : ∀ q r, q ≤ lastC c → r ≤ lastC c → (rwX σ o q = rwX σ o r ↔ KK c q = KK c r) :=
  fun q r hq hr => ky_eq hw.1 hw.2.1 (stp_ok hw (Nat.le_refl _)) (fun q hq => h.2.2 q hq) (fun _ _ => rfl) hq hr
theorem mr_K {σ : St} {c : Cf} (h : mrOK σ (cN c) (stp c) (lastC c)) : ∀ q r, q ≤ lastC c → r ≤ lastC c → (rwX σ 3 q = rwX σ 3 r ↔ KK c q = KK c r) := fun q r hq hr => by
  rw [show rwX σ 3 q = KK c q from (h q hq).2, show rwX σ 3 r = KK c r from (h r hr).2]
theorem KK_rg {c : Cf} (hw : wfC c) {r : Nat} (hr : r ≤ lastC c) : rg (KK c r) := kyF_rg hw.2.1 (fun p hp => by have := RF_in hw.1 hw.2.1 (stp_ok hw (Nat.le_refl _)) r hr p hp; have := hw.2.1; omega)
theorem mr_mk {σ : St} {c : Cf} (hw : wfC c) (h : mrOK σ (cN c) (stp c) (lastC c)) (h3 : σ 0 3 = lastC c) : mkOK σ (lastC c) := ⟨lastC_le hw, h3, fun r hr => by rw [(h r hr).2]; exact KK_rg hw hr⟩
theorem tou_tc {σ : St} {c : Cf} (hw : wfC c) (h : touOK σ 0 c) (hz : ∀ j : Nat, j < 512 → σ 6 (j : Int) = 0) (hc : cmOK σ 0 (lastC c)) : tcOK σ (lastC c) := ⟨lastC_le hw, h.2.1, fun r hr => (h.2.2 r hr).1, hz, hc⟩
