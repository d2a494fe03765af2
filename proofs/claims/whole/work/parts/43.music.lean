/-! music -/
theorem nb_bur {x : Int} {k : Nat} (hk : k < 8) {p : Nat} (hp : p < 8) : nb (bur x (4 * (k : Int))) p = if p + k < 8 then nb x (p + k) else 0 := by
  have e : (4 * (k : Int)) = ((4 * k : Nat) : Int) := by omega
  unfold nb
  rw [e, U_bur _ (by omega), p16, Nat.div_div_eq_div_mul, ← Nat.pow_add]
  have hu := U_lt x
  by_cases z : p + k < 8
  · rw [if_pos z, Nat.add_comm k p]
  · rw [if_neg z]
    have : (16 : Nat) ^ 8 ≤ 16 ^ (k + p) := Nat.pow_le_pow_right (by decide) (by omega)
    rw [Nat.div_eq_of_lt (by have : (16 : Nat) ^ 8 = 4294967296 := by decide
                             omega)]
theorem nb_low (x : Int) {p : Nat} (hp : p < 8) : nb (bnd x 65535) p = if p < 4 then nb x p else 0 := by
  unfold nb
  rw [U_bnd, show U 65535 = 2 ^ 16 - 1 from rfl, Nat.and_two_pow_sub_one_eq_mod]
  match p, hp with
  | 0, _ => show U x % 65536 / 1 % 16 = U x / 1 % 16; omega
  | 1, _ => show U x % 65536 / 16 % 16 = U x / 16 % 16; omega
  | 2, _ => show U x % 65536 / 256 % 16 = U x / 256 % 16; omega
  | 3, _ => show U x % 65536 / 4096 % 16 = U x / 4096 % 16; omega
  | 4, _ => show U x % 65536 / 65536 % 16 = 0; omega
  | 5, _ => show U x % 65536 / 1048576 % 16 = 0; omega
  | 6, _ => show U x % 65536 / 16777216 % 16 = 0; omega
  | 7, _ => show U x % 65536 / 268435456 % 16 = 0; omega
def allU (p : Nat → Bool) : Nat → Nat → Bool
  | 0, _ => true
  | k + 1, r => p r && allU p k (r + 1)
theorem allU_iff {p : Nat → Bool} : ∀ k r, allU p k r = true ↔ ∀ z, r ≤ z → z < r + k → p z = true
  | 0, r => ⟨fun _ z h1 h2 => by omega, fun _ => rfl⟩
  | k + 1, r => by
    show (p r && allU p k (r + 1)) = true ↔ _
    rw [Bool.and_eq_true, allU_iff k (r + 1)]
    constructor
    · rintro ⟨a, b⟩ z h1 h2
      rcases Nat.lt_or_ge r z with h | h
      · exact b z h (by omega)
      · rw [show z = r by omega]; exact a
    · intro h
      exact ⟨h r (Nat.le_refl _) (by omega), fun z h1 h2 => h z (by omega) (by omega)⟩
/-- does a row hold the kind of music -/
def MU (s : Su) (k : Nat) (r : Nat) : Bool :=
  let n := cN s.1
  let f := RFc s.1 r
  if k = 0 then allU (fun v => f v == v + 1) 4 (n - 4) else if k = 1 then allU (fun v => f v == v + 1) 4 0 else if k = 2 then allU (fun v => sP s v == 0 || sP s v == f v) n 0 else ahB s.1 (n - 1) n r
theorem t_holds {s : Su} {σ τ : St} (h : RT s σ τ) {r : Nat} (hr : r ≤ lastC s.1) {ρ : St} (h0 : ρ 0 0 = cN s.1) (h3 : ∀ i : Nat, i < 8 → ρ 3 (i : Int) = sP s i) {post : Int → Prop} : ∀ (k fu p : Nat), p + k = cN s.1 → k < fu → post (if allU (fun v => sP s v == 0 || sP s v == RFc s.1 r v) k p then 1 else 0) → wp_X4_holdsPattern_2 post fu (σ 50 (r : Int)) ((p : Int) + 1) ρ := by
  have h8 := h.1.1.1.2.1
  intro k
  induction k with
  | zero =>
    intro fu p e hf hp
    obtain ⟨fu, rfl⟩ : ∃ f, fu = f + 1 := ⟨fu - 1, by omega⟩
    unfold wp_X4_holdsPattern_2
    rw [h0]
    exact ⟨⟨by omega, by omega⟩, rgn (by omega), fun _ => hp, fun z => by omega⟩
  | succ k ih =>
    intro fu p e hf hp
    obtain ⟨fu, rfl⟩ : ∃ f, fu = f + 1 := ⟨fu - 1, by omega⟩
    unfold wp_X4_holdsPattern_2
    rw [h0]
    have e3 : ρ 3 ((p : Int) + 1 - 1) = sP s p := by rw [show (p : Int) + 1 - 1 = p by omega]; exact h3 p (by omega)
    rw [e3]
    have hpa := h.1.1.2.1 p (by omega)
    have hfi := RFc_in h.1.1 hr (p := p) (by omega)
    have stepp : (sP s p == 0 || sP s p == RFc s.1 r p) = true → wp_X4_holdsPattern_34 (wp_X4_holdsPattern_2 post fu) post (σ 50 (r : Int)) ((p : Int) + 1) ρ := fun z => by
      show wp_X4_holdsPattern_2 post fu (σ 50 (r : Int)) ((p : Int) + 1 + 1) ρ
      rw [show (p : Int) + 1 + 1 = ((p + 1 : Nat) : Int) + 1 by omega]
      refine ih fu (p + 1) (by omega) (by omega) ?_
      have : allU (fun v => sP s v == 0 || sP s v == RFc s.1 r v) (k + 1) p = allU (fun v => sP s v == 0 || sP s v == RFc s.1 r v) k (p + 1) := by
        show ((sP s p == 0 || sP s p == RFc s.1 r p) && _) = _
        rw [z, Bool.true_and]
      rwa [this] at hp
    refine ⟨⟨by omega, by omega⟩, rgn (by omega), fun z => by omega, fun _ => ⟨by omega, by omega, rgn (by omega), fun c => stepp ?_, fun c => t_bell h hr (by omega) ⟨rgn (by omega), rgn (by omega), fun c2 => stepp ?_, fun c2 => ?_⟩⟩⟩
    · have : sP s p = 0 := by omega
      rw [this]; rfl
    · have : sP s p = RFc s.1 r p := by omega
      rw [this]; simp
    · have hz : (sP s p == 0 || sP s p == RFc s.1 r p) = false := by
        have a : sP s p ≠ 0 := by omega
        have b : sP s p ≠ RFc s.1 r p := by omega
        rw [Bool.or_eq_false_iff]
        exact ⟨beq_false_of_ne a, beq_false_of_ne b⟩
      rwa [if_neg (by show ¬ ((sP s p == 0 || sP s p == RFc s.1 r p) && _) = true; rw [hz, Bool.false_and]; decide)] at hp
theorem t_isMusic {s : Su} {σ τ : St} (h : RT s σ τ) {r : Nat} (hr : r ≤ lastC s.1) {k : Nat} (hk : k < 4) {post : Int → Prop} (hp : post (if MU s k r then 1 else 0)) : wp_X4_isMusic (pk σ (blk 1 16)) (σ 50 (r : Int)) k post := by
  have h4 := h.1.1.1.1
  have h8 := h.1.1.1.2.1
  have q0 : pk σ (blk 1 16) 0 0 = cN s.1 := by rw [pk_blk (by decide)]; exact h.1.2.1.1.1
  have hrow := RT_row h hr
  have hRND := RND_ok h4 h8 (stp s.1)
  have hkr : rg ((k : Nat) : Int) := rgn (by omega)
  unfold wp_X4_isMusic
  rw [q0]
  refine ⟨hkr, fun c => ?_, fun c => ?_, fun c => ?_, fun c => ?_⟩
  · have hk0 : k = 0 := by omega
    subst hk0
    refine s_rounds h4 h8 ?_
    have e4 : (4 * ((cN s.1 : Int) - 4)) = 4 * ((cN s.1 - 4 : Nat) : Int) := by omega
    rw [e4]
    have hiff : bur (σ 50 (r : Int)) (4 * ((cN s.1 - 4 : Nat) : Int)) = bur (RND (cN s.1)) (4 * ((cN s.1 - 4 : Nat) : Int)) ↔ MU s 0 r = true := by
      have hM : MU s 0 r = allU (fun v => RFc s.1 r v == v + 1) 4 (cN s.1 - 4) := rfl
      rw [hM, allU_iff]
      constructor
      · intro e z h1 h2
        have := congrArg (fun x => nb x (z - (cN s.1 - 4))) e
        rw [nb_bur (by omega) (by omega), nb_bur (by omega) (by omega), if_pos (by omega), if_pos (by omega), show z - (cN s.1 - 4) + (cN s.1 - 4) = z by omega, hrow.2 z (by omega), hRND.2 z (by omega), if_pos (by omega), if_pos (by omega)] at this
        rw [this]; exact beq_self_eq_true _
      · intro e
        refine nb_ext (rg_bur _ _) (rg_bur _ _) (fun p hp => ?_)
        rw [nb_bur (by omega) hp, nb_bur (by omega) hp]
        by_cases z : p + (cN s.1 - 4) < 8
        · rw [if_pos z, if_pos z, hrow.2 _ z, hRND.2 _ z]
          by_cases z2 : p + (cN s.1 - 4) < cN s.1
          · rw [if_pos z2, if_pos z2]
            have := e (p + (cN s.1 - 4)) (by omega) (by omega)
            exact eq_of_beq this
          · rw [if_neg z2, if_neg z2]
        · rw [if_neg z, if_neg z]
    refine ⟨rg_bur _ _, rg_bur _ _, fun c2 => ?_, fun c2 => ?_⟩
    · rwa [if_neg (fun z => c2 (hiff.mpr z))] at hp
    · rwa [if_pos (hiff.mp c2)] at hp
  · have hk0 : k = 1 := by omega
    subst hk0
    refine s_rounds (n := 4) (by decide) (by decide) ?_
    have hR4 := RND_ok (n := 4) (by decide) (by decide) (stp s.1)
    have hiff : bnd (σ 50 (r : Int)) 65535 = RND 4 ↔ MU s 1 r = true := by
      have hM : MU s 1 r = allU (fun v => RFc s.1 r v == v + 1) 4 0 := rfl
      rw [hM, allU_iff]
      constructor
      · intro e z h1 h2
        have := congrArg (fun x => nb x z) e
        rw [nb_low _ (by omega), if_pos (by omega), hrow.2 z (by omega), if_pos (by omega), hR4.2 z (by omega), if_pos (by omega)] at this
        rw [this]; exact beq_self_eq_true _
      · intro e
        refine nb_ext (rg_bnd _ _) hR4.1 (fun p hp => ?_)
        rw [nb_low _ hp, hR4.2 p hp]
        by_cases z : p < 4
        · rw [if_pos z, if_pos z, hrow.2 p hp, if_pos (by omega)]
          exact eq_of_beq (e p (by omega) (by omega))
        · rw [if_neg z, if_neg z]
    refine ⟨rg_bnd _ _, hR4.1, fun c2 => ?_, fun c2 => ?_⟩
    · rwa [if_neg (fun z => c2 (hiff.mpr z))] at hp
    · rwa [if_pos (hiff.mp c2)] at hp
  · have hk0 : k = 2 := by omega
    subst hk0
    have hM : MU s 2 r = allU (fun v => sP s v == 0 || sP s v == RFc s.1 r v) (cN s.1) 0 := rfl
    rw [hM] at hp
    refine ⟨cN s.1 + 1, ?_⟩
    exact t_holds h hr q0 (fun i hi => by rw [pk_blk (by decide)]; exact h.1.2.1.2.1 i hi) (cN s.1) (cN s.1 + 1) 0 (by omega) (by omega) ⟨i01, hp⟩
  · have hk0 : k = 3 := by omega
    subst hk0
    have hM : MU s 3 r = ahB s.1 (cN s.1 - 1) (cN s.1) r := rfl
    rw [hM] at hp
    rw [show (cN s.1 : Int) - 1 = ((cN s.1 - 1 : Nat) : Int) by omega]
    exact t_right h hr (by omega) (by omega) (by omega) (by omega) ⟨i01, hp⟩
theorem m_isMusic {s : Su} {σ τ : St} (h : RM s σ τ) {r : Nat} (hr : r ≤ lastC s.1) {k : Nat} (hk : k < 4) {post : Int → Prop} (hp : post (if MU s k r then 1 else 0)) : wp_X9_isMusic τ k r post := by
  have h4 := h.1.1.1.1
  have h8 := h.1.1.1.2.1
  have hl := lastC_le h.1.1.1
  have m0 := h.1.2.2.1.1.1
  have hrow := RM_row h hr
  have hin : ∀ p, p < cN s.1 → RFc s.1 r p ≤ 8 := fun p hp => by have := RFc_in h.1.1 hr hp; omega
  unfold wp_X9_isMusic
  rw [m0]
  refine ⟨rgn (by omega), fun c => ⟨6, ?_⟩, fun c => ⟨6, ?_⟩, fun c => ⟨cN s.1 + 1, ?_⟩, fun c => ?_⟩
  · have hk0 : k = 0 := by omega
    subst hk0
    have hM : MU s 0 r = allU (fun v => RFc s.1 r v == v + 1) 4 (cN s.1 - 4) := rfl
    have l : ∀ (fu v : Nat), 1 ≤ v → v ≤ 5 → 5 < v + fu → (∀ w, 1 ≤ w → w < v → RFc s.1 r (cN s.1 - w) = cN s.1 - w + 1) → wp_X9_isMusic_39 post fu r (cN s.1 : Int) v τ := by
      intro fu
      induction fu with
      | zero => intro v a b c; omega
      | succ fu ih =>
        intro v a b c hd
        unfold wp_X9_isMusic_39
        refine ⟨rgn (by omega), fun c1 => ?_, fun c1 => ?_⟩
        · rwa [if_pos] at hp
          rw [hM, allU_iff]
          intro z h1 h2
          have := hd (cN s.1 - z) (by omega) (by omega)
          rw [show cN s.1 - (cN s.1 - z) = z by omega] at this
          rw [this]; exact beq_self_eq_true _
        · have e : 8 * (r : Int) + (cN s.1 : Int) - v = 8 * (r : Int) + ((cN s.1 - v : Nat) : Int) := by omega
          rw [e, hrow _ (by omega)]
          have := hin (cN s.1 - v) (by omega)
          refine ⟨by omega, by omega, rgn (by omega), ⟨by omega, by omega⟩, fun c2 => ?_, fun c2 => ?_⟩
          · rw [show (v : Int) + 1 = ((v + 1 : Nat) : Int) by omega]
            refine ih (v + 1) (by omega) (by omega) (by omega) (fun w h1 h2 => ?_)
            by_cases z : w = v
            · rw [z]; omega
            · exact hd w h1 (by omega)
          · rwa [if_neg] at hp
            rw [hM, allU_iff]
            intro z
            have := eq_of_beq (z (cN s.1 - v) (by omega) (by omega))
            omega
    exact l 6 1 (by omega) (by omega) (by omega) (fun w h1 h2 => by omega)
  · have hk0 : k = 1 := by omega
    subst hk0
    have hM : MU s 1 r = allU (fun v => RFc s.1 r v == v + 1) 4 0 := rfl
    have l : ∀ (fu v : Nat), v ≤ 4 → 4 < v + fu → (∀ w, w < v → RFc s.1 r w = w + 1) → wp_X9_isMusic_81 post fu r v τ := by
      intro fu
      induction fu with
      | zero => intro v a b; omega
      | succ fu ih =>
        intro v a b hd
        unfold wp_X9_isMusic_81
        refine ⟨rgn (by omega), fun c1 => ?_, fun c1 => ?_⟩
        · rwa [if_pos] at hp
          rw [hM, allU_iff]
          intro z h1 h2
          rw [hd z (by omega)]; exact beq_self_eq_true _
        · rw [hrow _ (by omega)]
          have := hin v (by omega)
          refine ⟨by omega, by omega, rgn (by omega), ⟨by omega, by omega⟩, fun c2 => ?_, fun c2 => ?_⟩
          · rw [show (v : Int) + 1 = ((v + 1 : Nat) : Int) by omega]
            refine ih (v + 1) (by omega) (by omega) (fun w h2 => ?_)
            by_cases z : w = v
            · rw [z]; omega
            · exact hd w (by omega)
          · rwa [if_neg] at hp
            rw [hM, allU_iff]
            intro z
            have := eq_of_beq (z v (by omega) (by omega))
            omega
    exact l 6 0 (by omega) (by omega) (fun w h2 => by omega)
  · have hk0 : k = 2 := by omega
    subst hk0
    have hM : MU s 2 r = allU (fun v => sP s v == 0 || sP s v == RFc s.1 r v) (cN s.1) 0 := rfl
    have hpt := h.1.2.2.1.2.2.2.2.1
    have l : ∀ (fu v : Nat), v ≤ cN s.1 → cN s.1 < v + fu → (∀ w, w < v → (sP s w = 0 ∨ sP s w = RFc s.1 r w)) → wp_X9_isMusic_119 post fu r (cN s.1 : Int) v τ := by
      intro fu
      induction fu with
      | zero => intro v a b; omega
      | succ fu ih =>
        intro v a b hd
        unfold wp_X9_isMusic_119
        have nx : v < cN s.1 → (sP s v = 0 ∨ sP s v = RFc s.1 r v) → wp_X9_isMusic_165 (wp_X9_isMusic_119 post fu) post r (cN s.1 : Int) v τ := fun hv z2 => by
          show wp_X9_isMusic_119 post fu r (cN s.1 : Int) ((v : Int) + 1) τ
          rw [show (v : Int) + 1 = ((v + 1 : Nat) : Int) by omega]
          refine ih (v + 1) (by omega) (by omega) (fun w h2 => ?_)
          by_cases z : w = v
          · rw [z]; exact z2
          · exact hd w (by omega)
        refine ⟨rgn (by omega), rgn (by omega), fun c1 => ?_, fun c1 => ?_⟩
        · rwa [if_pos] at hp
          rw [hM, allU_iff]
          intro z h1 h2
          rw [Bool.or_eq_true, beq_iff_eq, beq_iff_eq]; exact hd z (by omega)
        · have hv : v < cN s.1 := by omega
          rw [hpt v (by omega), hrow v hv]
          have h1 := hin v (by omega)
          have h2 := h.1.1.2.1 v (by omega)
          refine ⟨by omega, by omega, rgn (by omega), fun c2 => nx hv (Or.inl (by omega)), fun c2 => ⟨by omega, by omega, by omega, by omega, rgn (by omega), rgn (by omega), fun c3 => nx hv (Or.inr (by omega)), fun c3 => ?_⟩⟩
          rwa [if_neg] at hp
          rw [hM, allU_iff]
          intro z
          have := z v (by omega) (by omega)
          rw [Bool.or_eq_true, beq_iff_eq, beq_iff_eq] at this
          omega
    exact l (cN s.1 + 1) 0 (by omega) (by omega) (fun w h2 => by omega)
  · have hk0 : k = 3 := by omega
    subst hk0
    have hM : MU s 3 r = ahB s.1 (cN s.1 - 1) (cN s.1) r := rfl
    rw [hM] at hp
    rw [show (cN s.1 : Int) - 1 = ((cN s.1 - 1 : Nat) : Int) by omega]
    have a1 := (PL_ok h.1.1 hr (b := cN s.1 - 1) (by omega) (by omega)).1
    have a2 := (PL_ok h.1.1 hr (b := cN s.1) (by omega) (by omega)).1
    refine m_place h hr (by omega) (by omega) (m_place h hr (by omega) (by omega) ⟨⟨by omega, by omega⟩, ⟨by omega, by omega⟩, fun c2 => ?_, fun c2 => ?_⟩)
    · rwa [if_neg (by simp [ahB]; omega)] at hp
    · rwa [if_pos (by simp [ahB]; omega)] at hp
