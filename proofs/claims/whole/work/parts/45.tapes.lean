/-! tapes -/
def tp1 (σ τ : St) (t : Nat) (so : Int) (ln : Nat) : Prop := -1 ≤ so ∧ so ≤ 4 ∧ ln ≤ 60 ∧ (so = -1 → ln = 0) ∧ σ (80 + 2 * t) 0 = so ∧ σ (80 + 2 * t) 1 = ln ∧ τ 10 (t : Int) = so + 1 ∧ τ 11 (t : Int) = ln ∧ ∀ i : Nat, i < 60 → σ (81 + 2 * t) (i : Int) = τ 12 (60 * (t : Int) + i) ∧ rl (τ 12 (60 * (t : Int) + i))
theorem tp_get {s : Su} {σ τ : St} (h : RR s σ τ) {t : Nat} (ht : t < 6) : ∃ (so : Int) (ln : Nat), tp1 σ τ t so ln := h.2.2.2.2.2.2.2.2 t ht
theorem RR_tp {s : Su} {σ τ σ' τ' : St} (h : RR s σ τ) (e : ∀ k, k < 80 → σ' k = σ k) (e1 : ∀ d, d ≠ 10 → d ≠ 11 → d ≠ 12 → d ≠ 13 → τ' d = τ d) (ht : tpOK σ' τ') : RR s σ' τ' := by
  obtain ⟨a1, a2, a3, a4, a5, a6, a7, a8, a9⟩ := h
  refine ⟨a1, suOK_cong a2 (fun k hk => e _ (by omega)), by rw [e1 1 (by decide) (by decide) (by decide) (by decide)]; exact a3, imOK_cong a4 (by rw [e 0 (by decide)]) (fun k h1 h2 => e k (by omega)) (by rw [e1 0 (by decide) (by decide) (by decide) (by decide)]) (e1 2 (by decide) (by decide) (by decide) (by decide)), ⟨?_, fun j hj => by rw [e 55 (by decide)]; exact a5.2 j hj⟩, fun j hj => by rw [e 62 (by decide)]; exact a6 j hj, fun j hj => by rw [e 72 (by decide)]; exact a7 j hj, txOK_cong a8 (e 74 (by decide)) (e 75 (by decide)) (by rw [e1 0 (by decide) (by decide) (by decide) (by decide)]) (e1 5 (by decide) (by decide) (by decide) (by decide)), ht⟩
  rw [e 0 (by decide)]
  rcases a5.1 with z | ⟨z1, z2, z3⟩
  · exact Or.inl z
  · exact Or.inr ⟨z1, touOK_cong z2 (fun j _ => by rw [e 49 (by decide)]) (fun k h1 h2 => e _ (by omega)), cmOK_cong z3 (by rw [e 49 (by decide)]) (e _ (by decide)) (e _ (by decide))⟩
theorem RR_tape {s : Su} {σ τ σ' τ' : St} (h : RR s σ τ) {t : Nat} {so : Int} {ln : Nat} (e : ∀ k, k ≠ 80 + 2 * t → k ≠ 81 + 2 * t → σ' k = σ k) (e1 : ∀ d, d ≠ 10 → d ≠ 11 → d ≠ 12 → d ≠ 13 → τ' d = τ d) (e2 : ∀ t' : Nat, t' < 6 → t' ≠ t → τ' 10 (t' : Int) = τ 10 (t' : Int) ∧ τ' 11 (t' : Int) = τ 11 (t' : Int) ∧ ∀ i : Nat, i < 60 → τ' 12 (60 * (t' : Int) + i) = τ 12 (60 * (t' : Int) + i)) (ht : tp1 σ' τ' t so ln) : RR s σ' τ' := by
  refine RR_tp h (fun k hk => e k (by omega) (by omega)) e1 (fun t' ht' => ?_)
  by_cases z : t' = t
  · subst z; exact ⟨so, ln, ht⟩
  · obtain ⟨so', ln', b1, b2, b3, b4, b5, b6, b7, b8, b9⟩ := tp_get h ht'
    obtain ⟨q1, q2, q3⟩ := e2 t' ht' z
    refine ⟨so', ln', b1, b2, b3, b4, ?_, ?_, ?_, ?_, fun i hi => ?_⟩
    · rw [e _ (by omega) (by omega)]; exact b5
    · rw [e _ (by omega) (by omega)]; exact b6
    · rw [q1]; exact b7
    · rw [q2]; exact b8
    · rw [e _ (by omega) (by omega), q3 i hi]; exact b9 i hi
theorem mrg_j (σ τ : St) (t c : Nat) : mrg σ [80 + 2 * t, 81 + 2 * t] τ c = if c = 80 + 2 * t then τ 0 else if c = 81 + 2 * t then τ 1 else σ c := by
  have hx : ixo [80 + 2 * t, 81 + 2 * t] c = if c = 80 + 2 * t then some 0 else if c = 81 + 2 * t then some 1 else none := by
    simp only [ixo]
    by_cases h : c = 80 + 2 * t
    · rw [if_pos h.symm, if_pos h]
    · rw [if_neg (fun z => h z.symm), if_neg h]
      by_cases h2 : c = 81 + 2 * t
      · rw [if_pos h2.symm, if_pos h2]; rfl
      · rw [if_neg (fun z => h2 z.symm), if_neg h2]; rfl
  unfold mrg; rw [hx]
  by_cases h : c = 80 + 2 * t
  · rw [if_pos h, if_pos h]
  · rw [if_neg h, if_neg h]
    by_cases h2 : c = 81 + 2 * t
    · rw [if_pos h2, if_pos h2]
    · rw [if_neg h2, if_neg h2]
theorem s_isTape8 {v : Int} (hv : rg v) {post : Int → Prop} (hp : post (if 0 ≤ v ∧ v ≤ 5 then 1 else 0)) : wp_X8_isTape v post := by
  unfold wp_X8_isTape
  refine ⟨hv, fun c => ?_, fun c => ⟨hv, fun c2 => ?_, fun c2 => ?_⟩⟩
  · rwa [if_neg (by omega)] at hp
  · rwa [if_neg (by omega)] at hp
  · rwa [if_pos (by omega)] at hp
theorem s_isTape9 {v : Int} (hv : rg v) {post : Int → Prop} (hp : post (if 0 ≤ v ∧ v ≤ 5 then 1 else 0)) : wp_X9_isTape v post := by
  unfold wp_X9_isTape
  exact s_within hv (by decide) (by decide) ⟨i01, hp⟩
theorem s_has {ρ : St} {ln : Nat} (hl : ln ≤ 60) (h : ρ 0 1 = ln) {v w : Int} (hv : rg v) (hw : rg w) {post : Int → Prop} (hp : post (if 0 ≤ v ∧ 0 ≤ w ∧ v + w ≤ ln then 1 else 0)) : wp_X6_has ρ v w post := by
  unfold wp_X6_has
  rw [h]
  refine ⟨hv, fun c => ?_, fun c => ⟨hw, fun c2 => ?_, fun c2 => ⟨hw, rgn (by omega), fun c3 => ?_, fun c3 => ⟨hv, ⟨by omega, by omega⟩, fun c4 => ?_, fun c4 => ?_⟩⟩⟩⟩
  · rwa [if_neg (by omega)] at hp
  · rwa [if_neg (by omega)] at hp
  · rwa [if_neg (by omega)] at hp
  · rwa [if_neg (by omega)] at hp
  · rwa [if_pos (by omega)] at hp
theorem rl_rg {a : Int} (h : rg a) : rl a := by obtain ⟨h1, h2⟩ := h; constructor <;> omega
theorem op_peek {s : Su} {σ τ : St} (h : RR s σ τ) {v w : Int} (hv : rg v) (hw : rg w) {K : Kt} (hK : K σ τ) : wp_X8_peek σ v w (fun r1 => wp_X9_peek τ v w (fun r2 => Al K r1 r2 σ τ)) := by
  have e : Al K (-9223372036854775808) (-9223372036854775808) σ τ := Al_same (by constructor <;> decide) hK
  unfold wp_X8_peek
  refine s_isTape8 hv (ibs (fun c => ⟨by omega, by omega, ?_⟩) (fun c => ?_))
  · obtain ⟨t, rfl, -, ht⟩ := natOf (v := v) (a := 0) (b := 5) (by omega) (by omega)
    obtain ⟨so, ln, b1, b2, b3, b4, b5, b6, b7, b8, b9⟩ := tp_get h (t := t) (by omega)
    refine s_has b3 (show σ (80 + 2 * t) 1 = ln from b6) hw (by decide) (ibr (fun c2 => ⟨by omega, by omega, by omega, by omega, ?_⟩) (fun c2 => ?_))
    · unfold wp_X9_peek
      refine s_isTape9 hv (ibs (fun _ => ⟨by omega, by omega, ?_⟩) (fun z => absurd c z))
      rw [b8]
      refine s_within hw (by decide) ⟨by omega, by omega⟩ (ibs (fun _ => ⟨by omega, by omega, ?_⟩) (fun z => absurd (show 0 ≤ w ∧ w ≤ (ln : Int) - 1 by omega) z))
      obtain ⟨i, rfl, -, hi⟩ := natOf (v := w) (a := 0) (b := 59) (by omega) (by omega)
      obtain ⟨q1, q2⟩ := b9 i (by omega)
      rw [show σ (81 + 2 * ((t : Nat) : Int).toNat) (i : Int) = τ 12 (60 * (t : Int) + i) from q1]
      exact Al_same q2 hK
    · unfold wp_X8_peek_21 wp_X9_peek
      refine s_isTape9 hv (ibs (fun _ => ⟨by omega, by omega, ?_⟩) (fun z => absurd c z))
      rw [b8]
      exact s_within hw (by decide) ⟨by omega, by omega⟩ (ibs (fun z => absurd (show 0 ≤ w ∧ (0 : Int) ≤ 1 ∧ w + 1 ≤ (ln : Int) by omega) c2) (fun _ => e))
  · unfold wp_X8_peek_21 wp_X9_peek
    exact s_isTape9 hv (ibs (fun z => absurd z c) (fun _ => e))
theorem s_tpbegin {ρ : St} {so ln : Int} {post : St → Prop} (hp : ∀ ρ' : St, ρ' 0 0 = so → ρ' 0 1 = ln → (∀ i : Nat, i < 60 → ρ' 1 (i : Int) = 0) → post ρ') : wp_X6_begin ρ so ln post := by
  intro σ1 e1 σ2 e2
  have b0 : σ2 0 0 = so := by rw [e2, up_j _ (by decide), e1, up_same]
  have b1 : σ2 0 1 = ln := by rw [e2, up_same]
  have l : ∀ (fu k : Nat) (τ : St), k ≤ 60 → 60 < k + fu → τ 0 = σ2 0 → (∀ i : Nat, i < k → τ 1 (i : Int) = 0) → wp_X6_begin_12 post fu k τ := by
    intro fu
    induction fu with
    | zero => intro k τ a b; omega
    | succ fu ih =>
      intro k τ a b t0 t1
      unfold wp_X6_begin_12
      refine ⟨rgn (by omega), fun c => hp τ (by rw [t0]; exact b0) (by rw [t0]; exact b1) (fun i hi => t1 i (by omega)), fun c => ⟨by omega, by omega, ?_⟩⟩
      intro τ1 u1
      rw [show (k : Int) + 1 = ((k + 1 : Nat) : Int) by omega]
      refine ih (k + 1) τ1 (by omega) (by omega) (by rw [u1, up_ne _ (by decide)]; exact t0) (fun i hi => ?_)
      rw [u1]
      by_cases z : i = k
      · rw [z, up_same]
      · rw [up_j _ (by omega)]; exact t1 i (by omega)
  exact ⟨62, l 62 0 σ2 (by omega) (by omega) rfl (fun i hi => absurd hi (Nat.not_lt_zero _))⟩
theorem op_tape {s : Su} {σ τ : St} (h : RR s σ τ) {v w x : Int} (hv : rg v) (hw : rg w) (hx : rg x) {K : Kt} (hk : ∀ s' σ' τ', RR s' σ' τ' → K σ' τ') : wp_X8_tape σ v w x (fun r1 σ1 => wp_X9_tape τ v w x (fun r2 τ1 => An K r1 r2 σ1 τ1)) := by
  have hK := hk s σ τ h
  have n1 : ¬ (0 ≤ v ∧ v ≤ 5) → wp_X9_tape τ v w x (fun r2 τ1 => An K (-1) r2 σ τ1) := fun c => by
    unfold wp_X9_tape
    exact s_isTape9 hv (ibr (fun z => absurd z c) (fun _ => An_same (by decide) hK))
  have n2 : (0 ≤ v ∧ v ≤ 5) → ¬ (-1 ≤ w ∧ w ≤ 4) → wp_X9_tape τ v w x (fun r2 τ1 => An K (-2) r2 σ τ1) := fun c c2 => by
    unfold wp_X9_tape
    refine s_isTape9 hv (ibr (fun _ => ?_) (fun z => absurd c z))
    exact s_within hw (by decide) (by decide) (ibs (fun z => absurd z c2) (fun _ => An_same (by decide) hK))
  have n3 : (0 ≤ v ∧ v ≤ 5) → (-1 ≤ w ∧ w ≤ 4) → w ≠ -1 → 60 < x → wp_X9_tape τ v w x (fun r2 τ1 => An K (-2) r2 σ τ1) := fun c c2 c3 c4 => by
    unfold wp_X9_tape
    refine s_isTape9 hv (ibr (fun _ => ?_) (fun z => absurd c z))
    exact s_within hw (by decide) (by decide) (ibs (fun _ => ⟨hw, fun z => by omega, fun _ => ⟨hx, fun z => by omega, fun _ => An_same (by decide) hK⟩⟩) (fun z => absurd c2 z))
  have n4 : (0 ≤ v ∧ v ≤ 5) → (-1 ≤ w ∧ w ≤ 4) → w ≠ -1 → x < 0 → wp_X9_tape τ v w x (fun r2 τ1 => An K (-14) r2 σ τ1) := fun c c2 c3 c4 => by
    unfold wp_X9_tape
    refine s_isTape9 hv (ibr (fun _ => ?_) (fun z => absurd c z))
    exact s_within hw (by decide) (by decide) (ibs (fun _ => ⟨hw, fun z => by omega, fun _ => ⟨hx, fun _ => ⟨hw, fun z => by omega, fun _ => ⟨hx, fun z => by omega, fun _ => An_same (by decide) hK⟩⟩, fun z => by omega⟩⟩) (fun z => absurd c2 z))
  -- the tape begins
  have good : ∀ (t : Nat) (ln : Nat), v = (t : Int) → t ≤ 5 → (-1 ≤ w ∧ w ≤ 4) → ln ≤ 60 → (w = -1 → ln = 0) → (w ≠ -1 → x = (ln : Int)) → ∀ ρ : St, ρ 0 0 = w → ρ 0 1 = (ln : Int) → (∀ i : Nat, i < 60 → ρ 1 (i : Int) = 0) → ∀ σ2 : St, σ2 = mrg σ [80 + 2 * t, 81 + 2 * t] ρ → wp_X9_tape τ v w x (fun r2 τ1 => An K 1 r2 σ2 τ1) := by
    intro t ln hvt ht c2 hln hl1 hl2 ρ p0 p1 p2 σ2 e2
    subst hvt
    have loop : ∀ (fu k : Nat) (τ1 : St), k ≤ 60 → 60 < k + fu → τ1 10 (t : Int) = w + 1 → τ1 11 (t : Int) = ln → (∀ j : Int, j ≠ t → τ1 10 j = τ 10 j ∧ τ1 11 j = τ 11 j) → (∀ i : Nat, i < k → τ1 12 (60 * (t : Int) + i) = 0) → (∀ j : Int, ¬ (60 * (t : Int) ≤ j ∧ j < 60 * (t : Int) + 60) → τ1 12 j = τ 12 j) → (∀ d, d ≠ 10 → d ≠ 11 → d ≠ 12 → τ1 d = τ d) → wp_X9_tape_69 (fun r2 τ1 => An K 1 r2 σ2 τ1) fu t k τ1 := by
      intro fu
      induction fu with
      | zero => intro k τ1 a b; omega
      | succ fu ih =>
        intro k τ1 a b q1 q2 q3 q4 q5 q6
        unfold wp_X9_tape_69
        refine ⟨rgn (by omega), fun c => ?_, fun c => ⟨by omega, by omega, ?_⟩⟩
        · refine An_same (by decide) (hk s σ2 τ1 (RR_tape h (t := t) (so := w) (ln := ln) (fun k h1 h2 => by rw [e2, mrg_j, if_neg h1, if_neg h2]) (fun d d1 d2 d3 _ => q6 d d1 d2 d3) (fun t' h1 h2 => ⟨(q3 t' (by omega)).1, (q3 t' (by omega)).2, fun i hi => q5 _ (by omega)⟩) ⟨c2.1, c2.2, hln, hl1, ?_, ?_, q1, q2, fun i hi => ?_⟩))
          · rw [e2, mrg_j, if_pos rfl]; exact p0
          · rw [e2, mrg_j, if_pos rfl]; exact p1
          · rw [e2, mrg_j, if_neg (by omega), if_pos rfl, q4 i (by omega)]; exact ⟨p2 i hi, by constructor <;> decide⟩
        · intro τ2 u2
          rw [show (k : Int) + 1 = ((k + 1 : Nat) : Int) by omega]
          refine ih (k + 1) τ2 (by omega) (by omega) (by rw [u2, up_c _ _ (by decide)]; exact q1) (by rw [u2, up_c _ _ (by decide)]; exact q2) (fun j hj => by rw [u2, up_c _ _ (by decide), up_c _ _ (by decide)]; exact q3 j hj) (fun i hi => ?_) (fun j hj => by rw [u2, up_j _ (by omega)]; exact q5 j hj) (fun d d1 d2 d3 => by rw [u2, up_ne _ d3]; exact q6 d d1 d2 d3)
          rw [u2]
          by_cases z : i = k
          · rw [z, up_same]
          · rw [up_j _ (by omega)]; exact q4 i (by omega)
    have k65 : ∀ τ1 : St, τ1 = up τ 10 (t : Int) (w + 1) → wp_X9_tape_65 (fun r2 τ1 => An K 1 r2 σ2 τ1) t t ln τ1 := by
      intro τ1 u1
      refine ⟨by omega, by omega, ?_⟩
      intro τ2 u2
      exact ⟨62, loop 62 0 τ2 (by omega) (by omega) (by rw [u2, up_c _ _ (by decide), u1, up_same]) (by rw [u2, up_same]) (fun j hj => by rw [u2, up_c _ _ (by decide), up_j _ hj, u1, up_j _ hj, up_c _ _ (by decide)]; exact ⟨rfl, rfl⟩) (fun i hi => absurd hi (Nat.not_lt_zero _)) (fun j _ => by rw [u2, up_c _ _ (by decide), u1, up_c _ _ (by decide)]) (fun d d1 d2 d3 => by rw [u2, up_ne _ d2, u1, up_ne _ d1])⟩
    have k42 : wp_X9_tape_42 (fun r2 τ1 => An K 1 r2 σ2 τ1) t w x τ := by
      refine ⟨by omega, by omega, ?_⟩
      intro τ1 u1
      refine ⟨hw, fun c => ?_, fun c => ?_⟩
      · rw [hl2 (by omega)]; exact k65 τ1 u1
      · have := k65 τ1 u1
        rwa [hl1 (by omega)] at this
    have k31 : wp_X9_tape_31 (fun r2 τ1 => An K 1 r2 σ2 τ1) t w x τ := by
      refine ⟨hw, fun _ => k42, fun c => ⟨hx, fun _ => k42, fun z => ?_⟩⟩
      have := hl2 (by omega); omega
    unfold wp_X9_tape
    refine s_isTape9 hv (ibr (fun _ => ?_) (fun z => by omega))
    refine s_within hw (by decide) (by decide) (ibs (fun _ => ⟨hw, fun _ => k31, fun c => ⟨hx, fun _ => k31, fun z => ?_⟩⟩) (fun z => absurd c2 z))
    have := hl2 (by omega); omega
  unfold wp_X8_tape
  refine s_isTape8 hv (ibr (fun c => ⟨hw, fun c1 => n2 c (by omega), fun c1 => ⟨hw, fun c2 => ⟨hw, fun c3 => ⟨hx, fun c4 => ⟨hx, fun c5 => ⟨by omega, by omega, ?_⟩, fun c5 => n4 c (by omega) c3 (by omega)⟩, fun c4 => n3 c (by omega) c3 (by omega)⟩, fun c3 => ⟨by omega, by omega, ?_⟩⟩, fun c2 => n2 c (by omega)⟩⟩) (fun c => n1 c))
  · obtain ⟨t, rfl, -, ht⟩ := natOf (v := v) (a := 0) (b := 5) (by omega) (by omega)
    obtain ⟨ln, rfl, -, hl⟩ := natOf (v := x) (a := 0) (b := 60) (by omega) (by omega)
    refine s_tpbegin (fun ρ' p0 p1 p2 => ?_)
    intro σ2 e2
    exact good t ln rfl ht (by omega) hl (fun z => absurd z c3) (fun _ => rfl) ρ' p0 p1 p2 σ2 e2
  · obtain ⟨t, rfl, -, ht⟩ := natOf (v := v) (a := 0) (b := 5) (by omega) (by omega)
    refine s_tpbegin (fun ρ' p0 p1 p2 => ?_)
    intro σ2 e2
    exact good t 0 rfl ht (by omega) (by omega) (fun _ => rfl) (fun z => absurd c3 z) ρ' (p0.trans c3.symm) p1 p2 σ2 e2
