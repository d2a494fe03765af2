theorem m_courses {c : Cf} (hw : wfC c) (hM : 0 < cM c) {τ0 : St} (hc1 : mcOK (τ0 1) c) {ky : Int} (hky : ky = kyF (fun p => p + 1) (cN c)) {o : Nat} (ho : o ≤ 15) (h3 : crB c o = true) (h4 : ∀ k', 1 ≤ k' → k' < o → crB c k' = false) {post : Int → St → Prop} (hp : ∀ τ' : St, (∀ d, d ≠ 3 → d ≠ 4 → τ' d = τ0 d) → post o τ') : ∀ (d fu k : Nat) (τ : St), k + d + 1 = o → d + 1 < fu → (∀ p, p < cN c → τ 3 (p : Int) = lrow c k p) → (∀ d, d ≠ 3 → d ≠ 4 → τ d = τ0 d) → wp_X9_course_57 post fu (cM c) ky k 1 τ := by
  have h8 := hw.2.1
  have hLJ := LJ_ok hw.1 hw.2.1 (m := cM c) hw.2.2.2.1 (cM c) (Nat.le_refl _)
  have hf8 : ∀ k p, p < cN c → 1 ≤ lrow c k p ∧ lrow c k p ≤ 8 := fun k p hp => by
    have := itf_lt (L := Lc c) hLJ.1 k p hp
    exact ⟨by show 1 ≤ itf (Lc c) k p + 1; omega, by show itf (Lc c) k p + 1 ≤ 8; omega⟩
  intro d
  induction d with
  | zero =>
    intro fu k τ e hf hrow hd
    obtain ⟨fu, rfl⟩ : ∃ f, fu = f + 1 := ⟨fu - 1, by omega⟩
    unfold wp_X9_course_57
    refine ⟨by decide, fun z => absurd z (by decide), fun _ => ⟨cM c + 1, ?_⟩⟩
    refine m_lead hw hM (f := lrow c k) (hf8 k) hky (v3 := k) (by omega) (fun τ' fl g1 g2 g3 => ?_) hc1 (cM c) (cM c + 1) 0 τ (by omega) (by omega) (fun p hp => ?_) (fun z => absurd z (by omega)) hd
    · obtain ⟨fu, rfl⟩ : ∃ f, fu = f + 1 := ⟨fu - 1, by omega⟩
      rw [if_pos (fun p hp => ?_)] at g3
      · unfold wp_X9_course_57
        rw [g3]
        refine ⟨by decide, fun _ => ?_, fun z => absurd rfl z⟩
        rw [show (k : Int) + 1 = (o : Int) by omega]
        exact hp τ' g2
      · have := crB_iff.mp h3 p hp
        rw [show o = k + 1 by omega] at this
        show itf (Lc c) (k + 1) p + 1 = p + 1
        rw [this]
    · rw [show 8 * ((0 : Nat) : Int) + (p : Int) = (p : Int) by omega]; exact hrow p hp
  | succ d ih =>
    intro fu k τ e hf hrow hd
    obtain ⟨fu, rfl⟩ : ∃ f, fu = f + 1 := ⟨fu - 1, by omega⟩
    have hno := h4 (k + 1) (by omega) (by omega)
    unfold wp_X9_course_57
    refine ⟨by decide, fun z => absurd z (by decide), fun _ => ⟨cM c + 1, ?_⟩⟩
    refine m_lead hw hM (f := lrow c k) (hf8 k) hky (v3 := k) (by omega) (fun τ' fl g1 g2 g3 => ?_) hc1 (cM c) (cM c + 1) 0 τ (by omega) (by omega) (fun p hp => ?_) (fun z => absurd z (by omega)) hd
    · rw [if_neg (fun z => ?_)] at g3
      · rw [g3, show (k : Int) + 1 = ((k + 1 : Nat) : Int) by omega]
        exact ih fu (k + 1) τ' (by omega) (by omega) g1 g2
      · have : crB c (k + 1) = true := crB_iff.mpr (fun p hp => by have : itf (Lc c) (k + 1) p + 1 = p + 1 := z p hp; omega)
        rw [this] at hno; exact absurd hno (by decide)
    · rw [show 8 * ((0 : Nat) : Int) + (p : Int) = (p : Int) by omega]; exact hrow p hp
theorem m_course {c : Cf} (hw : wfC c) (hM : 0 < cM c) {τ : St} (hc1 : mcOK (τ 1) c) {o : Nat} (ho1 : 1 ≤ o) (ho : o ≤ 15) (h3 : crB c o = true) (h4 : ∀ k', 1 ≤ k' → k' < o → crB c k' = false) {post : Int → St → Prop} (hp : ∀ τ' : St, (∀ d, d ≠ 3 → d ≠ 4 → τ' d = τ d) → post o τ') : wp_X9_course τ post := by
  have h8 := hw.2.1
  have h16 := hw.2.2.1
  unfold wp_X9_course
  rw [show τ 1 1 = (cM c : Int) from hc1.2.1]
  refine ⟨rgn (by omega), fun _ => ⟨cN c + 1, ?_⟩, fun z => by omega⟩
  have loop : ∀ (k fu i : Nat) (τ1 : St), i + k = cN c → k < fu → (∀ p, p < i → τ1 3 (p : Int) = ((p + 1 : Nat) : Int)) → (∀ d, d ≠ 3 → τ1 d = τ d) → wp_X9_course_15 post fu (cM c) i τ1 := by
    intro k
    induction k with
    | zero =>
      intro fu i τ1 e hf q1 q2
      obtain ⟨fu, rfl⟩ : ∃ f, fu = f + 1 := ⟨fu - 1, by omega⟩
      have e0 : τ1 1 0 = (cN c : Int) := by rw [q2 1 (by decide)]; exact hc1.1
      unfold wp_X9_course_15
      rw [e0]
      refine ⟨rgn (by omega), rgn (by omega), fun _ => ?_, fun z => by omega⟩
      refine s_keys (r := 0) (f := fun p => p + 1) h8 (by decide) e0 (fun p hp => ?_) ⟨o + 1, ?_⟩
      · rw [show 8 * ((0 : Nat) : Int) + (p : Int) = (p : Int) by omega]; exact q1 p (by omega)
      · have hup : up τ1 4 ((0 : Nat) : Int) (kyF (fun p => p + 1) (cN c)) 4 0 = kyF (fun p => p + 1) (cN c) := up_same
        rw [hup]
        refine m_courses (k := 0) hw hM hc1 rfl ho h3 h4 hp (o - 1) (o + 1) _ (by omega) (by omega) (fun p hp => ?_) (fun d d1 d2 => by rw [up_ne _ d2]; exact q2 d d1)
        rw [up_c _ _ (by decide)]; exact q1 p (by omega)
    | succ k ih =>
      intro fu i τ1 e hf q1 q2
      obtain ⟨fu, rfl⟩ : ∃ f, fu = f + 1 := ⟨fu - 1, by omega⟩
      have e0 : τ1 1 0 = (cN c : Int) := by rw [q2 1 (by decide)]; exact hc1.1
      unfold wp_X9_course_15
      rw [e0]
      refine ⟨rgn (by omega), rgn (by omega), fun z => by omega, fun _ => ⟨by omega, by omega, ?_⟩⟩
      intro τ2 u2
      rw [show (i : Int) + 1 = ((i + 1 : Nat) : Int) by omega] at u2 ⊢
      refine ih fu (i + 1) τ2 (by omega) (by omega) (fun p hp => ?_) (fun d d1 => by rw [u2, up_ne _ d1]; exact q2 d d1)
      rw [u2]
      by_cases z : p = i
      · rw [z, up_same]
      · rw [up_j _ (by omega)]; exact q1 p (by omega)
  exact loop (cN c) (cN c + 1) 0 τ (by omega) (by omega) (fun p hp => absurd hp (Nat.not_lt_zero _)) (fun _ _ => rfl)
theorem op_toldc {s : Su} {σ τ : St} (h : RR s σ τ) {v : Int} (hv : rg v) {K : Kt} (hk : ∀ s' σ' τ', RR s' σ' τ' → K σ' τ') : wp_X8_told σ v (fun r1 σ1 => wp_X9_told τ v (fun r2 τ1 => An K r1 r2 σ1 τ1)) := by
  refine op_told h hv hk (fun σ' h' => ?_)
  have hw := h.1.1
  have h16 := hw.2.2.1
  have g2 : pk σ' (blk 49 7) 0 2 = cM s.1 := by rw [pk_blk (by decide)]; exact h'.2.2.1.1.1
  unfold wp_X7_course
  by_cases hM : cM s.1 = 0
  · refine ⟨1, by decide, fun z => absurd z (by decide), fun _ => ?_⟩
    rw [g2]
    refine ⟨rgn (by omega), fun _ => ?_, fun z => by omega⟩
    unfold wp_X9_course
    rw [show τ 1 1 = (cM s.1 : Int) from h.2.2.1.1.2.1]
    exact ⟨rgn (by omega), fun z => by omega, fun _ => An_same (by decide) (hk s _ _ h'.1)⟩
  · obtain ⟨o, o1, o2, o3, o4⟩ := cr_ex hw
    have hr0 : rwOK (cN s.1) (fun p => p + 1) (pk σ' (blk 49 7) 1 0) := by
      rw [pk_blk (by decide)]; exact RT_row h' (r := 0) (Nat.zero_le _)
    refine ⟨o + 1, t_course (k := 0) hw (by omega) g2 (fun i hi => by rw [pk_blk (by decide)]; exact h'.2.2.1.1.2.1 i hi) hr0 o2 o3 o4 ?_ (o - 1) (o + 1) _ (by omega) (by omega) hr0⟩
    refine m_course hw (by omega) h.2.2.1.1 o1 o2 o3 o4 (fun τ' g => An_same (rgn (by omega)) (hk s _ _ (RR_scr h'.1 (g 1 (by decide) (by decide)) (fun j _ => by rw [g 0 (by decide) (by decide)]) (fun d hd => g d (by omega) (by omega)))))
