/-! course -/
def LJ (n : Nat) (P : Nat → Nat) : Nat → Nat → Nat
  | 0, p => p
  | j + 1, p => LJ n P j (PI n (P j) p)
theorem LJ_ok {n : Nat} (h4 : 4 ≤ n) (h8 : n ≤ 8) {P : Nat → Nat} {m : Nat} (hP : ∀ i, i < m → P i < 256 ∧ GD n (P i) = true) : ∀ j, j ≤ m → (∀ p, p < n → LJ n P j p < n) ∧ ∀ p q, p < n → q < n → LJ n P j p = LJ n P j q → p = q
  | 0, _ => ⟨fun _ h => h, fun _ _ _ _ e => e⟩
  | j + 1, hj => by
    obtain ⟨a, b⟩ := LJ_ok h4 h8 hP j (by omega)
    have pt := fun p (hp : p < n) => (pi_tab n (by omega) h4 _ (hP j (by omega)).1 (hP j (by omega)).2 p (by omega)).1 hp
    refine ⟨fun p hp => a _ (pt p hp).1, fun p q hp hq e => ?_⟩
    have := b _ _ (pt p hp).1 (pt q hq).1 e
    rw [← (pt p hp).2.1, ← (pt q hq).2.1, this]
abbrev Lc (c : Cf) : Nat → Nat := LJ (cN c) (cH c) (cM c)
/-- the row after k leads -/
abbrev lrow (c : Cf) (k : Nat) : Nat → Nat := fun p => itf (Lc c) k p + 1
theorem itf_right (L : Nat → Nat) (k p : Nat) : itf L (k + 1) p = itf L k (L p) := rfl
theorem rwOK_cong {n : Nat} {f g : Nat → Nat} {x : Int} (h : rwOK n f x) (e : ∀ p, p < n → f p = g p) : rwOK n g x := by
  refine ⟨h.1, fun p hp => ?_⟩
  rw [h.2 p hp]
  by_cases z : p < n
  · rw [if_pos z, if_pos z, e p z]
  · rw [if_neg z, if_neg z]
theorem t_lead {c : Cf} (hw : wfC c) {σ : St} (h2 : σ 0 2 = cM c) (hm : ∀ i, i < cM c → σ 2 (i : Int) = PR (cN c) (cH c i)) (h1 : rwOK (cN c) (fun p => p + 1) (σ 1 0)) {f : Nat → Nat} {v2 : Nat} (hv2 : v2 ≤ 1000) {k9 : Int → Int → St → Prop} {post : Int → Prop} : ∀ (k fu j : Nat) (x : Int), j + k = cM c → k < fu → rwOK (cN c) (fun p => f (LJ (cN c) (cH c) j p)) x → ((∀ p, p < cN c → f (Lc c p) = p + 1) → post v2) → (¬ (∀ p, p < cN c → f (Lc c p) = p + 1) → ∀ x : Int, rwOK (cN c) (fun p => f (Lc c p)) x → k9 x ((v2 : Int) + 1) σ) → wp_X7_course_24 k9 post fu x v2 j σ := by
  have h16 := hw.2.2.1
  intro k
  induction k with
  | zero =>
    intro fu j x e hf hx hp hn
    obtain ⟨fu, rfl⟩ : ∃ f, fu = f + 1 := ⟨fu - 1, by omega⟩
    have hj : j = cM c := by omega
    subst hj
    unfold wp_X7_course_24
    rw [h2]
    have hiff := rw_eq hw.2.1 hx h1
    refine ⟨rgn (by omega), rgn (by omega), fun _ => ⟨hx.1, h1.1, fun z => hn (fun q => z (hiff.mpr q)) x hx, fun z => hp (hiff.mp z)⟩, fun z => by omega⟩
  | succ k ih =>
    intro fu j x e hf hx hp hn
    obtain ⟨fu, rfl⟩ : ∃ f, fu = f + 1 := ⟨fu - 1, by omega⟩
    unfold wp_X7_course_24
    rw [h2]
    have hch := hw.2.2.2.1 j (by omega)
    refine ⟨rgn (by omega), rgn (by omega), fun z => by omega, fun _ => ⟨by omega, by omega, ?_⟩⟩
    rw [hm j (by omega)]
    refine s_swapped ?_
    rw [show (j : Int) + 1 = ((j + 1 : Nat) : Int) by omega]
    exact ih fu (j + 1) _ (by omega) (by omega) (swp_row hw.1 hw.2.1 hch.1 hch.2 hx) hp hn
/-- the first number of leads that brings rounds back -/
def crB (c : Cf) (k : Nat) : Bool := allU (fun p => itf (Lc c) k p == p) (cN c) 0
theorem crB_iff {c : Cf} {k : Nat} : crB c k = true ↔ ∀ p, p < cN c → itf (Lc c) k p = p := by
  unfold crB; rw [allU_iff]
  constructor
  · intro h p hp; exact eq_of_beq (h p (Nat.zero_le _) (by omega))
  · intro h p _ hp; rw [h p (by omega)]; exact beq_self_eq_true _
theorem cr_ex {c : Cf} (hw : wfC c) : ∃ k, 1 ≤ k ∧ k ≤ 15 ∧ crB c k = true ∧ ∀ k', 1 ≤ k' → k' < k → crB c k' = false := by
  obtain ⟨a, b⟩ := LJ_ok hw.1 hw.2.1 (m := cM c) hw.2.2.2.1 (cM c) (Nat.le_refl _)
  obtain ⟨k, k1, k2, k3⟩ := lead_order (L := Lc c) (n := cN c) a b hw.2.1
  have least : ∀ m, (∃ k, 1 ≤ k ∧ k ≤ m ∧ crB c k = true) → ∃ o, 1 ≤ o ∧ o ≤ m ∧ crB c o = true ∧ ∀ k, 1 ≤ k → k < o → crB c k = false := by
    intro m
    induction m with
    | zero => rintro ⟨k, h1, h2, _⟩; omega
    | succ m ih =>
      rintro ⟨k, h1, h2, h3⟩
      by_cases hm : ∃ k, 1 ≤ k ∧ k ≤ m ∧ crB c k = true
      · obtain ⟨o, a, b, c, d⟩ := ih hm
        exact ⟨o, a, by omega, c, d⟩
      · have : k = m + 1 := by
          apply Classical.byContradiction
          intro z; exact hm ⟨k, h1, by omega, h3⟩
        subst this
        refine ⟨m + 1, h1, Nat.le_refl _, h3, fun k' a b => ?_⟩
        cases q : crB c k'
        · rfl
        · exact absurd ⟨k', a, by omega, q⟩ hm
  exact least 15 ⟨k, k2, by omega, crB_iff.mpr k3⟩
theorem t_course {c : Cf} (hw : wfC c) (hM : 0 < cM c) {σ : St} (h2 : σ 0 2 = cM c) (hm : ∀ i, i < cM c → σ 2 (i : Int) = PR (cN c) (cH c i)) (h1 : rwOK (cN c) (fun p => p + 1) (σ 1 0)) {o : Nat} (ho : o ≤ 15) (h3 : crB c o = true) (h4 : ∀ k', 1 ≤ k' → k' < o → crB c k' = false) {post : Int → Prop} (hp : post o) : ∀ (d fu k : Nat) (x : Int), k + d + 1 = o → d < fu → rwOK (cN c) (lrow c k) x → wp_X7_course_9 post fu x ((k : Int) + 1) σ := by
  have h16 := hw.2.2.1
  intro d
  induction d with
  | zero =>
    intro fu k x e hf hx
    obtain ⟨fu, rfl⟩ : ∃ f, fu = f + 1 := ⟨fu - 1, by omega⟩
    unfold wp_X7_course_9
    rw [h2]
    have hk : k + 1 = o := by omega
    refine ⟨⟨by omega, by omega⟩, fun z => by omega, fun _ => ⟨rgn (by omega), fun z => by omega, fun _ => ⟨cM c + 1, ?_⟩⟩⟩
    rw [show (k : Int) + 1 = ((k + 1 : Nat) : Int) by omega]
    refine t_lead hw h2 hm h1 (f := lrow c k) (v2 := k + 1) (by omega) (cM c) (cM c + 1) 0 x (by omega) (by omega) hx (fun _ => by rw [hk]; exact hp) (fun z => absurd (fun p hp => ?_) z)
    have := crB_iff.mp h3 p hp
    rw [← hk] at this
    show itf (Lc c) (k + 1) p + 1 = p + 1
    rw [this]
  | succ d ih =>
    intro fu k x e hf hx
    obtain ⟨fu, rfl⟩ : ∃ f, fu = f + 1 := ⟨fu - 1, by omega⟩
    unfold wp_X7_course_9
    rw [h2]
    have hno := h4 (k + 1) (by omega) (by omega)
    refine ⟨⟨by omega, by omega⟩, fun z => by omega, fun _ => ⟨rgn (by omega), fun z => by omega, fun _ => ⟨cM c + 1, ?_⟩⟩⟩
    rw [show (k : Int) + 1 = ((k + 1 : Nat) : Int) by omega]
    refine t_lead hw h2 hm h1 (f := lrow c k) (v2 := k + 1) (by omega) (cM c) (cM c + 1) 0 x (by omega) (by omega) hx (fun z => ?_) (fun _ x' hx' => ih fu (k + 1) x' (by omega) (by omega) hx')
    have : crB c (k + 1) = true := crB_iff.mpr (fun p hp => by have : itf (Lc c) (k + 1) p + 1 = p + 1 := z p hp; omega)
    rw [this] at hno; exact absurd hno (by decide)
/-- the reference's leads -/
theorem m_lead {c : Cf} (hw : wfC c) (hM : 0 < cM c) {f : Nat → Nat} (hf8 : ∀ p, p < cN c → 1 ≤ f p ∧ f p ≤ 8) {τ0 : St} {ky : Int} (hky : ky = kyF (fun p => p + 1) (cN c)) {v3 : Nat} (hv3 : v3 ≤ 1000) {k57 : Int → Int → Int → Int → St → Prop} {post : Int → St → Prop} (hk : ∀ (τ' : St) (fl : Int), (∀ p, p < cN c → τ' 3 (p : Int) = f (Lc c p)) → (∀ d, d ≠ 3 → d ≠ 4 → τ' d = τ0 d) → (fl = if (∀ p, p < cN c → f (Lc c p) = p + 1) then 0 else 1) → k57 (cM c) ky ((v3 : Int) + 1) fl τ') (hc1 : mcOK (τ0 1) c) : ∀ (k fu j : Nat) (τ : St), j + k = cM c → k < fu → (∀ p, p < cN c → τ 3 (8 * (j : Int) + p) = f (LJ (cN c) (cH c) j p)) → (0 < j → τ 4 (j : Int) = kyF (fun p => f (LJ (cN c) (cH c) j p)) (cN c)) → (∀ d, d ≠ 3 → d ≠ 4 → τ d = τ0 d) → wp_X9_course_65 k57 post fu (cM c) ky v3 j τ := by
  have h4 := hw.1
  have h8 := hw.2.1
  have h16 := hw.2.2.1
  have hLJ := LJ_ok hw.1 hw.2.1 (m := cM c) hw.2.2.2.1
  intro k
  induction k with
  | zero =>
    intro fu j τ e hf hrow hkey hd
    obtain ⟨fu, rfl⟩ : ∃ f, fu = f + 1 := ⟨fu - 1, by omega⟩
    have hj : j = cM c := by omega
    subst hj
    have hN : ∀ p, p < cN c → 1 ≤ f (Lc c p) ∧ f (Lc c p) ≤ 8 := fun p hp => hf8 _ ((hLJ _ (Nat.le_refl _)).1 p hp)
    have hkk := hkey hM
    have kr1 : rg (kyF (fun p => f (Lc c p)) (cN c)) := kyF_rg h8 hN
    have kr2 : rg (kyF (fun p => p + 1) (cN c)) := kyF_rg h8 (fun p hp => by omega)
    have kiff := kyF_inj (f := fun p => f (Lc c p)) (g := fun p => p + 1) (cN c) hN (fun p hp => by omega)
    unfold wp_X9_course_65
    rw [hkk, hky]
    have cp : ∀ fl : Int, (fl = if (∀ p, p < cN c → f (Lc c p) = p + 1) then 0 else 1) → wp_X9_course_111 k57 post (cM c) (kyF (fun p => p + 1) (cN c)) ((v3 : Int) + 1) fl τ := by
      intro fl hfl
      have loop : ∀ (k fu i : Nat) (τ1 : St), i + k = cN c → k < fu → (∀ p, p < i → τ1 3 (p : Int) = f (Lc c p)) → (∀ j : Int, 8 ≤ j → τ1 3 j = τ 3 j) → (∀ d, d ≠ 3 → d ≠ 4 → τ1 d = τ0 d) → wp_X9_course_116 k57 post fu (cM c) (kyF (fun p => p + 1) (cN c)) ((v3 : Int) + 1) fl i τ1 := by
        intro k
        induction k with
        | zero =>
          intro fu i τ1 e hf q1 q2 q3
          obtain ⟨fu, rfl⟩ : ∃ f, fu = f + 1 := ⟨fu - 1, by omega⟩
          unfold wp_X9_course_116
          rw [show τ1 1 0 = (cN c : Int) by rw [q3 1 (by decide) (by decide)]; exact hc1.1]
          refine ⟨rgn (by omega), rgn (by omega), fun _ => ?_, fun z => by omega⟩
          have := hk τ1 fl (fun p hp => q1 p (by omega)) q3 hfl
          rw [hky] at this; exact this
        | succ k ih =>
          intro fu i τ1 e hf q1 q2 q3
          obtain ⟨fu, rfl⟩ : ∃ f, fu = f + 1 := ⟨fu - 1, by omega⟩
          unfold wp_X9_course_116
          rw [show τ1 1 0 = (cN c : Int) by rw [q3 1 (by decide) (by decide)]; exact hc1.1]
          refine ⟨rgn (by omega), rgn (by omega), fun z => by omega, fun _ => ⟨by omega, by omega, by omega, by omega, ?_⟩⟩
          intro τ2 u2
          rw [show (i : Int) + 1 = ((i + 1 : Nat) : Int) by omega]
          refine ih fu (i + 1) τ2 (by omega) (by omega) (fun p hp => ?_) (fun j hj => by rw [u2, up_j _ (by omega)]; exact q2 j hj) (fun d d1 d2 => by rw [u2, up_ne _ d1]; exact q3 d d1 d2)
          rw [u2]
          by_cases z : p = i
          · rw [z, up_same, q2 _ (by omega)]; exact hrow i (by omega)
          · rw [up_j _ (by omega)]; exact q1 p (by omega)
      exact ⟨cN c + 1, loop (cN c) (cN c + 1) 0 τ (by omega) (by omega) (fun p hp => absurd hp (Nat.not_lt_zero _)) (fun _ _ => rfl) hd⟩
    refine ⟨rgn (by omega), rgn (by omega), fun _ => ⟨by omega, by omega, kr1, kr2, fun z => cp 0 ?_, fun z => cp 1 ?_⟩, fun z => by omega⟩
    · rw [if_pos (kiff.mp z)]
    · rw [if_neg (fun q => z (kiff.mpr q))]
  | succ k ih =>
    intro fu j τ e hf hrow hkey hd
    obtain ⟨fu, rfl⟩ : ∃ f, fu = f + 1 := ⟨fu - 1, by omega⟩
    have hch := hw.2.2.2.1 j (by omega)
    have e1 : τ 1 = τ0 1 := hd 1 (by decide) (by decide)
    unfold wp_X9_course_65
    rw [show τ 1 (8 + (j : Int)) = (cH c j : Int) by rw [e1]; exact hc1.2.2.2.2.2.1 j (by omega)]
    refine ⟨rgn (by omega), rgn (by omega), fun z => by omega, fun _ => ⟨by omega, by omega, ?_⟩⟩
    refine s_goes h8 (by omega) (by omega) (by rw [e1]; exact hc1.1) (GD_gdF hch.2) hrow (fun τ' g1 g2 g3 g4 g5 => ?_)
    rw [show (j : Int) + 1 = ((j + 1 : Nat) : Int) by omega]
    exact ih fu (j + 1) τ' (by omega) (by omega) g1 (fun _ => g3) (fun d d1 d2 => by rw [g5 d d1 d2]; exact hd d d1 d2)
