/-! which rows are as others -/
def ffF (X : Nat → Int) (r : Nat) : Nat → Nat → Nat
  | 0, q => q
  | k + 1, q => if X q = X r then q else ffF X r k (q + 1)
def fst (X : Nat → Int) (r : Nat) : Nat := ffF X r r 0
theorem ffF_spec {X : Nat → Int} {r : Nat} : ∀ (k q : Nat), q + k = r → (∀ z, z < q → X z ≠ X r) → ffF X r k q ≤ r ∧ X (ffF X r k q) = X r ∧ ∀ z, z < ffF X r k q → X z ≠ X r
  | 0, q, h, hb => by
    have : q = r := by omega
    subst this
    exact ⟨Nat.le_refl _, rfl, hb⟩
  | k + 1, q, h, hb => by
    unfold ffF
    by_cases c : X q = X r
    · rw [if_pos c]; exact ⟨by omega, c, hb⟩
    · rw [if_neg c]
      refine ffF_spec k (q + 1) (by omega) (fun z hz => ?_)
      rcases Nat.lt_or_ge z q with y | y
      · exact hb z y
      · rw [show z = q by omega]; exact c
theorem fst_spec (X : Nat → Int) (r : Nat) : fst X r ≤ r ∧ X (fst X r) = X r ∧ ∀ z, z < fst X r → X z ≠ X r := ffF_spec r 0 (by omega) (fun z hz => absurd hz (Nat.not_lt_zero _))
theorem fst_unique {X : Nat → Int} {r q : Nat} (h1 : X q = X r) (h2 : ∀ z, z < q → X z ≠ X r) : q = fst X r := by
  obtain ⟨a, b, d⟩ := fst_spec X r
  rcases Nat.lt_trichotomy q (fst X r) with z | z | z
  · exact absurd h1 (d q z)
  · exact z
  · exact absurd b (h2 _ z)
theorem fst_cong {X Y : Nat → Int} {r : Nat} (h : ∀ q, q ≤ r → (X q = X r ↔ Y q = Y r)) : fst X r = fst Y r := by
  obtain ⟨a, b, d⟩ := fst_spec X r
  exact fst_unique ((h _ a).mp b) (fun z hz e => d z hz ((h z (by omega)).mpr e))
/-- the first r from .. on with p, else -5 -/
def sch (p : Nat → Bool) : Nat → Nat → Int
  | 0, _ => -5
  | k + 1, r => if p r then (r : Int) else sch p k (r + 1)
theorem sch_cong {p p' : Nat → Bool} : ∀ (k r : Nat), (∀ z, r ≤ z → z < r + k → p z = p' z) → sch p k r = sch p' k r
  | 0, _, _ => rfl
  | k + 1, r, h => by
    unfold sch
    rw [h r (Nat.le_refl _) (by omega), sch_cong k (r + 1) (fun z a b => h z (by omega) (by omega))]
def rdF (X : Nat → Int) (last : Nat) : Int := sch (fun r => fst X r == 0) last 1
def flF (X : Nat → Int) (last : Nat) : Int := sch (fun r => fst X r != r && !(r == last && fst X r == 0)) last 1
def trF (X : Nat → Int) (last : Nat) : Bool := decide (0 < last) && (decide (X last = X 0) && decide (flF X last = -5))
/-- the rows' cell as a function -/
def rwX (σ : St) (o : Nat) : Nat → Int := fun r => σ (o + 1) (r : Int)
def cmOK (σ : St) (o last : Nat) : Prop := σ o 7 = 0 ∨ (σ o 7 = 1 ∧ ∀ r, r ≤ last → σ (o + 4) (r : Int) = fst (rwX σ o) r)
theorem s_compare {σ : St} {last : Nat} (hl : last ≤ 192) (h1 : σ 0 1 = last) (hX : ∀ r, r ≤ last → rg (σ 1 (r : Int))) (hz : ∀ j : Nat, j < 512 → σ 6 (j : Int) = 0) (hc : cmOK σ 0 last) {post : St → Prop} (hp : ∀ σ' : St, (∀ r, r ≤ last → σ' 4 (r : Int) = fst (rwX σ 0) r) → (∀ j : Nat, j < 512 → σ' 6 (j : Int) = 0) → σ' 0 7 = 1 → (∀ i : Int, i ≠ 7 → σ' 0 i = σ 0 i) → (∀ d, d ≠ 0 → d ≠ 4 → d ≠ 6 → σ' d = σ d) → post σ') : wp_X7_compare σ post := by
  unfold wp_X7_compare
  have hrg : rg (σ 0 7) := by rcases hc with e | ⟨e, -⟩ <;> rw [e] <;> decide
  refine ⟨hrg, fun c => ⟨196, ?_⟩, fun c => ?_⟩
  · have hsub : ∀ (τ : St) (T : Nat → Nat) (k : Nat), k ≤ last → τ 1 = σ 1 → (∀ j : Nat, j < 512 → τ 6 (j : Int) = T j) → tbOK (pk τ [5, 6, 1]) (rwX σ 0) T k := fun τ T k hk t1 t6 => ⟨fun r hr _ => ⟨show τ 1 (r : Int) = σ 1 (r : Int) by rw [t1], hX r (by omega)⟩, t6⟩
    have hm : ∀ (τ υ τ1 : St), τ1 = mrg τ [5, 6, 1] υ → (∀ d, d ≠ 1 → υ d = pk τ [5, 6, 1] d) → τ1 6 = υ 1 ∧ ∀ d, d ≠ 6 → τ1 d = τ d := by
      intro τ υ τ1 e hu
      rw [e]
      refine ⟨rfl, fun d hd => ?_⟩
      by_cases h5 : d = 5
      · subst h5; exact hu 0 (by decide)
      · by_cases h1 : d = 1
        · subst h1; exact hu 2 (by decide)
        · exact mrg_out (ixo_nm (by simp; omega))
    have l2 : ∀ (fu k : Nat) (τ : St) (T : Nat → Nat), k ≤ last + 1 → k + 1 < 1 + fu → TI T (rwX σ 0) k → (∀ j : Nat, j < 512 → τ 6 (j : Int) = T j) → τ 1 = σ 1 → τ 0 = σ 0 → (∀ r, r ≤ last → τ 4 (r : Int) = fst (rwX σ 0) r) → (∀ d, d ≠ 0 → d ≠ 4 → d ≠ 6 → τ d = σ d) → wp_X7_compare_47 post fu ((k : Int) - 1) τ := by
      intro fu
      induction fu with
      | zero => intro k τ T a b; omega
      | succ fu ih =>
        intro k τ T a b hI t6 t1 t0 t4 td
        unfold wp_X7_compare_47
        refine ⟨⟨by omega, by omega⟩, fun cc => ?_, fun cc => ?_⟩
        · have : k = 0 := by omega
          subst this
          intro τ1 e1
          refine hp τ1 (fun r hr => by rw [e1, up_ne _ (by decide)]; exact t4 r hr) (fun j hj => ?_) (by rw [e1]; simp [up]) (fun i hi => by rw [e1, up_cell]; simp only [hi, if_false]; rw [t0]) (fun d d0 d4 d6 => by rw [e1, up_ne _ d0]; exact td d d0 d4 d6)
          rw [e1, up_ne _ (by decide), t6 j hj]
          rcases hI.1 j hj with z | z <;> omega
        · obtain ⟨k', rfl⟩ : ∃ k', k = k' + 1 := ⟨k - 1, by omega⟩
          rw [show (((k' + 1 : Nat) : Int) - 1) = (k' : Int) by omega]
          refine s_leave (by omega) (hsub τ T k' (by omega) t1 t6) hI (fun T' υ i1 i2 i3 => ?_)
          intro τ1 e1
          obtain ⟨g6, gd⟩ := hm τ υ τ1 e1 i3
          rw [show ((k' : Int) + (-1)) = ((k' : Int) - 1) by omega]
          exact ih k' τ1 T' (by omega) (by omega) i1 (fun j hj => by rw [g6]; exact i2 j hj) (by rw [gd 1 (by decide)]; exact t1) (by rw [gd 0 (by decide)]; exact t0) (fun r hr => by rw [gd 4 (by decide)]; exact t4 r hr) (fun d d0 d4 d6 => by rw [gd d d6]; exact td d d0 d4 d6)
    have l1 : ∀ (fu k : Nat) (τ : St) (T : Nat → Nat), k ≤ last + 1 → last + 1 < k + fu → TI T (rwX σ 0) k → (∀ j : Nat, j < 512 → τ 6 (j : Int) = T j) → τ 1 = σ 1 → τ 0 = σ 0 → (∀ r, r < k → τ 4 (r : Int) = fst (rwX σ 0) r) → (∀ d, d ≠ 0 → d ≠ 4 → d ≠ 6 → τ d = σ d) → wp_X7_compare_10 post fu k τ := by
      intro fu
      induction fu with
      | zero => intro k τ T a b; omega
      | succ fu ih =>
        intro k τ T a b hI t6 t1 t0 t4 td
        unfold wp_X7_compare_10
        rw [show τ 0 1 = last by rw [t0]; exact h1]
        refine ⟨⟨by omega, by omega⟩, ⟨by omega, by omega⟩, fun cc => ?_, fun cc => ?_⟩
        · have : k = last + 1 := by omega
          subst this
          refine ⟨last + 3, ?_⟩
          have := l2 (last + 3) (last + 1) τ T (Nat.le_refl _) (by omega) hI t6 t1 t0 (fun r hr => t4 r (by omega)) td
          rwa [show (((last + 1 : Nat) : Int) - 1) = (last : Int) by omega] at this
        · refine s_enter (by omega) (hsub τ T k (by omega) t1 t6) hI (fun q T' υ q1 q2 q3 i1 i2 i3 => ?_)
          intro τ1 e1
          obtain ⟨g6, gd⟩ := hm τ υ τ1 e1 i3
          refine ⟨by omega, by omega, ?_⟩
          intro τ2 e2
          rw [show ((k : Int) + 1) = ((k + 1 : Nat) : Int) by omega]
          have u : ∀ d, d ≠ 4 → τ2 d = τ1 d := fun d hd => by rw [e2, up_ne _ hd]
          refine ih (k + 1) τ2 T' (by omega) (by omega) i1 (fun j hj => by rw [u 6 (by decide), g6]; exact i2 j hj) (by rw [u 1 (by decide), gd 1 (by decide)]; exact t1) (by rw [u 0 (by decide), gd 0 (by decide)]; exact t0) (fun r hr => ?_) (fun d d0 d4 d6 => by rw [u d d4, gd d d6]; exact td d d0 d4 d6)
          rw [e2, up_cell]
          by_cases z : (r : Int) = k
          · have : r = k := by omega
            subst this
            simp only [if_true]
            exact congrArg Int.ofNat (fst_unique q2 (fun z hz e => q3 z hz (e.trans q2.symm)))
          · simp only [z, if_false]
            rw [gd 4 (by decide)]; exact t4 r (by omega)
    exact l1 196 0 σ (fun _ => 0) (Nat.zero_le _) (by omega) (TI_0 _ _ (fun _ _ => rfl)) hz rfl rfl (fun r hr => absurd hr (Nat.not_lt_zero _)) (fun _ _ _ _ => rfl)
  · rcases hc with e | ⟨e, h4⟩
    · exact absurd e c
    · exact hp σ h4 hz e (fun _ _ => rfl) (fun _ _ _ _ => rfl)
/-- after compare: what the touch's cells hold -/
def cpd (σ σ' : St) (last : Nat) : Prop := (∀ r, r ≤ last → σ' 4 (r : Int) = fst (rwX σ 0) r) ∧ (∀ j : Nat, j < 512 → σ' 6 (j : Int) = 0) ∧ σ' 0 7 = 1 ∧ (∀ i : Int, i ≠ 7 → σ' 0 i = σ 0 i) ∧ (∀ d, d ≠ 0 → d ≠ 4 → d ≠ 6 → σ' d = σ d)
def tcOK (σ : St) (last : Nat) : Prop := last ≤ 192 ∧ σ 0 1 = last ∧ (∀ r, r ≤ last → rg (σ 1 (r : Int))) ∧ (∀ j : Nat, j < 512 → σ 6 (j : Int) = 0) ∧ cmOK σ 0 last
theorem s_firstAs {σ : St} {last r : Nat} (h : tcOK σ last) (hr : r ≤ last) {post : Int → St → Prop} (hp : ∀ σ' : St, cpd σ σ' last → post (fst (rwX σ 0) r : Nat) σ') : wp_X7_firstAs σ r post := by
  obtain ⟨a, b, c, d, e⟩ := h
  unfold wp_X7_firstAs
  refine s_compare a b c d e (fun σ' u1 u2 u3 u4 u5 => ⟨by omega, by omega, ?_⟩)
  rw [u1 r hr]; exact hp σ' ⟨u1, u2, u3, u4, u5⟩
theorem s_roundRow {σ : St} {last : Nat} (h : tcOK σ last) {post : Int → St → Prop} (hp : ∀ σ' : St, cpd σ σ' last → post (rdF (rwX σ 0) last) σ') : wp_X7_roundRow σ post := by
  obtain ⟨a, b, c, d, e⟩ := h
  unfold wp_X7_roundRow
  refine s_compare a b c d e (fun σ' u1 u2 u3 u4 u5 => ⟨last + 2, ?_⟩)
  have l : ∀ (fu r : Nat), 1 ≤ r → r ≤ last + 1 → last + 1 < r + fu → post (sch (fun r => fst (rwX σ 0) r == 0) (last + 1 - r) r) σ' → wp_X7_roundRow_6 post fu r σ' := by
    intro fu
    induction fu with
    | zero => intro r h0 h1 h2; omega
    | succ fu ih =>
      intro r h0 h1 h2 hq
      unfold wp_X7_roundRow_6
      rw [u4 1 (by decide), b]
      refine ⟨⟨by omega, by omega⟩, ⟨by omega, by omega⟩, fun cc => ?_, fun cc => ⟨by omega, by omega, ?_⟩⟩
      · rw [show last + 1 - r = 0 by omega] at hq; exact hq
      · rw [u1 r (by omega)]
        rw [show last + 1 - r = (last + 1 - (r + 1)) + 1 by omega] at hq
        unfold sch at hq
        have hf := (fst_spec (rwX σ 0) r).1
        refine ⟨⟨by omega, by omega⟩, fun c2 => ?_, fun c2 => ?_⟩
        · rw [if_neg (by simp; omega)] at hq
          rw [show ((r : Int) + 1) = ((r + 1 : Nat) : Int) by omega]
          exact ih (r + 1) (by omega) (by omega) (by omega) hq
        · rwa [if_pos (by simp; omega)] at hq
  refine l (last + 2) 1 (Nat.le_refl _) (by omega) (by omega) ?_
  rw [show last + 1 - 1 = last by omega]
  exact hp σ' ⟨u1, u2, u3, u4, u5⟩
theorem s_falseRow {σ : St} {last : Nat} (h : tcOK σ last) {post : Int → St → Prop} (hp : ∀ σ' : St, cpd σ σ' last → post (flF (rwX σ 0) last) σ') : wp_X7_falseRow σ post := by
  obtain ⟨a, b, c, d, e⟩ := h
  unfold wp_X7_falseRow
  refine s_compare a b c d e (fun σ' u1 u2 u3 u4 u5 => ⟨last + 2, ?_⟩)
  have l : ∀ (fu r : Nat), 1 ≤ r → r ≤ last + 1 → last + 1 < r + fu → post (sch (fun r => fst (rwX σ 0) r != r && !(r == last && fst (rwX σ 0) r == 0)) (last + 1 - r) r) σ' → wp_X7_falseRow_6 post fu r σ' := by
    intro fu
    induction fu with
    | zero => intro r h0 h1 h2; omega
    | succ fu ih =>
      intro r h0 h1 h2 hq
      unfold wp_X7_falseRow_6
      rw [u4 1 (by decide), b]
      refine ⟨⟨by omega, by omega⟩, ⟨by omega, by omega⟩, fun cc => ?_, fun cc => ⟨⟨by omega, by omega⟩, ⟨by omega, by omega⟩, ?_, ?_⟩⟩
      · rw [show last + 1 - r = 0 by omega] at hq; exact hq
      all_goals
        have hf := (fst_spec (rwX σ 0) r).1
        rw [show last + 1 - r = (last + 1 - (r + 1)) + 1 by omega] at hq
        unfold sch at hq
        intro c2
      · unfold wp_X7_falseRow_35 wp_X7_falseRow_36 wp_X7_falseRow_53
        rw [u1 r (by omega)]
        refine ⟨by omega, by omega, ⟨by omega, by omega⟩, ⟨by omega, by omega⟩, fun c3 => ?_, fun c3 => ⟨by decide, fun c4 => absurd rfl c4, fun _ => ?_⟩⟩
        · rw [if_neg (by simp; omega)] at hq
          rw [show ((r : Int) + 1) = ((r + 1 : Nat) : Int) by omega]
          exact ih (r + 1) (by omega) (by omega) (by omega) hq
        · rwa [if_pos (by simp; omega)] at hq
      · refine ⟨by omega, by omega, ?_⟩
        rw [u1 r (by omega)]
        refine ⟨⟨by omega, by omega⟩, fun c3 => ?_, fun c3 => ?_⟩
        · unfold wp_X7_falseRow_35 wp_X7_falseRow_36 wp_X7_falseRow_53
          rw [u1 r (by omega)]
          refine ⟨by omega, by omega, ⟨by omega, by omega⟩, ⟨by omega, by omega⟩, fun c4 => ?_, fun c4 => ⟨by decide, fun c5 => absurd rfl c5, fun _ => ?_⟩⟩
          · rw [if_neg (by simp; omega)] at hq
            rw [show ((r : Int) + 1) = ((r + 1 : Nat) : Int) by omega]
            exact ih (r + 1) (by omega) (by omega) (by omega) hq
          · rwa [if_pos (by simp; omega)] at hq
        · unfold wp_X7_falseRow_36 wp_X7_falseRow_53
          rw [u1 r (by omega)]
          rw [if_neg (by simp; omega)] at hq
          have hn : wp_X7_falseRow_6 post fu ((r : Int) + 1) σ' := by
            rw [show ((r : Int) + 1) = ((r + 1 : Nat) : Int) by omega]
            exact ih (r + 1) (by omega) (by omega) (by omega) hq
          exact ⟨by omega, by omega, ⟨by omega, by omega⟩, ⟨by omega, by omega⟩, fun _ => hn, fun _ => ⟨by decide, fun _ => hn, fun c5 => by omega⟩⟩
  refine l (last + 2) 1 (Nat.le_refl _) (by omega) (by omega) ?_
  rw [show last + 1 - 1 = last by omega]
  exact hp σ' ⟨u1, u2, u3, u4, u5⟩
theorem sch_rg {p : Nat → Bool} : ∀ (k r : Nat), r + k ≤ 1000 → rg (sch p k r)
  | 0, _, _ => by show rg (-5); decide
  | k + 1, r, h => by
    unfold sch
    split
    · exact ⟨by omega, by omega⟩
    · exact sch_rg k (r + 1) (by omega)
/-- before or after compare -/
def cpd0 (σ σ' : St) (last : Nat) : Prop := σ' = σ ∨ cpd σ σ' last
theorem s_isTrue {σ : St} {last : Nat} (h : tcOK σ last) {post : Int → St → Prop} (hp : ∀ σ' : St, cpd0 σ σ' last → post (if trF (rwX σ 0) last then 1 else 0) σ') : wp_X7_isTrue σ post := by
  obtain ⟨a, b, c, d, e⟩ := id h
  unfold wp_X7_isTrue
  rw [b]
  refine ⟨⟨by omega, by omega⟩, fun c1 => ?_, fun c1 => ⟨by omega, by omega, c last (Nat.le_refl _), c 0 (Nat.zero_le _), fun c2 => ?_, fun c2 => ?_⟩⟩
  · have := hp σ (Or.inl rfl)
    rwa [if_neg (by simp [trF]; omega)] at this
  · have := hp σ (Or.inl rfl)
    rwa [if_neg (by simp only [trF, Bool.and_eq_true, decide_eq_true_eq, not_and]; intro _ z; exact absurd z c2)] at this
  · refine s_falseRow h (fun σ' hs => ⟨sch_rg _ _ (by omega), fun c3 => ?_, fun c3 => ?_⟩)
    · have := hp σ' (Or.inr hs)
      rwa [if_neg (by simp only [trF, Bool.and_eq_true, decide_eq_true_eq, not_and]; intro _ _; exact c3)] at this
    · have := hp σ' (Or.inr hs)
      rwa [if_pos (by simp only [trF, Bool.and_eq_true, decide_eq_true_eq]; exact ⟨by omega, c2, c3⟩)] at this
