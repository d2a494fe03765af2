theorem fb_holes : ∀ (m n : Nat) (f : Nat → Nat), (∀ i, i < n → f i < m) → (∀ i j, i < j → j < n → f i ≠ f j) → n ≤ m := by
  intro m
  induction m with
  | zero =>
    intro n f h1 _
    rcases Nat.eq_zero_or_pos n with h | h
    · omega
    · exact absurd (h1 0 h) (Nat.not_lt_zero _)
  | succ m ih =>
    intro n f h1 h2
    by_cases hx : ∃ i, i < n ∧ f i = m
    · obtain ⟨a, ha, hfa⟩ := hx
      have hg := ih (n - 1) (fun i => if i < a then f i else f (i + 1)) (by
        intro i hi
        by_cases q : i < a
        · simp only [if_pos q]
          have b1 := h1 i (by omega)
          have b2 := h2 i a q ha
          omega
        · simp only [if_neg q]
          have b1 := h1 (i + 1) (by omega)
          have b2 := h2 a (i + 1) (by omega) (by omega)
          omega) (by
        intro i j hij hj
        by_cases q : i < a
        · by_cases r : j < a
          · simp only [if_pos q, if_pos r]
            exact h2 i j hij (by omega)
          · simp only [if_pos q, if_neg r]
            exact h2 i (j + 1) (by omega) (by omega)
        · have r : ¬ j < a := by omega
          simp only [if_neg q, if_neg r]
          exact h2 (i + 1) (j + 1) (by omega) (by omega))
      omega
    · have hg := ih n f (fun i hi => by
        have b1 := h1 i hi
        have b2 : f i ≠ m := fun e => hx ⟨i, hi, e⟩
        omega) h2
      omega
/-! the table of rows -/
def stt (x : Int) : Nat := U (x * (-1640531535)) / 2 ^ 23
def slt (x : Int) (i : Nat) : Nat := (stt x + i) % 512
theorem stt_lt (x : Int) : stt x < 512 := by
  unfold stt
  have := U_lt (x * (-1640531535))
  omega
theorem slt_lt (x : Int) (i : Nat) : slt x i < 512 := Nat.mod_lt _ (by decide)
theorem slt_inj {x : Int} {i j : Nat} (hi : i < 512) (hj : j < 512) (h : slt x i = slt x j) : i = j := by
  unfold slt at h
  have := stt_lt x
  omega
theorem slt_sur (x : Int) {j : Nat} (hj : j < 512) : ∃ i, i < 512 ∧ slt x i = j := by
  have := stt_lt x
  refine ⟨(j + 512 - stt x) % 512, Nat.mod_lt _ (by decide), ?_⟩
  unfold slt; omega
theorem s_start {x : Int} {post : Int → Prop} (hp : post (stt x : Nat)) : wp_X3_start x post := by
  unfold wp_X3_start
  have e : bur (x * (-1640531535)) 23 = ((stt x : Nat) : Int) := by
    have h := U_bur (x * (-1640531535)) (k := 23) (by decide)
    have h2 := stt_lt x
    have e3 : ((23 : Nat) : Int) = 23 := rfl
    rw [e3] at h
    rw [U_pos (rg_bur _ _) (by rw [h]; unfold stt at h2; omega), h]; rfl
  rw [e]; exact hp
theorem and511 (n : Nat) (h : n < 2147483648) : bnd (n : Int) 511 = ((n % 512 : Nat) : Int) := by
  refine U_inj (rg_bnd _ _) ⟨by omega, by omega⟩ ?_
  rw [U_bnd, U_cast _ (by omega), U_cast _ (by omega), show U 511 = 2 ^ 9 - 1 from by decide +kernel, Nat.and_two_pow_sub_one_eq_mod]
/-- the table T holds the first of each kind of rows 0 .. k - 1 of X, reached by their ways -/
def TI (T : Nat → Nat) (X : Nat → Int) (k : Nat) : Prop :=
  (∀ j : Nat, j < 512 → T j = 0 ∨ (T j ≤ k ∧ ∀ q, q + 1 < T j → X q ≠ X (T j - 1))) ∧
  (∀ q, q < k → (∀ q', q' < q → X q' ≠ X q) → ∃ i, i < 512 ∧ T (slt (X q) i) = q + 1 ∧ ∀ i', i' < i → 0 < T (slt (X q) i') ∧ T (slt (X q) i') < q + 1) ∧
  (∀ j j', j < 512 → j' < 512 → T j = T j' → T j ≠ 0 → j = j')
theorem TI_0 (T : Nat → Nat) (X : Nat → Int) (h : ∀ j : Nat, j < 512 → T j = 0) : TI T X 0 :=
  ⟨fun j hj => Or.inl (h j hj), fun q hq => absurd hq (Nat.not_lt_zero _), fun j j' hj _ _ h0 => absurd (h j hj) h0⟩
theorem TI_free {T : Nat → Nat} {X : Nat → Int} {k : Nat} (h : TI T X k) (hk : k < 512) : ∃ j, j < 512 ∧ T j = 0 := by
  apply Classical.byContradiction
  intro hc
  have hn : ∀ j : Nat, j < 512 → T j ≠ 0 := fun j hj e => hc ⟨j, hj, e⟩
  have := fb_holes k 512 (fun j => T j - 1) (fun i hi => by
    rcases h.1 i hi with a | a
    · exact absurd a (hn i hi)
    · have := hn i hi; show T i - 1 < k; omega) (fun i j hij hj e => by
    have a := hn i (by omega); have b := hn j hj
    have e' : T i - 1 = T j - 1 := e
    have := h.2.2 i j (by omega) hj (by omega) a
    omega)
  omega
theorem TI_put {T : Nat → Nat} {X : Nat → Int} {k i : Nat} (h : TI T X k) (hi : i < 512) (h0 : T (slt (X k) i) = 0) (hb : ∀ i', i' < i → T (slt (X k) i') ≠ 0) (hf : ∀ q, q < k → X q ≠ X k) {T' : Nat → Nat} (hT : ∀ j : Nat, j < 512 → T' j = if j = slt (X k) i then k + 1 else T j) : TI T' X (k + 1) := by
  refine ⟨fun j hj => ?_, fun q hq hfq => ?_, fun j j' hj hj' e e0 => ?_⟩
  · rw [hT j hj]
    by_cases c : j = slt (X k) i
    · rw [if_pos c]; exact Or.inr ⟨Nat.le_refl _, fun q hq => hf q (by omega)⟩
    · rw [if_neg c]
      rcases h.1 j hj with a | a
      · exact Or.inl a
      · exact Or.inr ⟨by omega, a.2⟩
  · rcases Nat.lt_or_ge q k with z | z
    · obtain ⟨w, h1, h2, h3⟩ := h.2.1 q z hfq
      have hne : ∀ i', i' ≤ w → slt (X q) i' ≠ slt (X k) i := fun i' hw' e => by
        rcases Nat.lt_or_ge i' w with y | y
        · have := (h3 i' y).1; rw [e, h0] at this; omega
        · rw [show i' = w by omega] at e; rw [e, h0] at h2; omega
      refine ⟨w, h1, by rw [hT _ (slt_lt _ _), if_neg (hne w (Nat.le_refl _))]; exact h2, fun i' hi' => ?_⟩
      rw [hT _ (slt_lt _ _), if_neg (hne i' (by omega))]; exact h3 i' hi'
    · have e : q = k := by omega
      subst e
      refine ⟨i, hi, by rw [hT _ (slt_lt _ _), if_pos rfl], fun i' hi' => ?_⟩
      have hne : slt (X q) i' ≠ slt (X q) i := fun e => by have := slt_inj (by omega) hi e; omega
      rw [hT _ (slt_lt _ _), if_neg hne]
      rcases h.1 _ (slt_lt (X q) i') with a | a
      · exact absurd a (hb i' hi')
      · exact ⟨Nat.pos_of_ne_zero (hb i' hi'), by omega⟩
  · rw [hT j hj] at e e0
    rw [hT j' hj'] at e
    by_cases c : j = slt (X k) i <;> by_cases c' : j' = slt (X k) i
    · rw [c, c']
    · rw [if_pos c, if_neg c'] at e
      rcases h.1 j' hj' with a | a
      · omega
      · omega
    · rw [if_neg c, if_pos c'] at e
      rcases h.1 j hj with a | a
      · omega
      · omega
    · rw [if_neg c, if_neg c'] at e
      rw [if_neg c] at e0
      exact h.2.2 j j' hj hj' e e0
theorem TI_dup {T : Nat → Nat} {X : Nat → Int} {k q : Nat} (h : TI T X k) (hq : q < k) (e : X q = X k) {T' : Nat → Nat} (hT : ∀ j : Nat, j < 512 → T' j = T j) : TI T' X (k + 1) := by
  refine ⟨fun j hj => ?_, fun q2 hq2 hf => ?_, fun j j' hj hj' e e0 => ?_⟩
  · rw [hT j hj]
    rcases h.1 j hj with a | a
    · exact Or.inl a
    · exact Or.inr ⟨by omega, a.2⟩
  · rcases Nat.lt_or_ge q2 k with z | z
    · obtain ⟨w, h1, h2, h3⟩ := h.2.1 q2 z hf
      exact ⟨w, h1, by rw [hT _ (slt_lt _ _)]; exact h2, fun i' hi' => by rw [hT _ (slt_lt _ _)]; exact h3 i' hi'⟩
    · have e2 : q2 = k := by omega
      subst e2
      exact absurd e (hf q hq)
  · rw [hT j hj] at e e0
    rw [hT j' hj'] at e
    exact h.2.2 j j' hj hj' e e0
/-- the last one leaves: it was first of its kind, and lay at i -/
theorem TI_cut {T : Nat → Nat} {X : Nat → Int} {k i : Nat} (h : TI T X (k + 1)) (hi : i < 512) (h0 : T (slt (X k) i) = k + 1) {T' : Nat → Nat} (hT : ∀ j : Nat, j < 512 → T' j = if j = slt (X k) i then 0 else T j) : TI T' X k := by
  refine ⟨fun j hj => ?_, fun q hq hf => ?_, fun j j' hj hj' e e0 => ?_⟩
  · rw [hT j hj]
    by_cases c : j = slt (X k) i
    · rw [if_pos c]; exact Or.inl rfl
    · rw [if_neg c]
      rcases h.1 j hj with a | a
      · exact Or.inl a
      · have : T j ≠ k + 1 := fun z => c (h.2.2 j _ hj (slt_lt _ _) (by rw [z, h0]) (by omega))
        exact Or.inr ⟨by omega, a.2⟩
  · obtain ⟨w, h1, h2, h3⟩ := h.2.1 q (by omega) hf
    have hne : ∀ i', i' ≤ w → slt (X q) i' ≠ slt (X k) i := fun i' hw' e => by
      rcases Nat.lt_or_ge i' w with y | y
      · have := (h3 i' y).2; rw [e, h0] at this; omega
      · rw [show i' = w by omega] at e; rw [e, h0] at h2; omega
    refine ⟨w, h1, by rw [hT _ (slt_lt _ _), if_neg (hne w (Nat.le_refl _))]; exact h2, fun i' hi' => ?_⟩
    rw [hT _ (slt_lt _ _), if_neg (hne i' (by omega))]; exact h3 i' hi'
  · rw [hT j hj] at e e0
    rw [hT j' hj'] at e
    by_cases c : j = slt (X k) i
    · rw [if_pos c] at e0; exact absurd rfl e0
    · by_cases c' : j' = slt (X k) i
      · rw [if_neg c] at e0 e; rw [if_pos c'] at e; exact absurd e e0
      · rw [if_neg c] at e0 e; rw [if_neg c'] at e
        exact h.2.2 j j' hj hj' e e0
theorem TI_old {T : Nat → Nat} {X : Nat → Int} {k : Nat} (h : TI T X (k + 1)) (hn : ∀ j : Nat, j < 512 → T j ≠ k + 1) {T' : Nat → Nat} (hT : ∀ j : Nat, j < 512 → T' j = T j) : TI T' X k := by
  refine ⟨fun j hj => ?_, fun q hq hf => ?_, fun j j' hj hj' e e0 => ?_⟩
  · rw [hT j hj]
    rcases h.1 j hj with a | a
    · exact Or.inl a
    · have := hn j hj; exact Or.inr ⟨by omega, a.2⟩
  · obtain ⟨w, h1, h2, h3⟩ := h.2.1 q (by omega) hf
    exact ⟨w, h1, by rw [hT _ (slt_lt _ _)]; exact h2, fun i' hi' => by rw [hT _ (slt_lt _ _)]; exact h3 i' hi'⟩
  · rw [hT j hj] at e e0
    rw [hT j' hj'] at e
    exact h.2.2 j j' hj hj' e e0
/-- what the table's cells and the rows hold -/
def tbOK (σ : St) (X : Nat → Int) (T : Nat → Nat) (k : Nat) : Prop := (∀ r, r ≤ k → r < 193 → σ 2 (r : Int) = X r ∧ rg (X r)) ∧ (∀ j : Nat, j < 512 → σ 1 (j : Int) = T j)
theorem s_enter {σ : St} {X : Nat → Int} {T : Nat → Nat} {k : Nat} (hk : k < 193) (ho : tbOK σ X T k) (hI : TI T X k) {post : Int → St → Prop}
    (hp : ∀ (q : Nat) (T' : Nat → Nat) (σ' : St), q ≤ k → X q = X k → (∀ q', q' < q → X q' ≠ X q) → TI T' X (k + 1) → (∀ j : Nat, j < 512 → σ' 1 (j : Int) = T' j) → (∀ c, c ≠ 1 → σ' c = σ c) → post (q : Int) σ') : wp_X3_enter σ (k : Int) post := by
  refine ⟨by omega, by omega, ?_⟩
  obtain ⟨hX, hT⟩ := ho
  rw [(hX k (Nat.le_refl _) hk).1]
  refine s_start ⟨514, ?_⟩
  obtain ⟨j0, hj0, hz0⟩ := TI_free hI (by omega)
  obtain ⟨i0, hi0, hs0⟩ := slt_sur (X k) hj0
  have hst := stt_lt (X k)
  have hs : ∀ (fu i : Nat), i ≤ i0 → i0 < i + fu → (∀ i', i' < i → T (slt (X k) i') ≠ 0 ∧ X (T (slt (X k) i') - 1) ≠ X k) → wp_X3_enter_10 post fu k (stt (X k)) i σ := by
    intro fu
    induction fu with
    | zero => intro i h1 h2; omega
    | succ fu ih =>
      intro i h1 h2 hb
      unfold wp_X3_enter_10
      have e1 : bnd (((stt (X k) : Nat) : Int) + (i : Int)) 511 = ((slt (X k) i : Nat) : Int) := by
        rw [show ((stt (X k) : Nat) : Int) + (i : Int) = ((stt (X k) + i : Nat) : Int) by omega, and511 _ (by omega)]; rfl
      rw [e1]
      have hsl := slt_lt (X k) i
      rw [hT _ hsl]
      refine ⟨⟨by omega, by omega⟩, fun c => by omega, fun _ => ⟨by omega, by omega, ?_⟩⟩
      by_cases a : T (slt (X k) i) = 0
      · refine ⟨⟨by omega, by omega⟩, fun c => by omega, fun _ => ⟨by omega, by omega, ?_⟩⟩
        intro σ1 e
        subst e
        have hf : ∀ q, q < k → X q ≠ X k := by
          intro q hq he
          -- the least such q
          obtain ⟨q1, hq1, hm⟩ := pk_least (fun z => z < k ∧ X z = X k) ⟨q, hq, he⟩
          obtain ⟨w, w1, w2, w3⟩ := hI.2.1 q1 hq1.1 (fun q' hq' e => hm q' hq' ⟨by omega, by rw [e]; exact hq1.2⟩)
          rw [hq1.2] at w2 w3
          rcases Nat.lt_trichotomy w i with z | z | z
          · have := (hb w z).2; rw [w2] at this; exact this (by simpa using hq1.2)
          · rw [z, a] at w2; omega
          · have := (w3 i z).1; omega
        refine hp k (fun j => if j = slt (X k) i then k + 1 else T j) _ (Nat.le_refl _) rfl hf (TI_put hI (by omega) a (fun i' hi' => (hb i' hi').1) hf (fun j _ => rfl)) (fun j hj => ?_) (fun c hc => up_ne c hc)
        simp only [up]
        by_cases c : j = slt (X k) i
        · rw [if_pos ⟨trivial, by omega⟩, if_pos c]; omega
        · rw [if_neg (by omega), if_neg c]; exact hT j hj
      · have a0 := a
        have a := (hI.1 _ hsl).resolve_left a0
        have e2 : ((T (slt (X k) i) : Nat) : Int) - 1 = ((T (slt (X k) i) - 1 : Nat) : Int) := by omega
        rw [e2]
        have hr := hX (T (slt (X k) i) - 1) (by omega) (by omega)
        rw [hr.1, (hX k (Nat.le_refl _) hk).1]
        refine ⟨⟨by omega, by omega⟩, fun _ => ⟨by omega, by omega, by omega, by omega, hr.2, (hX k (Nat.le_refl _) hk).2, fun c => ?_, fun c => ?_⟩, fun c => by omega⟩
        · have hne : i ≠ i0 := fun e => by rw [e, hs0] at a0; exact a0 hz0
          rw [show ((i : Int) + 1) = ((i + 1 : Nat) : Int) by omega]
          refine ih (i + 1) (by omega) (by omega) (fun i' hi' => ?_)
          rcases Nat.lt_or_ge i' i with z | z
          · exact hb i' z
          · rw [show i' = i by omega]; exact ⟨a0, c⟩
        · exact hp (T (slt (X k) i) - 1) T σ (by omega) c (fun q' hq' => a.2 q' (by omega)) (TI_dup hI (by omega) c (fun j _ => rfl)) hT (fun c _ => rfl)
  exact hs 514 0 (Nat.zero_le _) (by omega) (fun i' hi' => absurd hi' (Nat.not_lt_zero _))
theorem s_leave {σ : St} {X : Nat → Int} {T : Nat → Nat} {k : Nat} (hk : k < 193) (ho : tbOK σ X T k) (hI : TI T X (k + 1)) {post : St → Prop}
    (hp : ∀ (T' : Nat → Nat) (σ' : St), TI T' X k → (∀ j : Nat, j < 512 → σ' 1 (j : Int) = T' j) → (∀ c, c ≠ 1 → σ' c = σ c) → post σ') : wp_X3_leave σ (k : Int) post := by
  refine ⟨by omega, by omega, ?_⟩
  obtain ⟨hX, hT⟩ := ho
  rw [(hX k (Nat.le_refl _) hk).1]
  refine s_start ⟨514, ?_⟩
  have hst := stt_lt (X k)
  have hs : ∀ (fu i : Nat), i ≤ 512 → 512 < i + fu → (∀ i', i' < i → T (slt (X k) i') ≠ 0 ∧ T (slt (X k) i') ≠ k + 1) → wp_X3_leave_10 post fu k (stt (X k)) i σ := by
    intro fu
    induction fu with
    | zero => intro i h1 h2; omega
    | succ fu ih =>
      intro i h1 h2 hb
      unfold wp_X3_leave_10
      have e1 : bnd (((stt (X k) : Nat) : Int) + (i : Int)) 511 = ((slt (X k) i : Nat) : Int) := by
        rw [show ((stt (X k) : Nat) : Int) + (i : Int) = ((stt (X k) + i : Nat) : Int) by omega, and511 _ (by omega)]; rfl
      rw [e1]
      have hsl := slt_lt (X k) i
      rw [hT _ hsl]
      -- gone round: nothing of k + 1 lies there
      have hnone : ∀ n : Nat, n ≤ 512 → (∀ i', i' < n → T (slt (X k) i') ≠ k + 1) → (n = 512 ∨ (n < 512 ∧ T (slt (X k) n) = 0)) → ∀ j : Nat, j < 512 → T j ≠ k + 1 := by
        intro n hn hb2 hend j hj e
        obtain ⟨w, w1, w2⟩ := slt_sur (X k) hj
        -- k is the first of its kind
        have hf : ∀ q', q' < k → X q' ≠ X k := by
          rcases hI.1 j hj with a | a
          · omega
          · intro q' hq'; have := a.2 q' (by omega); rwa [e] at this
        obtain ⟨v, v1, v2, v3⟩ := hI.2.1 k (by omega) hf
        rcases hend with he | ⟨he, hz⟩
        · exact hb2 w (by omega) (by rw [w2]; exact e)
        · rcases Nat.lt_trichotomy v n with z | z | z
          · exact hb2 v z v2
          · rw [z, hz] at v2; omega
          · have := (v3 n z).1; omega
      refine ⟨⟨by omega, by omega⟩, fun c => ?_, fun c => ⟨by omega, by omega, ⟨?_, ?_⟩, ⟨by omega, by omega⟩, fun c2 => ⟨by omega, by omega, ⟨?_, ?_⟩, fun c3 => ?_, fun c3 => ?_⟩, fun c2 => ⟨by omega, by omega, ?_⟩⟩⟩
      · exact hp T σ (TI_old hI (hnone 512 (Nat.le_refl _) (fun i' hi' => (hb i' (by omega)).2) (Or.inl rfl)) (fun j _ => rfl)) hT (fun c _ => rfl)
      · omega
      · rcases hI.1 _ hsl with a | a <;> omega
      · omega
      · rcases hI.1 _ hsl with a | a <;> omega
      · rw [show ((i : Int) + 1) = ((i + 1 : Nat) : Int) by omega]
        refine ih (i + 1) (by omega) (by omega) (fun i' hi' => ?_)
        rcases Nat.lt_or_ge i' i with z | z
        · exact hb i' z
        · rw [show i' = i by omega]; exact ⟨by omega, by omega⟩
      · exact hp T σ (TI_old hI (hnone i (by omega) (fun i' hi' => (hb i' hi').2) (Or.inr ⟨by omega, by omega⟩)) (fun j _ => rfl)) hT (fun c _ => rfl)
      · intro σ1 e
        subst e
        refine hp (fun j => if j = slt (X k) i then 0 else T j) _ (TI_cut hI (by omega) (by omega) (fun j _ => rfl)) (fun j hj => ?_) (fun c hc => up_ne c hc)
        simp only [up]
        by_cases c : j = slt (X k) i
        · rw [if_pos ⟨trivial, by omega⟩, if_pos c]; rfl
        · rw [if_neg (by omega), if_neg c]; exact hT j hj
  exact hs 514 0 (Nat.zero_le _) (by omega) (fun i' hi' => absurd hi' (Nat.not_lt_zero _))
