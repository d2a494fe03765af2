/-! what a set-up is -/
abbrev Cf : Type := Nat × Nat × (Nat → Nat) × Int × Int × (Nat → Nat) × Nat
abbrev cN (c : Cf) : Nat := c.1
abbrev cM (c : Cf) : Nat := c.2.1
abbrev cH (c : Cf) : Nat → Nat := c.2.2.1
abbrev cB (c : Cf) : Int := c.2.2.2.1
abbrev cS (c : Cf) : Int := c.2.2.2.2.1
abbrev cC (c : Cf) : Nat → Nat := c.2.2.2.2.2.1
abbrev cL (c : Cf) : Nat := c.2.2.2.2.2.2
abbrev Hv : Type := Nat × (Nat → Nat) × (Nat → Nat) × (Nat → Nat)
abbrev Su : Type := Cf × (Nat → Nat) × Hv × Hv × Hv
abbrev sP (s : Su) : Nat → Nat := s.2.1
abbrev sSe (s : Su) : Hv := s.2.2.1
abbrev sEv (s : Su) : Hv := s.2.2.2.1
abbrev sBk (s : Su) : Hv := s.2.2.2.2
def chOK (n : Nat) (x : Int) : Prop := x = -1 ∨ ∃ b : Nat, x = (b : Int) ∧ b < 256 ∧ GD n b = true
def wfC (c : Cf) : Prop := 4 ≤ cN c ∧ cN c ≤ 8 ∧ cM c ≤ 16 ∧ (∀ i, i < cM c → cH c i < 256 ∧ GD (cN c) (cH c i) = true) ∧ chOK (cN c) (cB c) ∧ chOK (cN c) (cS c) ∧ (∀ i : Nat, i < 12 → cC c i ≤ 2) ∧ 1 ≤ cL c ∧ cL c ≤ 12
def wfS (s : Su) : Prop := wfC s.1 ∧ (∀ i : Nat, i < 8 → sP s i ≤ 8) ∧
  ((sSe s).1 ≤ 5 ∧ ∀ i, i < (sSe s).1 → (sSe s).2.1 i ≤ 192 ∧ (1 ≤ (sSe s).2.2.1 i ∧ (sSe s).2.2.1 i ≤ cN s.1) ∧ (1 ≤ (sSe s).2.2.2 i ∧ (sSe s).2.2.2 i ≤ cN s.1)) ∧
  ((sEv s).1 ≤ 8 ∧ ∀ i, i < (sEv s).1 → (sEv s).2.1 i ≤ 3 ∧ ((sEv s).2.1 i ≤ 1 → (sEv s).2.2.1 i < 12) ∧ ((sEv s).2.1 i = 2 → (sEv s).2.2.1 i ≤ 16) ∧ ((sEv s).2.1 i = 3 → 1 ≤ (sEv s).2.2.1 i ∧ (sEv s).2.2.1 i ≤ 12)) ∧
  ((sBk s).1 ≤ 8 ∧ ∀ i, i < (sBk s).1 → (sBk s).2.1 i ≤ 192 ∧ (1 ≤ (sBk s).2.2.1 i ∧ (sBk s).2.2.1 i ≤ cN s.1))
def hrOK (σ : St) (o : Nat) (v : Hv) : Prop := σ o 3 = v.1 ∧ ∀ i, i < v.1 → σ (o + 1) (i : Int) = v.2.1 i ∧ σ (o + 2) (i : Int) = v.2.2.1 i ∧ σ (o + 3) (i : Int) = v.2.2.2 i
def cfOK (σ : St) (o : Nat) (c : Cf) : Prop := σ o 0 = cN c ∧ σ o 2 = cM c ∧ σ o 3 = cB c ∧ σ o 4 = cS c ∧ σ o 6 = cL c ∧ (∀ i, i < cM c → σ (o + 1) (i : Int) = cH c i) ∧ (∀ i : Nat, i < 12 → σ (o + 2) (i : Int) = cC c i)
def suOK (σ : St) (o : Nat) (s : Su) : Prop := cfOK σ o s.1 ∧ (∀ i : Nat, i < 8 → σ (o + 3) (i : Int) = sP s i) ∧ hrOK σ (o + 4) (sSe s) ∧ hrOK σ (o + 8) (sEv s) ∧ hrOK σ (o + 12) (sBk s)
theorem hrOK_cong {σ σ' : St} {o o' : Nat} {v : Hv} (h : hrOK σ o v) (e : ∀ k : Nat, k < 4 → σ' (o' + k) = σ (o + k)) : hrOK σ' o' v := by
  have e0 := e 0 (by decide); have e1 := e 1 (by decide); have e2 := e 2 (by decide); have e3 := e 3 (by decide)
  simp only [Nat.add_zero] at e0
  unfold hrOK at *
  rw [e0, e1, e2, e3]; exact h
theorem cfOK_cong {σ σ' : St} {o o' : Nat} {c : Cf} (h : cfOK σ o c) (e : ∀ k : Nat, k < 16 → σ' (o' + k) = σ (o + k)) : cfOK σ' o' c := by
  have e0 := e 0 (by decide); have e1 := e 1 (by decide); have e2 := e 2 (by decide)
  simp only [Nat.add_zero] at e0
  unfold cfOK at *
  rw [e0, e1, e2]; exact h
theorem suOK_cong {σ σ' : St} {o o' : Nat} {s : Su} (h : suOK σ o s) (e : ∀ k : Nat, k < 16 → σ' (o' + k) = σ (o + k)) : suOK σ' o' s := by
  refine ⟨cfOK_cong h.1 e, ?_, hrOK_cong h.2.2.1 (fun k hk => ?_), hrOK_cong h.2.2.2.1 (fun k hk => ?_), hrOK_cong h.2.2.2.2 (fun k hk => ?_)⟩
  · have e3 := e 3 (by decide)
    rw [e3]; exact h.2.1
  · rw [Nat.add_assoc, Nat.add_assoc]; exact e _ (by omega)
  · rw [Nat.add_assoc, Nat.add_assoc]; exact e _ (by omega)
  · rw [Nat.add_assoc, Nat.add_assoc]; exact e _ (by omega)
theorem mrg_in {σ τ : St} {js : List Nat} {i k : Nat} (hn : va_nd js = true) (h : js[i]? = some k) : mrg σ js τ k = τ i := by
  unfold mrg; rw [ixo_at k i hn h]
theorem ixo_nm : ∀ {js : List Nat} {k : Nat}, k ∉ js → ixo js k = none
  | [], _, _ => rfl
  | a :: r, k, h => by
    have h1 : ¬ a = k := fun e => h (by rw [e]; exact List.mem_cons_self)
    have h2 : k ∉ r := fun e => h (List.mem_cons_of_mem _ e)
    simp only [ixo]; rw [if_neg h1, ixo_nm h2]; rfl
theorem mrg_out {σ τ : St} {js : List Nat} {k : Nat} (h : ixo js k = none) : mrg σ js τ k = σ k := by
  unfold mrg; rw [h]
theorem up_at (σ : St) (k : Nat) (j x : Int) (k' : Nat) (j' : Int) : up σ k j x k' j' = if k' = k ∧ j' = j then x else σ k' j' := rfl
/-! rows told by hand -/
theorem s_append {N sz : Nat} {σ : St} {v1 v2 v3 : Int} (hN : N < 1000) (hs : σ 0 3 = sz) (hsz : sz ≤ N) {post : Int → St → Prop} (h1 : sz = N → post 0 σ) (h2 : sz < N → ∀ σ' : St, σ' 0 3 = ((sz + 1 : Nat) : Int) → (∀ j : Int, j ≠ 3 → σ' 0 j = σ 0 j) → σ' 1 = (fun j : Int => if j = (sz : Int) then v1 else σ 1 j) → σ' 2 = (fun j : Int => if j = (sz : Int) then v2 else σ 2 j) → σ' 3 = (fun j : Int => if j = (sz : Int) then v3 else σ 3 j) → (∀ c : Nat, 4 ≤ c → σ' c = σ c) → post 1 σ') : wp_X1_append N σ v1 v2 v3 post := by
  unfold wp_X1_append
  rw [hs]
  refine ⟨⟨by omega, by omega⟩, fun c => by omega, fun _ => ⟨⟨by omega, by omega⟩, ⟨by omega, by omega⟩, fun c => ⟨by omega, c, ?_⟩, fun c => h1 (by omega)⟩⟩
  intro σ1 e1
  have q1 : σ1 0 3 = sz := by rw [e1]; simp [up, hs]
  rw [q1]
  refine ⟨by omega, c, ?_⟩
  intro σ2 e2
  have q2 : σ2 0 3 = sz := by rw [e2]; simp [up, q1]
  rw [q2]
  refine ⟨by omega, c, ?_⟩
  intro σ3 e3
  have q3 : σ3 0 3 = sz := by rw [e3]; simp [up, q2]
  rw [q3]
  intro σ4 e4
  refine h2 (by omega) σ4 ?_ (fun j hj => ?_) ?_ ?_ ?_ (fun c hc => ?_)
  · rw [e4]; simp [up]
  · rw [e4, e3, e2, e1]; simp [up, hj]
  · rw [e4, e3, e2, e1]; funext j; simp [up]
  · rw [e4, e3, e2, e1]; funext j; simp [up]
  · rw [e4, e3, e2, e1]; funext j; simp [up]
  · rw [e4, e3, e2, e1, up_ne _ (by omega), up_ne _ (by omega), up_ne _ (by omega), up_ne _ (by omega)]
theorem s_hcopy {N : Nat} {σ : St} {v : Hv} (hN : N < 1000) (hv : hrOK σ 4 v) (hs : v.1 ≤ N) {post : St → Prop} (hp : ∀ σ' : St, hrOK σ' 0 v → (∀ c : Nat, 4 ≤ c → σ' c = σ c) → post σ') : wp_X1_copyFrom N σ post := by
  intro σ1 e1
  refine ⟨N + 2, ?_⟩
  have hl : ∀ (fu k : Nat) (σ1 : St), k ≤ v.1 → v.1 < k + fu → σ1 0 3 = k → (∀ i, i < k → σ1 1 (i : Int) = v.2.1 i ∧ σ1 2 (i : Int) = v.2.2.1 i ∧ σ1 3 (i : Int) = v.2.2.2 i) → (∀ c : Nat, 4 ≤ c → σ1 c = σ c) → wp_X1_copyFrom_7 N post fu k σ1 := by
    intro fu
    induction fu with
    | zero => intro k σ1 h1 h2; omega
    | succ fu ih =>
      intro k σ1 h1 h2 h3 h4 h5
      unfold wp_X1_copyFrom_7
      have hsz : σ1 4 3 = v.1 := by rw [h5 4 (by decide)]; exact hv.1
      rw [hsz]
      refine ⟨⟨by omega, by omega⟩, ⟨by omega, by omega⟩, fun c => ?_, fun c => ⟨by omega, by omega, by omega, by omega, by omega, by omega, ?_⟩⟩
      · have : k = v.1 := by omega
        subst this
        exact hp σ1 ⟨h3, fun i hi => h4 i hi⟩ h5
      · have hk : k < v.1 := by omega
        have hv2 := hv.2 k hk
        refine s_append (sz := k) hN (show pk σ1 [0, 1, 2, 3] 0 3 = k from h3) (by omega) (fun e => by omega) (fun _ τ t0 tj t1 t2 t3 t4 => ?_)
        intro σ2 e2
        rw [show ((k : Int) + 1) = ((k + 1 : Nat) : Int) by omega]
        have q : ∀ c : Nat, c < 4 → σ2 c = τ c := fun c hc => by
          rw [e2]
          match c, hc with
          | 0, _ => rfl
          | 1, _ => rfl
          | 2, _ => rfl
          | 3, _ => rfl
        refine ih (k + 1) σ2 (by omega) (by omega) (by rw [q 0 (by decide)]; exact t0) (fun i hi => ?_) (fun c hc => ?_)
        · rw [q 1 (by decide), q 2 (by decide), q 3 (by decide), t1, t2, t3]
          by_cases hi2 : i = k
          · subst hi2
            simp only [if_true]
            rw [h5 5 (by decide), h5 6 (by decide), h5 7 (by decide)]
            exact hv2
          · have hi3 : ¬ ((i : Int) = k) := by omega
            simp only [hi3, if_false]
            exact h4 i (by omega)
        · rw [e2, mrg_out (ixo_nm (by simp; omega))]; exact h5 c hc
  refine hl (N + 2) 0 σ1 (Nat.zero_le _) (by omega) (by rw [e1]; simp [up]) (fun i hi => absurd hi (Nat.not_lt_zero _)) (fun c hc => by rw [e1, up_ne _ (by omega)])
/-! set-ups -/
theorem up_cell (σ : St) (k : Nat) (j x : Int) : up σ k j x k = fun j' => if j' = j then x else σ k j' := by funext j'; simp [up]
def frS (n : Nat) : Su := ((n, 0, fun _ => 0, -1, -1, fun _ => 0, 1), fun _ => 0, (0, fun _ => 0, fun _ => 0, fun _ => 0), (0, fun _ => 0, fun _ => 0, fun _ => 0), (0, fun _ => 0, fun _ => 0, fun _ => 0))
theorem frS_wf {n : Nat} (h4 : 4 ≤ n) (h8 : n ≤ 8) : wfS (frS n) :=
  ⟨⟨h4, h8, Nat.zero_le _, fun i hi => absurd hi (Nat.not_lt_zero _), Or.inl rfl, Or.inl rfl, fun _ _ => Nat.zero_le _, Nat.le_refl _, by show 1 ≤ 12; decide⟩, fun _ _ => Nat.zero_le _, ⟨Nat.zero_le _, fun i hi => absurd hi (Nat.not_lt_zero _)⟩, ⟨Nat.zero_le _, fun i hi => absurd hi (Nat.not_lt_zero _)⟩, ⟨Nat.zero_le _, fun i hi => absurd hi (Nat.not_lt_zero _)⟩⟩
theorem s_begin {σ : St} {n : Nat} {post : St → Prop} (hp : ∀ σ' : St, suOK σ' 0 (frS n) → (∀ c : Nat, 16 ≤ c → σ' c = σ c) → post σ') : wp_X4_begin σ n post := by
  intro σ1 e1 σ2 e2 σ3 e3 σ4 e4 σ5 e5
  have b0 : σ5 0 0 = n := by rw [e5, e4, e3, e2, e1]; simp [up]
  have b2 : σ5 0 2 = 0 := by rw [e5, e4, e3, e2, e1]; simp [up]
  have b3 : σ5 0 3 = -1 := by rw [e5, e4, e3, e2, e1]; simp [up]
  have b4 : σ5 0 4 = -1 := by rw [e5, e4, e3, e2, e1]; simp [up]
  have b6 : σ5 0 6 = 1 := by rw [e5, e4, e3, e2, e1]; simp [up]
  have bc : ∀ c : Nat, 1 ≤ c → σ5 c = σ c := fun c hc => by rw [e5, e4, e3, e2, e1, up_ne _ (by omega), up_ne _ (by omega), up_ne _ (by omega), up_ne _ (by omega), up_ne _ (by omega)]
  have l2 : ∀ (fu k : Nat) (τ : St), k ≤ 8 → 8 < k + fu → τ 0 = σ5 0 → (∀ i : Nat, i < 12 → τ 2 (i : Int) = 0) → (∀ i, i < k → τ 3 (i : Int) = 0) → (∀ c : Nat, 16 ≤ c → τ c = σ c) → wp_X4_begin_48 post fu k τ := by
    intro fu
    induction fu with
    | zero => intro k τ h1 h2; omega
    | succ fu ih =>
      intro k τ h1 h2 h3 h4 h5 h6
      unfold wp_X4_begin_48
      refine ⟨⟨by omega, by omega⟩, fun c => ?_, fun c => ⟨by omega, by omega, ?_⟩⟩
      · intro τ1 t1 τ2 t2 τ3 t3
        have g0 : τ3 0 = σ5 0 := by rw [t3, t2, t1, up_ne _ (by decide), up_ne _ (by decide), up_ne _ (by decide), h3]
        have g2 : τ3 2 = τ 2 := by rw [t3, t2, t1, up_ne _ (by decide), up_ne _ (by decide), up_ne _ (by decide)]
        have g3 : τ3 3 = τ 3 := by rw [t3, t2, t1, up_ne _ (by decide), up_ne _ (by decide), up_ne _ (by decide)]
        refine hp τ3 ⟨⟨?_, ?_, ?_, ?_, ?_, fun i hi => absurd hi (Nat.not_lt_zero _), fun i hi => ?_⟩, fun i hi => ?_, ⟨?_, fun i hi => absurd hi (Nat.not_lt_zero _)⟩, ⟨?_, fun i hi => absurd hi (Nat.not_lt_zero _)⟩, ⟨?_, fun i hi => absurd hi (Nat.not_lt_zero _)⟩⟩ (fun c hc => ?_)
        · rw [g0]; exact b0
        · rw [g0]; exact b2
        · rw [g0]; exact b3
        · rw [g0]; exact b4
        · rw [g0]; exact b6
        · rw [Nat.zero_add, g2]; exact h4 i hi
        · rw [Nat.zero_add, g3]; exact h5 i (by omega)
        · rw [t3, t2, t1]; simp [up, frS]
        · rw [t3, t2, t1]; simp [up, frS]
        · rw [t3, t2, t1]; simp [up, frS]
        · rw [t3, t2, t1, up_ne _ (by omega), up_ne _ (by omega), up_ne _ (by omega)]; exact h6 c hc
      · intro τ1 t1
        rw [show ((k : Int) + 1) = ((k + 1 : Nat) : Int) by omega]
        refine ih (k + 1) τ1 (by omega) (by omega) (by rw [t1, up_ne _ (by decide)]; exact h3) (fun i hi => by rw [t1, up_ne _ (by decide)]; exact h4 i hi) (fun i hi => ?_) (fun c hc => by rw [t1, up_ne _ (by omega)]; exact h6 c hc)
        rw [t1, up_cell]
        by_cases q : (i : Int) = k
        · simp [q]
        · simp only [q, if_false]; exact h5 i (by omega)
  have l1 : ∀ (fu k : Nat) (τ : St), k ≤ 12 → 12 < k + fu → τ 0 = σ5 0 → (∀ i, i < k → τ 2 (i : Int) = 0) → (∀ c : Nat, 16 ≤ c → τ c = σ c) → wp_X4_begin_27 post fu k τ := by
    intro fu
    induction fu with
    | zero => intro k τ h1 h2; omega
    | succ fu ih =>
      intro k τ h1 h2 h3 h4 h6
      unfold wp_X4_begin_27
      refine ⟨⟨by omega, by omega⟩, fun c => ?_, fun c => ⟨by omega, by omega, ?_⟩⟩
      · exact ⟨10, l2 10 0 τ (by decide) (by decide) h3 (fun i hi => h4 i (by omega)) (fun i hi => absurd hi (Nat.not_lt_zero _)) h6⟩
      · intro τ1 t1
        rw [show ((k : Int) + 1) = ((k + 1 : Nat) : Int) by omega]
        refine ih (k + 1) τ1 (by omega) (by omega) (by rw [t1, up_ne _ (by decide)]; exact h3) (fun i hi => ?_) (fun c hc => by rw [t1, up_ne _ (by omega)]; exact h6 c hc)
        rw [t1, up_cell]
        by_cases q : (i : Int) = k
        · simp [q]
        · simp only [q, if_false]; exact h4 i (by omega)
  exact ⟨14, l1 14 0 σ5 (by decide) (by decide) rfl (fun i hi => absurd hi (Nat.not_lt_zero _)) (fun c hc => bc c (by omega))⟩
theorem s_scopy {σ : St} {s : Su} (hs : suOK σ 16 s) (hw : wfS s) {post : St → Prop} (hp : ∀ σ' : St, suOK σ' 0 s → (∀ c : Nat, 16 ≤ c → σ' c = σ c) → post σ') : wp_X4_copyFrom σ post := by
  intro σ1 e1 σ2 e2 σ3 e3 σ4 e4 σ5 e5 σ6 e6 σ7 e7 σ8 e8
  have a5 : ∀ c : Nat, 1 ≤ c → σ5 c = σ c := fun c hc => by rw [e5, e4, e3, e2, e1, up_ne _ (by omega), up_ne _ (by omega), up_ne _ (by omega), up_ne _ (by omega), up_ne _ (by omega)]
  have b0 : σ5 0 0 = σ 16 0 := by rw [e5, e4, e3, e2, e1]; simp [up]
  have b2 : σ5 0 2 = σ 16 2 := by rw [e5, e4, e3, e2, e1]; simp [up]
  have b3 : σ5 0 3 = σ 16 3 := by rw [e5, e4, e3, e2, e1]; simp [up]
  have b4 : σ5 0 4 = σ 16 4 := by rw [e5, e4, e3, e2, e1]; simp [up]
  have b6 : σ5 0 6 = σ 16 6 := by rw [e5, e4, e3, e2, e1]; simp [up]
  have c0 : σ8 0 = σ5 0 := by rw [e8, e7, e6, cpy_ne _ (by decide), cpy_ne _ (by decide), cpy_ne _ (by decide)]
  have c4 : ∀ c : Nat, 4 ≤ c → σ8 c = σ c := fun c hc => by rw [e8, e7, e6, cpy_ne _ (by omega), cpy_ne _ (by omega), cpy_ne _ (by omega)]; exact a5 c (by omega)
  have c1 : ∀ i : Nat, i < 16 → σ8 1 (i : Int) = σ 17 (i : Int) := fun i hi => by
    rw [e8, e7, cpy_ne _ (by decide), cpy_ne _ (by decide), e6]
    simp only [cpy]
    rw [if_pos ⟨trivial, by omega, by omega⟩, a5 17 (by decide)]
    congr 1; omega
  have c2 : ∀ i : Nat, i < 12 → σ8 2 (i : Int) = σ 18 (i : Int) := fun i hi => by
    rw [e8, cpy_ne _ (by decide), e7]
    simp only [cpy]
    rw [if_pos ⟨trivial, by omega, by omega⟩, e6, cpy_ne _ (by decide), a5 18 (by decide)]
    congr 1; omega
  have c3 : ∀ i : Nat, i < 8 → σ8 3 (i : Int) = σ 19 (i : Int) := fun i hi => by
    rw [e8]
    simp only [cpy]
    rw [if_pos ⟨trivial, by omega, by omega⟩, e7, e6, cpy_ne _ (by decide), cpy_ne _ (by decide), a5 19 (by decide)]
    congr 1; omega
  obtain ⟨⟨q0, q2, q3, q4, q6, q7, q8⟩, qp, qs, qe, qb⟩ := hs
  refine s_hcopy (v := sSe s) (by decide) (hrOK_cong qs (fun k hk => ?_)) hw.2.2.1.1 (fun τ9 t9 u9 => ?_)
  · match k, hk with
    | 0, _ => exact c4 20 (by decide)
    | 1, _ => exact c4 21 (by decide)
    | 2, _ => exact c4 22 (by decide)
    | 3, _ => exact c4 23 (by decide)
  intro σ9 e9
  have d9 : ∀ k : Nat, k < 4 → σ9 (4 + k) = τ9 k := fun k hk => by
    rw [e9]
    match k, hk with
    | 0, _ => rfl
    | 1, _ => rfl
    | 2, _ => rfl
    | 3, _ => rfl
  have f9 : ∀ c, (c < 4 ∨ 8 ≤ c) → σ9 c = σ8 c := fun c hc => by
    rw [e9]
    by_cases z : 20 ≤ c ∧ c < 24
    · have hm : ∀ i : Nat, i < 4 → mrg σ8 [4, 5, 6, 7, 20, 21, 22, 23] τ9 (20 + i) = σ8 (20 + i) := fun i hi => by
        match i, hi with
        | 0, _ => exact u9 4 (by decide)
        | 1, _ => exact u9 5 (by decide)
        | 2, _ => exact u9 6 (by decide)
        | 3, _ => exact u9 7 (by decide)
      have := hm (c - 20) (by omega)
      rw [show 20 + (c - 20) = c by omega] at this; exact this
    · rw [mrg_out (ixo_nm (by simp; omega))]
  refine s_hcopy (v := sEv s) (by decide) (hrOK_cong qe (fun k hk => ?_)) hw.2.2.2.1.1 (fun τ10 t10 u10 => ?_)
  · match k, hk with
    | 0, _ => exact (f9 24 (by decide)).trans (c4 24 (by decide))
    | 1, _ => exact (f9 25 (by decide)).trans (c4 25 (by decide))
    | 2, _ => exact (f9 26 (by decide)).trans (c4 26 (by decide))
    | 3, _ => exact (f9 27 (by decide)).trans (c4 27 (by decide))
  intro σ10 e10
  have d10 : ∀ k : Nat, k < 4 → σ10 (8 + k) = τ10 k := fun k hk => by
    rw [e10]
    match k, hk with
    | 0, _ => rfl
    | 1, _ => rfl
    | 2, _ => rfl
    | 3, _ => rfl
  have f10 : ∀ c, (c < 8 ∨ 12 ≤ c) → σ10 c = σ9 c := fun c hc => by
    rw [e10]
    by_cases z : 24 ≤ c ∧ c < 28
    · have hm : ∀ i : Nat, i < 4 → mrg σ9 [8, 9, 10, 11, 24, 25, 26, 27] τ10 (24 + i) = σ9 (24 + i) := fun i hi => by
        match i, hi with
        | 0, _ => exact u10 4 (by decide)
        | 1, _ => exact u10 5 (by decide)
        | 2, _ => exact u10 6 (by decide)
        | 3, _ => exact u10 7 (by decide)
      have := hm (c - 24) (by omega)
      rw [show 24 + (c - 24) = c by omega] at this; exact this
    · rw [mrg_out (ixo_nm (by simp; omega))]
  refine s_hcopy (v := sBk s) (by decide) (hrOK_cong qb (fun k hk => ?_)) hw.2.2.2.2.1 (fun τ11 t11 u11 => ?_)
  · match k, hk with
    | 0, _ => exact (f10 28 (by decide)).trans ((f9 28 (by decide)).trans (c4 28 (by decide)))
    | 1, _ => exact (f10 29 (by decide)).trans ((f9 29 (by decide)).trans (c4 29 (by decide)))
    | 2, _ => exact (f10 30 (by decide)).trans ((f9 30 (by decide)).trans (c4 30 (by decide)))
    | 3, _ => exact (f10 31 (by decide)).trans ((f9 31 (by decide)).trans (c4 31 (by decide)))
  intro σ11 e11
  have d11 : ∀ k : Nat, k < 4 → σ11 (12 + k) = τ11 k := fun k hk => by
    rw [e11]
    match k, hk with
    | 0, _ => rfl
    | 1, _ => rfl
    | 2, _ => rfl
    | 3, _ => rfl
  have f11 : ∀ c, (c < 12 ∨ 16 ≤ c) → σ11 c = σ10 c := fun c hc => by
    rw [e11]
    by_cases z : 28 ≤ c ∧ c < 32
    · have hm : ∀ i : Nat, i < 4 → mrg σ10 [12, 13, 14, 15, 28, 29, 30, 31] τ11 (28 + i) = σ10 (28 + i) := fun i hi => by
        match i, hi with
        | 0, _ => exact u11 4 (by decide)
        | 1, _ => exact u11 5 (by decide)
        | 2, _ => exact u11 6 (by decide)
        | 3, _ => exact u11 7 (by decide)
      have := hm (c - 28) (by omega)
      rw [show 28 + (c - 28) = c by omega] at this; exact this
    · rw [mrg_out (ixo_nm (by simp; omega))]
  have g : ∀ c : Nat, c < 4 → σ11 c = σ8 c := fun c hc => by rw [f11 c (by omega), f10 c (by omega), f9 c (by omega)]
  refine hp σ11 ⟨⟨?_, ?_, ?_, ?_, ?_, fun i hi => ?_, fun i hi => ?_⟩, fun i hi => ?_, hrOK_cong t9 (fun k hk => ?_), hrOK_cong t10 (fun k hk => ?_), hrOK_cong t11 (fun k hk => ?_)⟩ (fun c hc => ?_)
  · rw [g 0 (by decide), c0, b0]; exact q0
  · rw [g 0 (by decide), c0, b2]; exact q2
  · rw [g 0 (by decide), c0, b3]; exact q3
  · rw [g 0 (by decide), c0, b4]; exact q4
  · rw [g 0 (by decide), c0, b6]; exact q6
  · rw [Nat.zero_add, g 1 (by decide), c1 i (by have := hw.1.2.2.1; omega)]; exact q7 i hi
  · rw [Nat.zero_add, g 2 (by decide), c2 i hi]; exact q8 i hi
  · rw [Nat.zero_add, g 3 (by decide), c3 i hi]; exact qp i hi
  · rw [Nat.zero_add, Nat.zero_add, f11 _ (by omega), f10 _ (by omega)]; exact d9 k hk
  · rw [Nat.zero_add, Nat.zero_add, f11 _ (by omega)]; exact d10 k hk
  · rw [Nat.zero_add, Nat.zero_add]; exact d11 k hk
  · rw [f11 c (by omega), f10 c (by omega), f9 c (by omega)]; exact c4 c (by omega)
