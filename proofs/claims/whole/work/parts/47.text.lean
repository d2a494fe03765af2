/-! feed, image, undo, looked, judge -/
theorem RR_text {s : Su} {σ τ σ' τ' : St} (h : RR s σ τ) (e : ∀ k, k < 74 ∨ 79 ≤ k → σ' k = σ k) (e0 : τ' 0 2 = τ 0 2) (e1 : ∀ d, d = 1 ∨ d = 2 ∨ d = 10 ∨ d = 11 ∨ d = 12 → τ' d = τ d) (ht : txOK σ' τ') : RR s σ' τ' := by
  obtain ⟨a1, a2, a3, a4, a5, a6, a7, a8, a9⟩ := h
  refine ⟨a1, suOK_cong a2 (fun k hk => e _ (by omega)), by rw [e1 1 (by simp)]; exact a3, imOK_cong a4 (by rw [e 0 (by decide)]) (fun k h1 h2 => e k (by omega)) e0 (e1 2 (by simp)), ⟨?_, fun j hj => by rw [e 55 (by decide)]; exact a5.2 j hj⟩, fun j hj => by rw [e 62 (by decide)]; exact a6 j hj, fun j hj => by rw [e 72 (by decide)]; exact a7 j hj, ht, tpOK_cong a9 (fun k hk => e k (by omega)) (e1 10 (by simp)) (e1 11 (by simp)) (e1 12 (by simp))⟩
  rw [e 0 (by decide)]
  rcases a5.1 with z | ⟨z1, z2, z3⟩
  · exact Or.inl z
  · exact Or.inr ⟨z1, touOK_cong z2 (fun j _ => by rw [e 49 (by decide)]) (fun k h1 h2 => e _ (by omega)), cmOK_cong z3 (by rw [e 49 (by decide)]) (e _ (by decide)) (e _ (by decide))⟩
theorem i2b_small : ∀ n : Nat, n < 128 → i2b (n : Int) = n := by decide +kernel
theorem op_feed {s : Su} {σ τ : St} (h : RR s σ τ) {v : Int} (hv : rg v) {K : Kt} (hk : ∀ s' σ' τ', RR s' σ' τ' → K σ' τ') : wp_X8_feed σ v (fun r1 σ1 => wp_X9_feed τ v (fun r2 τ1 => An K r1 r2 σ1 τ1)) := by
  have hK := hk s σ τ h
  obtain ⟨len, hlen, x1, x2, x3⟩ := h.2.2.2.2.2.2.2.1
  have bad : ¬ (0 ≤ v ∧ v ≤ 127) → wp_X9_feed τ v (fun r2 τ1 => An K (-2) r2 σ τ1) := fun c => by
    unfold wp_X9_feed
    exact s_within hv (by decide) (by decide) (ibr (fun z => absurd z c) (fun _ => An_same (by decide) hK))
  unfold wp_X8_feed
  refine ⟨hv, fun c => bad (by omega), fun c => ⟨hv, fun c2 => ?_, fun c2 => bad (by omega)⟩⟩
  obtain ⟨n, rfl, -, hn⟩ := natOf (v := v) (a := 0) (b := 127) (by omega) (by omega)
  have hib := i2b_small n (by omega)
  unfold wp_X5_append
  rw [show pk σ [74, 75, 76, 77, 78] 0 0 = (len : Int) from x1]
  refine ⟨rgn (by omega), fun c3 => ⟨by omega, by omega, by rw [hib, hib], ?_⟩, fun c3 => ?_⟩
  · intro ρ1 e1 ρ2 e2 σ1 e3
    have q0 : ρ1 0 0 = len := by rw [e1, up_c _ _ (by decide)]; exact x1
    rw [q0] at e2
    have e3' : σ1 = mrg σ (blk 74 5) ρ2 := e3
    have g : ∀ k, k < 5 → σ1 (74 + k) = ρ2 k := fun k hk => by rw [e3', mrg_blk, if_pos (by omega)]; congr 1; omega
    have g0 : σ1 74 0 = ((len + 1 : Nat) : Int) := by rw [show (74 : Nat) = 74 + 0 from rfl, g 0 (by decide), e2, up_same]; omega
    refine ⟨by decide, fun z => absurd z (by decide), fun _ => ?_⟩
    rw [g0]
    unfold wp_X9_feed
    refine s_within hv (by decide) (by decide) (ibr (fun _ => ?_) (fun z => by omega))
    rw [x2]
    refine ⟨rgn (by omega), fun _ => ?_, fun z => by omega⟩
    intro τ2 u2
    refine ⟨by omega, by omega, ?_⟩
    intro τ3 u3
    have t0 : τ3 0 6 = ((len + 1 : Nat) : Int) := by rw [u3, up_c _ _ (by decide), u2, up_same]; omega
    rw [t0]
    refine An_same (rgn (by omega)) (hk s σ1 τ3 (RR_text h (fun k hk => by rw [e3', mrg_blk, if_neg (by omega)]) (by rw [u3, up_c _ _ (by decide), u2, up_j _ (by decide)]) (fun d hd => by rw [u3, up_ne _ (by omega), u2, up_ne _ (by omega)]) ⟨len + 1, by omega, g0, t0, fun i hi => ?_⟩))
    have q1 : σ1 75 = ρ2 1 := g 1 (by decide)
    rw [q1, e2, up_c _ _ (by decide), e1, u3]
    by_cases z : i = len
    · rw [z, up_same, up_same, hib]; exact ⟨rfl, by omega, by omega⟩
    · rw [up_j _ (by omega), up_j _ (by omega), u2, up_c _ _ (by decide)]
      exact x3 i (by omega)
  · intro σ1 e1
    have e1' : σ1 = σ := by rw [e1]; exact mrg_bpk (o := 74) (l := 5)
    rw [e1']
    refine ⟨by decide, fun _ => ?_, fun z => absurd rfl z⟩
    unfold wp_X9_feed
    refine s_within hv (by decide) (by decide) (ibr (fun _ => ?_) (fun z => by omega))
    rw [x2]
    exact ⟨rgn (by omega), fun z => by omega, fun _ => An_same (by decide) hK⟩
theorem moOK_cong {f f' : Int → Int} {s : Su} (h : moOK f s) (hw : wfS s) (e : ∀ j : Nat, j < 91 → f' (j : Int) = f (j : Int)) : moOK f' s := by
  have e2 : ∀ j : Int, 0 ≤ j → j < 91 → f' j = f j := fun j h1 h2 => by
    have := e j.toNat (by omega)
    rwa [Int.toNat_of_nonneg h1] at this
  obtain ⟨mc, m5, m6, m7, mp, mse, mev, mbk⟩ := h
  refine ⟨mcOK_cong mc hw.1.2.2.1 (fun j h1 h2 _ => e2 j h1 (by omega)), ?_, ?_, ?_, fun i hi => ?_, fun i hi => ?_, fun i hi => ?_, fun i hi => ?_⟩
  · rw [e2 5 (by decide) (by decide)]; exact m5
  · rw [e2 6 (by decide) (by decide)]; exact m6
  · rw [e2 7 (by decide) (by decide)]; exact m7
  · rw [e2 _ (by omega) (by omega)]; exact mp i hi
  · have := hw.2.2.1.1
    rw [e2 _ (by omega) (by omega), e2 _ (by omega) (by omega), e2 _ (by omega) (by omega)]; exact mse i hi
  · have := hw.2.2.2.1.1
    rw [e2 _ (by omega) (by omega), e2 _ (by omega) (by omega)]; exact mev i hi
  · have := hw.2.2.2.2.1
    rw [e2 _ (by omega) (by omega), e2 _ (by omega) (by omega)]; exact mbk i hi
theorem op_image {s : Su} {σ τ : St} (h : RR s σ τ) {K : Kt} (hk : ∀ s' σ' τ', RR s' σ' τ' → K σ' τ') : wp_X8_image σ (fun r1 σ1 => wp_X9_image τ (fun r2 τ1 => An K r1 r2 σ1 τ1)) := by
  have hwf := h.1
  unfold wp_X8_image
  refine s_scopy (s := s) (suOK_cong h.2.1 (fun k hk => ?_)) hwf (fun ρ t1 t2 => ?_)
  · show pk σ (blk 17 16 ++ blk 1 16) (16 + k) = _
    rw [pk_b2 (by omega), if_neg (by omega)]; congr 1; omega
  intro σ1 e1 σ2 e2
  have e1' : σ1 = mrg σ (blk 17 16 ++ blk 1 16) ρ := e1
  have ec : ∀ k, k ≠ 0 → ¬ (17 ≤ k ∧ k < 33) → σ2 k = σ k := fun k h0 h1 => by
    rw [e2, up_ne _ h0, e1', mrg_b2, if_neg (by omega)]
    by_cases z : 1 ≤ k ∧ k < 1 + 16
    · rw [if_pos z, t2 _ (by omega)]
      show pk σ (blk 17 16 ++ blk 1 16) (16 + (k - 1)) = _
      rw [pk_b2 (by omega), if_neg (by omega)]; congr 1; omega
    · rw [if_neg z]
  have e0 : ∀ j : Int, j ≠ 8 → σ2 0 j = σ 0 j := fun j hj => by rw [e2, up_j _ hj, e1', mrg_b2, if_neg (by decide), if_neg (by decide)]
  have ek : suOK σ2 17 s := suOK_cong t1 (fun k hk => by
    rw [e2, up_ne _ (by omega), e1', mrg_b2, if_pos (by omega)]; congr 1; omega)
  have hM : σ2 1 2 = cM s.1 := by rw [ec 1 (by decide) (by decide)]; exact h.2.1.1.2.1
  rw [hM]
  unfold wp_X9_image
  intro τ1 u1
  have loop : ∀ (fu k : Nat) (τ2 : St), k ≤ 91 → 91 < k + fu → (∀ i : Nat, i < k → τ2 2 (i : Int) = τ 1 (i : Int)) → (∀ d, d ≠ 2 → τ2 d = τ1 d) → wp_X9_image_7 (fun r2 τ1 => An K (cM s.1 : Nat) r2 σ2 τ1) fu k τ2 := by
    intro fu
    induction fu with
    | zero => intro k τ2 a b; omega
    | succ fu ih =>
      intro k τ2 a b q1 q2
      unfold wp_X9_image_7
      refine ⟨rgn (by omega), fun c => ?_, fun c => ⟨by omega, by omega, by omega, by omega, ?_⟩⟩
      · have hm1 : τ2 1 = τ 1 := by rw [q2 1 (by decide), u1, up_ne _ (by decide)]
        rw [show τ2 1 1 = (cM s.1 : Int) by rw [hm1]; exact h.2.2.1.1.2.1]
        refine An_same (rgn (by have := hwf.1.2.2.1; omega)) (hk s σ2 τ2 ?_)
        obtain ⟨a1, a2, a3, a4, a5, a6, a7, a8, a9⟩ := id h
        refine ⟨a1, suOK_cong a2 (fun k hk => ec _ (by omega) (by omega)), by rw [hm1]; exact a3, Or.inr ⟨by rw [e2, up_same], ?_, s, hwf, ek, moOK_cong a3 hwf (fun j hj => q1 j (by omega))⟩, ⟨?_, fun j hj => by rw [ec 55 (by decide) (by decide)]; exact a5.2 j hj⟩, fun j hj => by rw [ec 62 (by decide) (by decide)]; exact a6 j hj, fun j hj => by rw [ec 72 (by decide) (by decide)]; exact a7 j hj, txOK_cong a8 (ec 74 (by decide) (by decide)) (ec 75 (by decide) (by decide)) ?_ ?_, tpOK_cong a9 (fun k hk => ec k (by omega) (by omega)) ?_ ?_ ?_⟩
        · rw [q2 0 (by decide), u1, up_same]
        · rw [e0 9 (by decide)]
          rcases a5.1 with z | ⟨z1, z2, z3⟩
          · exact Or.inl z
          · exact Or.inr ⟨z1, touOK_cong z2 (fun j _ => by rw [ec 49 (by decide) (by decide)]) (fun k h1 h2 => ec _ (by omega) (by omega)), cmOK_cong z3 (by rw [ec 49 (by decide) (by decide)]) (ec _ (by decide) (by decide)) (ec _ (by decide) (by decide))⟩
        · rw [q2 0 (by decide), u1, up_j _ (by decide)]
        · rw [q2 5 (by decide), u1, up_ne _ (by decide)]
        · rw [q2 10 (by decide), u1, up_ne _ (by decide)]
        · rw [q2 11 (by decide), u1, up_ne _ (by decide)]
        · rw [q2 12 (by decide), u1, up_ne _ (by decide)]
      · intro τ3 u3
        rw [show (k : Int) + 1 = ((k + 1 : Nat) : Int) by omega]
        refine ih (k + 1) τ3 (by omega) (by omega) (fun i hi => ?_) (fun d hd => by rw [u3, up_ne _ hd]; exact q2 d hd)
        rw [u3]
        by_cases z : i = k
        · rw [z, up_same, q2 1 (by decide), u1, up_ne _ (by decide)]
        · rw [up_j _ (by omega)]; exact q1 i (by omega)
  exact ⟨92, loop 92 0 τ1 (by omega) (by omega) (fun i hi => absurd hi (Nat.not_lt_zero _)) (fun _ _ => rfl)⟩
theorem op_undo {s : Su} {σ τ : St} (h : RR s σ τ) {K : Kt} (hk : ∀ s' σ' τ', RR s' σ' τ' → K σ' τ') : wp_X8_undo σ (fun r1 σ1 => wp_X9_undo τ (fun r2 τ1 => An K r1 r2 σ1 τ1)) := by
  unfold wp_X8_undo
  rcases h.2.2.2.1 with ⟨i1, i2⟩ | ⟨i1, i2, s', hw', hs', hm'⟩
  · rw [i1]
    refine ⟨by decide, fun z => absurd rfl z, fun _ => ?_⟩
    unfold wp_X9_undo
    rw [i2]
    exact ⟨by decide, fun z => absurd rfl z, fun _ => An_same (by decide) (hk s _ _ h)⟩
  · rw [i1]
    refine ⟨by decide, fun _ => ?_, fun z => absurd z (by decide)⟩
    refine s_scopy (s := s') (suOK_cong hs' (fun k hk => ?_)) hw' (fun ρ t1 t2 => ?_)
    · show pk σ (blk 1 16 ++ blk 17 16) (16 + k) = _
      rw [pk_b2 (by omega), if_neg (by omega)]; congr 1; omega
    intro σ1 e1 σ2 e2
    have e1' : σ1 = mrg σ (blk 1 16 ++ blk 17 16) ρ := e1
    have ec : ∀ k, 17 ≤ k → σ2 k = σ k := fun k h0 => by
      rw [e2, up_ne _ (by omega), e1', mrg_b2, if_neg (by omega)]
      by_cases z : 17 ≤ k ∧ k < 17 + 16
      · rw [if_pos z, t2 _ (by omega)]
        show pk σ (blk 1 16 ++ blk 17 16) (16 + (k - 17)) = _
        rw [pk_b2 (by omega), if_neg (by omega)]; congr 1; omega
      · rw [if_neg z]
    have ek : suOK σ2 1 s' := suOK_cong t1 (fun k hk => by
      rw [e2, up_ne _ (by omega), e1', mrg_b2, if_pos (by omega)]; congr 1; omega)
    have e8 : σ2 0 8 = σ 0 8 := by rw [e2, up_j _ (by decide), e1', mrg_b2, if_neg (by decide), if_neg (by decide)]
    rw [ek.1.2.1]
    unfold wp_X9_undo
    rw [i2]
    have loop : ∀ (fu k : Nat) (τ2 : St), k ≤ 91 → 91 < k + fu → (∀ i : Nat, i < k → τ2 1 (i : Int) = τ 2 (i : Int)) → (∀ d, d ≠ 1 → τ2 d = τ d) → wp_X9_undo_12 (fun r2 τ1 => An K (cM s'.1 : Nat) r2 σ2 τ1) fu k τ2 := by
      intro fu
      induction fu with
      | zero => intro k τ2 a b; omega
      | succ fu ih =>
        intro k τ2 a b q1 q2
        unfold wp_X9_undo_12
        refine ⟨rgn (by omega), fun c => ?_, fun c => ⟨by omega, by omega, by omega, by omega, ?_⟩⟩
        · have hm1 : moOK (τ2 1) s' := moOK_cong hm' hw' (fun j hj => q1 j (by omega))
          rw [hm1.1.2.1]
          exact An_same (rgn (by have := hw'.1.2.2.1; omega)) (hk s' σ2 τ2 (RR_put h hw' ek hm1 (by rw [e2, up_same]) e8 ec (fun j _ => by rw [q2 0 (by decide)]) (fun d hd => q2 d (by omega))))
        · intro τ3 u3
          rw [show (k : Int) + 1 = ((k + 1 : Nat) : Int) by omega]
          refine ih (k + 1) τ3 (by omega) (by omega) (fun i hi => ?_) (fun d hd => by rw [u3, up_ne _ hd]; exact q2 d hd)
          rw [u3]
          by_cases z : i = k
          · rw [z, up_same, q2 2 (by decide)]
          · rw [up_j _ (by omega)]; exact q1 i (by omega)
    exact ⟨by decide, fun _ => ⟨92, loop 92 0 τ (by omega) (by omega) (fun i hi => absurd hi (Nat.not_lt_zero _)) (fun _ _ => rfl)⟩, fun z => absurd z (by decide)⟩
/-- the first booked row that does not hold -/
abbrev lkB (s : Su) (v : Nat) : Bool := !(decide ((sBk s).2.1 v ≤ lastC s.1) && (RFc s.1 ((sBk s).2.1 v) 0 == (sBk s).2.2.1 v))
theorem t_bell0 {s : Su} {σ τ : St} (h : RT s σ τ) {r : Nat} (hr : r ≤ lastC s.1) {post : Int → Prop} (hp : post (RFc s.1 r 0 : Nat)) : wp_X2_bellIn (σ 50 (r : Int)) 1 post := by
  have h4 := h.1.1.1.1
  exact t_bell h hr (p := 0) (by omega) hp
theorem sch_t {p : Nat → Bool} {k r : Nat} (h : p r = true) : sch p (k + 1) r = r := by unfold sch; rw [if_pos h]
theorem sch_f {p : Nat → Bool} {k r : Nat} (h : p r = false) : sch p (k + 1) r = sch p k (r + 1) := by
  show (if p r then (r : Int) else sch p k (r + 1)) = _
  rw [if_neg (by rw [h]; decide)]
theorem t_looked {s : Su} {τ : St} {post : Int → St → Prop} : ∀ (k fu v : Nat) (σ : St), RR s σ τ → v + k = (sBk s).1 → k < fu → (∀ σ' : St, RR s σ' τ → post (sch (lkB s) k v) σ') → wp_X8_looked_10 post fu v σ := by
  intro k
  induction k with
  | zero =>
    intro fu v σ h e hf hp
    obtain ⟨fu, rfl⟩ : ∃ f, fu = f + 1 := ⟨fu - 1, by omega⟩
    have hsz := h.1.2.2.2.2.1
    unfold wp_X8_looked_10
    rw [show σ 13 3 = _ from h.2.1.2.2.2.2.1]
    exact ⟨rgn (by omega), rgn (by omega), fun _ => hp σ h, fun z => by omega⟩
  | succ k ih =>
    intro fu v σ h e hf hp
    obtain ⟨fu, rfl⟩ : ∃ f, fu = f + 1 := ⟨fu - 1, by omega⟩
    have hsz := h.1.2.2.2.2.1
    obtain ⟨w1, w2⟩ := h.1.2.2.2.2.2 v (by omega)
    have h8 := h.1.1.2.1
    unfold wp_X8_looked_10
    rw [show σ 13 3 = _ from h.2.1.2.2.2.2.1]
    refine ⟨rgn (by omega), rgn (by omega), fun z => by omega, fun _ => ⟨by omega, by omega, ?_⟩⟩
    rw [show σ 14 (v : Int) = _ from (h.2.1.2.2.2.2.2 v (by omega)).1]
    have bad : lkB s v = true → ∀ σ' : St, RR s σ' τ → wp_X8_looked_55 post v σ' := fun z σ' h' => by
      have := hp σ' h'
      rwa [sch_t z] at this
    refine s_isRow h (rgn (by omega)) (fun σ1 h1 _ => ibs (fun c => s_rung h1 (fun σ2 h2 _ _ => ⟨by omega, by omega, ?_⟩)) (fun c => bad ?_ σ1 h1))
    · have hr : (sBk s).2.1 v ≤ lastC s.1 := by omega
      refine t_bell0 h2 hr ⟨by omega, by omega, rgn (by have := (RFc_in h.1 hr (p := 0) (by have := h.1.1.1; omega)); omega), ?_⟩
      rw [show σ2 15 (v : Int) = _ from (h2.1.2.1.2.2.2.2.2 v (by omega)).2.1]
      refine ⟨rgn (by omega), fun c2 => ?_, fun c2 => bad ?_ σ2 h2.1⟩
      · rw [show (v : Int) + 1 = ((v + 1 : Nat) : Int) by omega]
        refine ih fu (v + 1) σ2 h2.1 (by omega) (by omega) (fun σ' h' => ?_)
        have := hp σ' h'
        rwa [sch_f] at this
        simp only [lkB, Bool.not_eq_false', Bool.and_eq_true, decide_eq_true_eq, beq_iff_eq]
        exact ⟨hr, by omega⟩
      · simp only [lkB, Bool.not_eq_true', Bool.and_eq_false_iff, decide_eq_false_iff_not, beq_eq_false_iff_ne]
        exact Or.inr (by omega)
    · simp only [lkB, Bool.not_eq_true', Bool.and_eq_false_iff, decide_eq_false_iff_not]
      exact Or.inl (by omega)
theorem op_looked {s : Su} {σ τ : St} (h : RR s σ τ) {K : Kt} (hk : ∀ s' σ' τ', RR s' σ' τ' → K σ' τ') : wp_X8_looked σ (fun r1 σ1 => wp_X9_looked τ (fun r2 τ1 => An K r1 r2 σ1 τ1)) := by
  have hl := lastC_le h.1.1
  have hsz := h.1.2.2.2.2.1
  have h8 := h.1.1.2.1
  have hn4 := h.1.1.1
  unfold wp_X8_looked
  refine ⟨(sBk s).1 + 1, t_looked (sBk s).1 ((sBk s).1 + 1) 0 σ h (by omega) (by omega) (fun σ' h' => ?_)⟩
  unfold wp_X9_looked
  refine s_mrings h' (fun τ' m _ _ => ⟨(sBk s).1 + 1, ?_⟩)
  obtain ⟨mc, m5, m6, m7, mp, mse, mev, mbk⟩ := id m.1.2.2.1
  have loop : ∀ (k fu v : Nat), v + k = (sBk s).1 → k < fu → An K (sch (lkB s) (sBk s).1 0) (sch (lkB s) k v) σ' τ' → wp_X9_looked_6 (fun r2 τ1 => An K (sch (lkB s) (sBk s).1 0) r2 σ' τ1) fu v τ' := by
    intro k
    induction k with
    | zero =>
      intro fu v e hf hp
      obtain ⟨fu, rfl⟩ : ∃ f, fu = f + 1 := ⟨fu - 1, by omega⟩
      unfold wp_X9_looked_6
      rw [m7]
      exact ⟨rgn (by omega), rgn (by omega), fun _ => hp, fun z => by omega⟩
    | succ k ih =>
      intro fu v e hf hp
      obtain ⟨fu, rfl⟩ : ∃ f, fu = f + 1 := ⟨fu - 1, by omega⟩
      obtain ⟨w1, w2⟩ := h.1.2.2.2.2.2 v (by omega)
      obtain ⟨v1, v2⟩ := mbk v (by omega)
      unfold wp_X9_looked_6
      rw [m7, v1, m.2.2, v2]
      have bad : lkB s v = true → wp_X9_looked_62 (fun r2 τ1 => An K (sch (lkB s) (sBk s).1 0) r2 σ' τ1) v τ' := fun z => by
        rwa [sch_t z] at hp
      refine ⟨rgn (by omega), rgn (by omega), fun z => by omega, fun _ => ⟨by omega, by omega, rgn (by omega), rgn (by omega), fun c => bad ?_, fun c => ⟨by omega, by omega, by omega, by omega, ?_⟩⟩⟩
      · simp only [lkB, Bool.not_eq_true', Bool.and_eq_false_iff, decide_eq_false_iff_not]
        exact Or.inl (by omega)
      · have hr : (sBk s).2.1 v ≤ lastC s.1 := by omega
        have q := RM_row m hr 0 (by omega)
        have hin := RFc_in h.1 hr (p := 0) (by omega)
        rw [show 8 * (((sBk s).2.1 v : Nat) : Int) = 8 * (((sBk s).2.1 v : Nat) : Int) + ((0 : Nat) : Int) by omega, q]
        refine ⟨rgn (by omega), rgn (by omega), fun c2 => ?_, fun c2 => bad ?_⟩
        · rw [show (v : Int) + 1 = ((v + 1 : Nat) : Int) by omega]
          refine ih fu (v + 1) (by omega) (by omega) ?_
          rwa [sch_f] at hp
          simp only [lkB, Bool.not_eq_false', Bool.and_eq_true, decide_eq_true_eq, beq_iff_eq]
          exact ⟨hr, by omega⟩
        · simp only [lkB, Bool.not_eq_true', Bool.and_eq_false_iff, decide_eq_false_iff_not, beq_eq_false_iff_ne]
          exact Or.inr (by omega)
  exact loop (sBk s).1 ((sBk s).1 + 1) 0 (by omega) (by omega) (An_same (sch_rg _ _ (by omega)) (hk s _ _ m.1))
