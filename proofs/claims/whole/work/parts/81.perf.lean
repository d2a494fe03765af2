/-! texts: the clauses are done -/
def alG (n : Nat) (vs : Nat → Int) : Nat → Nat → Bool
  | 0, _ => true
  | k + 1, i => if GD n (vs i).toNat = true then alG n vs k (i + 1) else false
theorem alG_s {n : Nat} {vs : Nat → Int} {k i : Nat} : alG n vs (k + 1) i = if GD n (vs i).toNat = true then alG n vs k (i + 1) else false := rfl
theorem alG_all {n : Nat} {vs : Nat → Int} : ∀ (k i : Nat), alG n vs k i = true → ∀ j, i ≤ j → j < i + k → GD n (vs j).toNat = true
  | 0, i, _, j, h1, h2 => by omega
  | k + 1, i, h, j, h1, h2 => by
    unfold alG at h
    by_cases c : GD n (vs i).toNat = true
    · rw [if_pos c] at h
      rcases Nat.lt_or_ge i j with z | z
      · exact alG_all k (i + 1) h j z (by omega)
      · rw [show j = i by omega]; exact c
    · rw [if_neg c] at h; cases h
def doP (s : Su) (K : Int) (a b : Nat) (vs : Nat → Int) : Su × Bool :=
  if K = 110 then (if 4 ≤ vs a ∧ vs a ≤ 8 then (frS (vs a).toNat, true) else (s, false))
  else if K = 109 then (if alG (cN s.1) vs (b - a) a = true then (((cN s.1, b - a, (fun i => (vs (a + i)).toNat), cB s.1, cS s.1, cC s.1, cL s.1), s.2), true) else (s, false))
  else if K = 98 then (if GD (cN s.1) (vs a).toNat = true then (((cN s.1, cM s.1, cH s.1, vs a, cS s.1, cC s.1, cL s.1), s.2), true) else (s, false))
  else if K = 115 then (if GD (cN s.1) (vs a).toNat = true then (((cN s.1, cM s.1, cH s.1, cB s.1, vs a, cC s.1, cL s.1), s.2), true) else (s, false))
  else (((cN s.1, cM s.1, cH s.1, cB s.1, cS s.1, (fun i => if i < b - a then (vs (a + i)).toNat else cC s.1 i), b - a), s.2), true)
theorem v256 {v : Int} (h : B256 v) : ∃ n : Nat, v = (n : Int) ∧ n < 256 := by
  obtain ⟨n, e, -, hn⟩ := natOf (v := v) (a := 0) (b := 255) (by have := h.1; omega) (by have := h.2; omega)
  exact ⟨n, e, by omega⟩
theorem doP_wf {s : Su} (h : wfS s) {K : Int} {a b : Nat} {vs : Nat → Int} (hc : cKd K a b vs) : wfS (doP s K a b vs).1 := by
  obtain ⟨k1, k2, k3, k4, k5, k6⟩ := hc
  obtain ⟨h4, h8, h16, hh, hB, hS, hcal, hl1, hl12⟩ := id h.1
  have g : ∀ i, a ≤ i → i < b → GD (cN s.1) (vs i).toNat = true → chOK (cN s.1) (vs i) := fun i h1 h2 h3 => by
    obtain ⟨n, e, hn⟩ := v256 (k6 i h1 h2)
    exact Or.inr ⟨n, e, hn, by rw [e] at h3; exact h3⟩
  unfold doP
  by_cases c1 : K = 110
  · rw [if_pos c1]
    by_cases c2 : 4 ≤ vs a ∧ vs a ≤ 8
    · rw [if_pos c2]; exact frS_wf (by omega) (by omega)
    · rw [if_neg c2]; exact h
  · rw [if_neg c1]
    by_cases c2 : K = 109
    · rw [if_pos c2]
      by_cases c3 : alG (cN s.1) vs (b - a) a = true
      · rw [if_pos c3]
        have := k4 c2
        refine wfS_cfg h ⟨h4, h8, by show b - a ≤ 16; omega, fun i hi => ?_, hB, hS, hcal, hl1, hl12⟩ rfl
        have hi' : i < b - a := hi
        have hb := k6 (a + i) (by omega) (by omega)
        exact ⟨by show (vs (a + i)).toNat < 256; have := hb.1; have := hb.2; omega, alG_all _ _ c3 (a + i) (by omega) (by omega)⟩
      · rw [if_neg c3]; exact h
    · rw [if_neg c2]
      by_cases c3 : K = 98
      · rw [if_pos c3]
        by_cases c4 : GD (cN s.1) (vs a).toNat = true
        · rw [if_pos c4]; exact wfS_cfg h ⟨h4, h8, h16, hh, g a (Nat.le_refl _) k2 c4, hS, hcal, hl1, hl12⟩ rfl
        · rw [if_neg c4]; exact h
      · rw [if_neg c3]
        by_cases c4 : K = 115
        · rw [if_pos c4]
          by_cases c5 : GD (cN s.1) (vs a).toNat = true
          · rw [if_pos c5]; exact wfS_cfg h ⟨h4, h8, h16, hh, hB, g a (Nat.le_refl _) k2 c5, hcal, hl1, hl12⟩ rfl
          · rw [if_neg c5]; exact h
        · rw [if_neg c4]
          obtain ⟨k51, k52⟩ := k5 (by omega)
          refine wfS_cfg h ⟨h4, h8, h16, hh, hB, hS, fun i hi => ?_, by show 1 ≤ b - a; omega, by show b - a ≤ 12; omega⟩ rfl
          show (if i < b - a then (vs (a + i)).toNat else cC s.1 i) ≤ 2
          by_cases z : i < b - a
          · rw [if_pos z]; obtain ⟨y1, y2⟩ := k52 (a + i) (by omega) (by omega); omega
          · rw [if_neg z]; exact hcal i hi
/-! the class's side -/
theorem suOK_o {σ σ' : St} {o : Nat} {s : Su} {c' : Cf} (h : suOK σ o s) (hc : cfOK σ' o c') (e : ∀ k, 3 ≤ k → k < 16 → σ' (o + k) = σ (o + k)) : suOK σ' o (c', s.2) := by
  refine ⟨hc, ?_, hrOK_cong h.2.2.1 (fun k hk => ?_), hrOK_cong h.2.2.2.1 (fun k hk => ?_), hrOK_cong h.2.2.2.2 (fun k hk => ?_)⟩
  · have := e 3 (by decide) (by decide)
    show ∀ i : Nat, i < 8 → σ' (o + 3) (i : Int) = _
    rw [this]; exact h.2.1
  · rw [Nat.add_assoc]; exact e _ (by omega) (by omega)
  · rw [Nat.add_assoc]; exact e _ (by omega) (by omega)
  · rw [Nat.add_assoc]; exact e _ (by omega) (by omega)
theorem BP16 : ([5, 6, 7, 8, 9, 10, 11, 12, 13, 14, 15, 16, 17, 18, 19, 20] : List Nat) = blk 5 16 := rfl
theorem c_setCall {σ : St} {s : Su} (hs : suOK σ 5 s) (hw : wfS s) {w : Int} (hw12 : w = 1 ∨ w = 2) {v : Int} (hv : B256 v) {post : Int → St → Prop} (h1 : GD (cN s.1) v.toNat = true → ∀ σ' : St, suOK σ' 5 ((cN s.1, cM s.1, cH s.1, (if w = 1 then v else cB s.1), (if w = 1 then cS s.1 else v), cC s.1, cL s.1), s.2) → (∀ d, d < 5 → σ' d = σ d) → post 1 σ') (h0 : ¬ GD (cN s.1) v.toNat = true → post 0 σ) : wp_X5_setCall (pk σ (blk 5 16)) w v (fun r1 τ1 => ∀ σ1 : St, σ1 = mrg σ (blk 5 16) τ1 → ((r1 = 0 ∨ r1 = 1) ∧ post r1 σ1)) := by
  obtain ⟨h4, h8, h16, hh, hB, hS, hcal, hl1, hl12⟩ := id hw.1
  obtain ⟨⟨s0, s2, s3, s4, s6, sch, scal⟩, srest⟩ := id hs
  obtain ⟨n, rfl, hn⟩ := v256 hv
  rw [Int.toNat_natCast] at h1 h0
  unfold wp_X5_setCall
  rw [pk_blk (by decide), show σ (5 + 0) 0 = cN s.1 from s0]
  refine s_isGood h4 h8 hn (ibr (fun c => ?_) (fun c => ?_))
  · have fin : ∀ (τ1 : St), τ1 = up (pk σ (blk 5 16)) 0 (if w = 1 then 3 else 4) (n : Int) → ∀ σ1 : St, σ1 = mrg σ (blk 5 16) τ1 → (((1 : Int) = 0 ∨ (1 : Int) = 1) ∧ post 1 σ1) := by
      intro τ1 e1 σ1 e2
      have q : ∀ k, k < 16 → σ1 (5 + k) = τ1 k := fun k hk => by rw [e2, mrg_blk, if_pos ⟨by omega, by omega⟩, show 5 + k - 5 = k by omega]
      have q0 : σ1 5 = τ1 0 := q 0 (by decide)
      have qn : ∀ k, k < 16 → k ≠ 0 → σ1 (5 + k) = σ (5 + k) := fun k hk h0 => by rw [q k hk, e1, up_ne _ h0, pk_blk hk]
      have p0 : ∀ j : Int, pk σ (blk 5 16) 0 j = σ 5 j := fun j => by rw [pk_blk (by decide)]
      refine ⟨Or.inr rfl, h1 c σ1 (suOK_o hs ⟨?_, ?_, ?_, ?_, ?_, fun i hi => ?_, fun i hi => ?_⟩ (fun k k1 k2 => qn k k2 (by omega))) (fun d hd => by rw [e2, mrg_blk, if_neg (by omega)])⟩
      · rw [q0, e1, up_j _ (by split <;> decide), p0]; exact s0
      · rw [q0, e1, up_j _ (by split <;> decide), p0]; exact s2
      · show σ1 5 3 = (if w = 1 then (n : Int) else cB s.1)
        rw [q0, e1]
        by_cases z : w = 1
        · rw [if_pos z, if_pos z, up_same]
        · rw [if_neg z, if_neg z, up_j _ (by decide), p0]; exact s3
      · show σ1 5 4 = (if w = 1 then cS s.1 else (n : Int))
        rw [q0, e1]
        by_cases z : w = 1
        · rw [if_pos z, if_pos z, up_j _ (by decide), p0]; exact s4
        · rw [if_neg z, if_neg z, up_same]
      · rw [q0, e1, up_j _ (by split <;> decide), p0]; exact s6
      · rw [qn 1 (by decide) (by decide)]; exact sch i hi
      · rw [qn 2 (by decide) (by decide)]; exact scal i hi
    unfold wp_X4_setCalledChange
    refine ⟨by rcases hw12 with e | e <;> rw [e] <;> decide, fun z => ?_, fun z => ?_⟩
    · intro τ1 e1
      exact fin τ1 (by rw [e1, if_neg z])
    · intro τ1 e1
      exact fin τ1 (by rw [e1, if_pos z])
  · intro σ1 e1
    rw [e1, mrg_bpk]
    exact ⟨Or.inl rfl, h0 c⟩
theorem c_doClause {σ : St} {s : Su} (hs : suOK σ 5 s) (hw : wfS s) {K : Int} {a b : Nat} {vs : Nat → Int} (hc : cKd K a b vs) (hv : ∀ i, i < b → σ 4 (i : Int) = vs i) {post : Int → St → Prop} (hp : ∀ σ' : St, suOK σ' 5 (doP s K a b vs).1 → (∀ d, d < 5 → σ' d = σ d) → post (if (doP s K a b vs).2 = true then 1 else 0) σ') : wp_X5_performClause σ K a b post := by
  obtain ⟨h4, h8, h16, hh, hB, hS, hcal, hl1, hl12⟩ := id hw.1
  obtain ⟨⟨s0, s2, s3, s4, s6, sch, scal⟩, srest⟩ := id hs
  obtain ⟨k1, k2, k3, k4, k5, k6⟩ := hc
  unfold doP at hp
  unfold wp_X5_performClause
  have va := hv a k2
  have hva := k6 a (Nat.le_refl _) k2
  refine ⟨?_, fun z => ?_, fun z => ?_, fun z => ?_, fun z => ?_, fun z => ?_⟩
  · rcases k1 with e | e | e | e | e <;> rw [e] <;> decide
  · simp only [if_neg (show ¬ K = 110 by omega), if_neg (show ¬ K = 109 by omega), if_pos z] at hp
    rw [va, BP16]
    refine ⟨by omega, by omega, c_setCall hs hw (Or.inl rfl) hva (fun g σ' q1 q2 => ?_) (fun g => ?_)⟩
    · simp only [if_pos g] at hp
      exact hp σ' q1 q2
    · simp only [if_neg g] at hp
      exact hp σ hs (fun _ _ => rfl)
  · simp only [if_neg (show ¬ K = 110 by omega), if_pos z] at hp
    have hb := k4 z
    -- all of them are good
    have l2 : ∀ (fu i : Nat) (σ1 : St), i ≤ b - a → b - a < i + fu → (alG (cN s.1) vs (b - a) a = true) → (∀ d, d < 5 → σ1 d = σ d) → (∀ d, 7 ≤ d → σ1 d = σ d) → (∀ j : Int, j ≠ 2 → σ1 5 j = σ 5 j) → σ1 5 2 = (i : Int) → (∀ q, q < i → σ1 6 (q : Int) = ((vs (a + q)).toNat : Int)) → wp_X5_setMethod_42 (fun r2 σ2 => ((r2 = 0 ∨ r2 = 1) ∧ post r2 σ2)) fu b ((a + i : Nat) : Int) σ1 := by
      intro fu
      induction fu with
      | zero => intro i σ1 x1 x2; omega
      | succ fu ih =>
        intro i σ1 x1 x2 hg y1 y2 y3 y4 y5
        unfold wp_X5_setMethod_42
        refine ⟨rgn (by omega), rgn (by omega), fun c => ?_, fun c => ?_⟩
        · obtain rfl : i = b - a := by omega
          simp only [if_pos hg] at hp
          refine ⟨Or.inr rfl, hp σ1 (suOK_o hs ⟨?_, y4, ?_, ?_, ?_, fun q hq => y5 q hq, fun q hq => ?_⟩ (fun k z1 z2 => y2 _ (by omega))) y1⟩
          · rw [y3 _ (by decide)]; exact s0
          · rw [y3 _ (by decide)]; exact s3
          · rw [y3 _ (by decide)]; exact s4
          · rw [y3 _ (by decide)]; exact s6
          · rw [y2 (5 + 2) (by decide)]; exact scal q hq
        · rw [y4]
          refine ⟨rgn (by omega), fun c2 => by omega, fun _ => ⟨by omega, by omega, by omega, by omega, ?_⟩⟩
          intro σ2 e2 σ3 e3
          have v4 : σ1 4 ((a + i : Nat) : Int) = vs (a + i) := by rw [y1 4 (by decide)]; exact hv _ (by omega)
          rw [show (((a + i : Nat) : Int) + 1) = ((a + (i + 1) : Nat) : Int) by omega]
          refine ih (i + 1) σ3 (by omega) (by omega) hg (fun d hd => by rw [e3, up_ne _ (by omega), e2, up_ne _ (by omega)]; exact y1 d hd) (fun d hd => by rw [e3, up_ne _ (by omega), e2, up_ne _ (by omega)]; exact y2 d hd) (fun j hj => by rw [e3, up_j _ hj, e2, up_ne _ (by decide)]; exact y3 j hj) ?_ (fun q hq => ?_)
          · rw [e3, up_same, e2, up_ne _ (by decide), y4]; omega
          · rw [e3, up_ne _ (by decide), e2, v4]
            have hq256 := k6 (a + q) (by omega) (by omega)
            by_cases x : q = i
            · rw [x, up_same]; have := k6 (a + i) (by omega) (by omega); have := this.1; omega
            · rw [up_j _ (by omega)]; exact y5 q (by omega)
    have l1 : ∀ (fu i : Nat), i ≤ b - a → b - a < i + fu → alG (cN s.1) vs (b - a - i) (a + i) = alG (cN s.1) vs (b - a) a → wp_X5_setMethod_3 (fun r2 σ2 => ((r2 = 0 ∨ r2 = 1) ∧ post r2 σ2)) fu a b ((a + i : Nat) : Int) σ := by
      intro fu
      induction fu with
      | zero => intro i x1 x2; omega
      | succ fu ih =>
        intro i x1 x2 hg
        unfold wp_X5_setMethod_3
        refine ⟨rgn (by omega), rgn (by omega), fun c => ?_, fun c => ⟨by omega, by omega, ?_⟩⟩
        · obtain rfl : i = b - a := by omega
          rw [Nat.sub_self] at hg
          have hg' : alG (cN s.1) vs (b - a) a = true := hg.symm
          intro σ1 e1
          refine ⟨b - a + 1, l2 (b - a + 1) 0 σ1 (Nat.zero_le _) (by omega) hg' (fun d hd => by rw [e1, up_ne _ (by omega)]) (fun d hd => by rw [e1, up_ne _ (by omega)]) (fun j hj => by rw [e1, up_j _ hj]) (by rw [e1, up_same]; rfl) (fun q hq => absurd hq (Nat.not_lt_zero _))⟩
        · have hi : i < b - a := by omega
          rw [show σ 5 0 = cN s.1 from s0, hv (a + i) (by omega)]
          obtain ⟨n, en, hn⟩ := v256 (k6 (a + i) (by omega) (by omega))
          obtain ⟨m, hm⟩ : ∃ m, b - a - i = m + 1 := ⟨b - a - i - 1, by omega⟩
          rw [hm, alG_s] at hg
          rw [en, Int.toNat_natCast] at hg
          rw [en]
          refine s_isGood h4 h8 hn (ibr (fun c2 => ?_) (fun c2 => ?_))
          · rw [if_pos c2] at hg
            rw [show (((a + i : Nat) : Int) + 1) = ((a + (i + 1) : Nat) : Int) by omega]
            refine ih (i + 1) (by omega) (by omega) ?_
            rw [show b - a - (i + 1) = m by omega]; exact hg
          · rw [if_neg c2] at hg
            have hgf : ¬ alG (cN s.1) vs (b - a) a = true := by rw [← hg]; decide
            simp only [if_neg hgf] at hp
            exact ⟨Or.inl rfl, hp σ hs (fun _ _ => rfl)⟩
    exact ⟨b - a + 1, l1 (b - a + 1) 0 (Nat.zero_le _) (by omega) (by rw [Nat.sub_zero, Nat.add_zero])⟩
  · simp only [if_pos z] at hp
    rw [va, BP16]
    refine ⟨by omega, by omega, ?_⟩
    unfold wp_X5_beginBells
    have no : ¬ (4 ≤ vs a ∧ vs a ≤ 8) → ∀ σ1 : St, σ1 = mrg σ (blk 5 16) (pk σ (blk 5 16)) → (((0 : Int) = 0 ∨ (0 : Int) = 1) ∧ post 0 σ1) := fun g σ1 e1 => by
      rw [e1, mrg_bpk]
      simp only [if_neg g] at hp
      exact ⟨Or.inl rfl, hp σ hs (fun _ _ => rfl)⟩
    have hrg : rg (vs a) := ⟨by have := hva.1; omega, by have := hva.2; omega⟩
    refine ⟨hrg, fun c => no (by omega), fun c => ⟨hrg, fun c2 => ?_, fun c2 => no (by omega)⟩⟩
    simp only [if_pos (show 4 ≤ vs a ∧ vs a ≤ 8 from ⟨by omega, c2⟩)] at hp
    obtain ⟨n, en, hn⟩ := v256 hva
    rw [en] at hp ⊢
    rw [Int.toNat_natCast] at hp
    refine s_begin (fun τ1 t1 t2 => ?_)
    intro σ1 e1
    refine ⟨Or.inr rfl, hp σ1 (suOK_cong t1 (fun k hk => ?_)) (fun d hd => by rw [e1, mrg_blk, if_neg (by omega)])⟩
    rw [e1, mrg_blk, if_pos ⟨by omega, by omega⟩, show 5 + k - 5 = 0 + k by omega]
  · simp only [if_neg (show ¬ K = 110 by omega), if_neg (show ¬ K = 109 by omega), if_neg (show ¬ K = 98 by omega), if_pos z] at hp
    rw [va, BP16]
    refine ⟨by omega, by omega, c_setCall hs hw (Or.inr rfl) hva (fun g σ' q1 q2 => ?_) (fun g => ?_)⟩
    · simp only [if_pos g] at hp
      exact hp σ' q1 q2
    · simp only [if_neg g] at hp
      exact hp σ hs (fun _ _ => rfl)
  · simp only [if_neg (show ¬ K = 110 by omega), if_neg (show ¬ K = 109 by omega), if_neg (show ¬ K = 98 by omega), if_neg (show ¬ K = 115 by omega)] at hp
    obtain ⟨k51, k52⟩ := k5 (by omega)
    intro σ0 e0
    have l2 : ∀ (fu i : Nat) (σ1 : St), i ≤ b - a → b - a < i + fu → (∀ d, d < 5 → σ1 d = σ d) → (∀ d, d = 6 ∨ 8 ≤ d → σ1 d = σ d) → (∀ j : Int, j ≠ 6 → σ1 5 j = σ 5 j) → σ1 5 6 = (i : Int) → (∀ q : Nat, q < 12 → σ1 7 (q : Int) = ((if q < i then (vs (a + q)).toNat else cC s.1 q : Nat) : Int)) → wp_X5_setLeads_8 (fun r2 σ2 => ((r2 = 0 ∨ r2 = 1) ∧ post r2 σ2)) fu b ((a + i : Nat) : Int) σ1 := by
      intro fu
      induction fu with
      | zero => intro i σ1 x1 x2; omega
      | succ fu ih =>
        intro i σ1 x1 x2 y1 y2 y3 y4 y5
        unfold wp_X5_setLeads_8
        refine ⟨rgn (by omega), rgn (by omega), fun c => ?_, fun c => ?_⟩
        · obtain rfl : i = b - a := by omega
          refine ⟨Or.inr rfl, hp σ1 (suOK_o hs ⟨?_, ?_, ?_, ?_, y4, fun q hq => ?_, fun q hq => y5 q hq⟩ (fun k z1 z2 => y2 _ (by omega))) y1⟩
          · rw [y3 _ (by decide)]; exact s0
          · rw [y3 _ (by decide)]; exact s2
          · rw [y3 _ (by decide)]; exact s3
          · rw [y3 _ (by decide)]; exact s4
          · rw [y2 (5 + 1) (by decide)]; exact sch q hq
        · rw [y4]
          refine ⟨rgn (by omega), fun c2 => by omega, fun _ => ⟨by omega, by omega, by omega, by omega, ?_⟩⟩
          intro σ2 e2 σ3 e3
          have v4 : σ1 4 ((a + i : Nat) : Int) = vs (a + i) := by rw [y1 4 (by decide)]; exact hv _ (by omega)
          rw [show (((a + i : Nat) : Int) + 1) = ((a + (i + 1) : Nat) : Int) by omega]
          refine ih (i + 1) σ3 (by omega) (by omega) (fun d hd => by rw [e3, up_ne _ (by omega), e2, up_ne _ (by omega)]; exact y1 d hd) (fun d hd => by rw [e3, up_ne _ (by omega), e2, up_ne _ (by omega)]; exact y2 d hd) (fun j hj => by rw [e3, up_j _ hj, e2, up_ne _ (by decide)]; exact y3 j hj) ?_ (fun q hq => ?_)
          · rw [e3, up_same, e2, up_ne _ (by decide), y4]; omega
          · rw [e3, up_ne _ (by decide), e2, v4]
            by_cases x : q = i
            · have := (k6 (a + i) (by omega) (by omega)).1
              rw [x, up_same, if_pos (by omega)]; omega
            · rw [up_j _ (by omega), y5 q hq]
              by_cases x3 : q < i
              · rw [if_pos x3, if_pos (by omega)]
              · rw [if_neg x3, if_neg (by omega)]
    refine ⟨b - a + 1, l2 (b - a + 1) 0 σ0 (Nat.zero_le _) (by omega) (fun d hd => by rw [e0, up_ne _ (by omega)]) (fun d hd => by rw [e0, up_ne _ (by omega)]) (fun j hj => by rw [e0, up_j _ hj]) (by rw [e0, up_same]; rfl) (fun q hq => ?_)⟩
    rw [e0, up_ne _ (by decide), if_neg (Nat.not_lt_zero _)]; exact scal q hq
