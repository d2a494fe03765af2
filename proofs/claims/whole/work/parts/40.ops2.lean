theorem ibr {P : Prop} [Decidable P] {A B : Prop} (h1 : P → A) (h2 : ¬ P → B) : rg (if P then 1 else 0) ∧ (¬ (if P then (1 : Int) else 0) = 0 → A) ∧ ((if P then (1 : Int) else 0) = 0 → B) := by
  by_cases h : P
  · rw [if_pos h]; exact ⟨by decide, fun _ => h1 h, fun z => absurd z (by decide)⟩
  · rw [if_neg h]; exact ⟨by decide, fun z => absurd rfl z, fun _ => h2 h⟩
theorem ibs {P : Prop} [Decidable P] {A B : Prop} (h1 : P → A) (h2 : ¬ P → B) : rg (if P then 1 else 0) ∧ ((if P then (1 : Int) else 0) = 0 → B) ∧ (¬ (if P then (1 : Int) else 0) = 0 → A) := ⟨(ibr h1 h2).1, (ibr h1 h2).2.2, (ibr h1 h2).2.1⟩
theorem i01 {P : Prop} [Decidable P] : (if P then (1 : Int) else 0) = 0 ∨ (if P then (1 : Int) else 0) = 1 := by by_cases h : P <;> simp [h]
theorem cfOK_cong3 {σ σ' : St} {o o' : Nat} {c : Cf} (h : cfOK σ o c) (e0 : σ' o' = σ o) (e1 : σ' (o' + 1) = σ (o + 1)) (e2 : σ' (o' + 2) = σ (o + 2)) : cfOK σ' o' c := by
  unfold cfOK at *
  rw [e0, e1, e2]; exact h
theorem mcOK_cong {f f' : Int → Int} {c : Cf} (h : mcOK f c) (hM : cM c ≤ 16) (e : ∀ j : Int, 0 ≤ j → j < 36 → ¬ (5 ≤ j ∧ j < 8) → f' j = f j) : mcOK f' c := by
  obtain ⟨a0, a1, a2, a3, a4, a5, a6⟩ := h
  refine ⟨?_, ?_, ?_, ?_, ?_, fun i hi => ?_, fun i hi => ?_⟩
  · rw [e _ (by decide) (by decide) (by decide)]; exact a0
  · rw [e _ (by decide) (by decide) (by decide)]; exact a1
  · rw [e _ (by decide) (by decide) (by decide)]; exact a2
  · rw [e _ (by decide) (by decide) (by decide)]; exact a3
  · rw [e _ (by decide) (by decide) (by decide)]; exact a4
  · rw [e _ (by omega) (by omega) (by omega)]; exact a5 i hi
  · rw [e _ (by omega) (by omega) (by omega)]; exact a6 i hi
/-- the set-up's config changes -/
theorem RRc {s : Su} {c' : Cf} {σ τ σ1 τ' : St} (h : RR s σ τ) (hw : wfC c') (hn : cN c' = cN s.1) (hc : cfOK σ1 1 c') (e : ∀ k, k = 0 ∨ 4 ≤ k → σ1 k = σ k) (hm : mcOK (τ' 1) c') (em : ∀ j : Int, (5 ≤ j ∧ j < 8) ∨ 36 ≤ j → τ' 1 j = τ 1 j) (et : ∀ d, d ≠ 1 → τ' d = τ d) : RR (c', s.2) (up σ1 0 9 1) τ' := by
  refine RR_put h (wfS_cfg h.1 hw hn) (suOK_cfg h.2.1 (cfOK_cong hc (fun k hk => by rw [up_ne _ (by omega)])) (fun k h1 h2 => by rw [up_ne _ (by omega), e k (by omega)])) (moOK_cfg h.2.2.1 hm em) (by rw [up_same]) (by rw [up_j _ (by decide), e 0 (by omega)]) (fun k hk => by rw [up_ne _ (by omega), e k (by omega)]) (fun j _ => by rw [et 0 (by decide)]) (fun d hd => et d (by omega))
theorem mc_set {f : Int → Int} {c : Cf} (h : mcOK f c) (j : Int) (x : Int) (hj : j = 2 ∨ j = 3) : mcOK (fun j' => if j' = j then x else f j') (cN c, cM c, cH c, (if j = 2 then x else cB c), (if j = 3 then x else cS c), cC c, cL c) := by
  obtain ⟨a0, a1, a2, a3, a4, a5, a6⟩ := h
  refine ⟨?_, ?_, ?_, ?_, ?_, fun i hi => ?_, fun i hi => ?_⟩
  · simp only []; rw [if_neg (by omega)]; exact a0
  · simp only []; rw [if_neg (by omega)]; exact a1
  · rcases hj with e | e
    · subst e; rfl
    · subst e; exact a2
  · rcases hj with e | e
    · subst e; exact a3
    · subst e; rfl
  · simp only []; rw [if_neg (by omega)]; exact a4
  · simp only []; rw [if_neg (by omega)]; exact a5 i hi
  · simp only []; rw [if_neg (by omega)]; exact a6 i hi
theorem op_calls {s : Su} {σ τ : St} (h : RR s σ τ) {v w : Int} (hv : rg v) (hw : rg w) {K : Kt} (hk : ∀ s' σ' τ', RR s' σ' τ' → K σ' τ') : wp_X8_calls σ v w (fun r1 σ1 => wp_X9_calls τ v w (fun r2 τ1 => An K r1 r2 σ1 τ1)) := by
  have hK := hk s σ τ h
  obtain ⟨s0, s2, s3, s4, s6, sch, scal⟩ := id h.2.1.1
  have m := h.2.2.1.1
  have m0 := m.1
  obtain ⟨h4, h8, h16, hh, hB, hS, hcal, hl1, hl12⟩ := id h.1.1
  have hp2 := p2_le h8
  have hgood : ∀ pl : Nat, (pl : Int) = w → 0 ≤ w ∧ w < ((2 ^ cN s.1 : Nat) : Int) → pl < 2 ^ cN s.1 := fun pl e c => by omega
  -- the change is taken
  have key : (v = 1 ∨ v = 2) → chOK (cN s.1) w → ∀ (hm : wp_X9_calls_43 (fun r2 τ1 => An K (if (if v = 1 then cB s.1 else cS s.1) = -1 then 0 else 1) r2 (up (mrg σ (blk 1 16) (up (pk σ (blk 1 16)) 0 (if v = 1 then 3 else 4) w)) 0 9 1) τ1) v w τ → wp_X9_calls τ v w (fun r2 τ1 => An K (if (if v = 1 then cB s.1 else cS s.1) = -1 then 0 else 1) r2 (up (mrg σ (blk 1 16) (up (pk σ (blk 1 16)) 0 (if v = 1 then 3 else 4) w)) 0 9 1) τ1)), wp_X8_calls_45 (fun r1 σ1 => wp_X9_calls τ v w (fun r2 τ1 => An K r1 r2 σ1 τ1)) v w σ := by
    intro hv12 hch hm
    have hx : rg (if v = 1 then cB s.1 else cS s.1) := by split <;> exact chOK_rg (by assumption)
    have fin : wp_X9_calls τ v w (fun r2 τ1 => An K (if (if v = 1 then cB s.1 else cS s.1) = -1 then 0 else 1) r2 (up (mrg σ (blk 1 16) (up (pk σ (blk 1 16)) 0 (if v = 1 then 3 else 4) w)) 0 9 1) τ1) := by
      refine hm ?_
      unfold wp_X9_calls_43
      refine s_becomes (by omega) (by omega) ?_
      have hq : τ 1 (1 + v) = (if v = 1 then cB s.1 else cS s.1) := by
        rcases hv12 with e | e
        · subst e; exact m.2.2.1
        · subst e; exact m.2.2.2.1
      rw [hq]
      have hR : RR ((cN s.1, cM s.1, cH s.1, (if (1 + v) = 2 then w else cB s.1), (if (1 + v) = 3 then w else cS s.1), cC s.1, cL s.1), s.2) (up (mrg σ (blk 1 16) (up (pk σ (blk 1 16)) 0 (if v = 1 then 3 else 4) w)) 0 9 1) (up τ 1 (1 + v) w) := by
        refine RRc h ⟨h4, h8, h16, hh, ?_, ?_, hcal, hl1, hl12⟩ rfl ⟨?_, ?_, ?_, ?_, ?_, fun i hi => ?_, fun i hi => ?_⟩ (fun k hk => ?_) ?_ (fun j hj => ?_) (fun d hd => ?_)
        · show chOK (cN s.1) (if (1 + v) = 2 then w else cB s.1)
          split
          · exact hch
          · exact hB
        · show chOK (cN s.1) (if (1 + v) = 3 then w else cS s.1)
          split
          · exact hch
          · exact hS
        · rw [mrg_blk, if_pos (by decide), up_j _ (by split <;> decide), pk_blk (by decide)]; exact s0
        · rw [mrg_blk, if_pos (by decide), up_j _ (by split <;> decide), pk_blk (by decide)]; exact s2
        · show _ = (if (1 + v) = 2 then w else cB s.1)
          rw [mrg_blk, if_pos (by decide)]
          rcases hv12 with e | e
          · subst e; exact up_same
          · subst e; exact (up_j _ (by decide)).trans s3
        · show _ = (if (1 + v) = 3 then w else cS s.1)
          rw [mrg_blk, if_pos (by decide)]
          rcases hv12 with e | e
          · subst e; exact (up_j _ (by decide)).trans s4
          · subst e; exact up_same
        · rw [mrg_blk, if_pos (by decide), up_j _ (by split <;> decide), pk_blk (by decide)]; exact s6
        · rw [mrg_blk, if_pos (by decide), up_c _ _ (by decide), pk_blk (by decide)]; exact sch i hi
        · rw [mrg_blk, if_pos (by decide), up_c _ _ (by decide), pk_blk (by decide)]; exact scal i hi
        · rw [mrg_blk]
          by_cases z : 1 ≤ k ∧ k < 1 + 16
          · rw [if_pos z, up_ne _ (by omega), pk_blk (by omega)]; congr 1; omega
          · rw [if_neg z]
        · rw [up_cell]; exact mc_set m _ _ (by omega)
        · rw [up_j _ (by omega)]
        · rw [up_ne _ hd]
      refine ⟨hx, fun c => ?_, fun c => ?_⟩
      · rw [if_neg c]; exact An_same (by decide) (hk _ _ _ hR)
      · rw [if_pos c]; exact An_same (by decide) (hk _ _ _ hR)
    unfold wp_X8_calls_45
    have hcc : pk σ (blk 1 16) 0 3 = cB s.1 ∧ pk σ (blk 1 16) 0 4 = cS s.1 := by
      rw [pk_blk (by decide)]; exact ⟨s3, s4⟩
    have fin2 : ∀ r : Int, r = (if v = 1 then cB s.1 else cS s.1) → wp_X4_setCalledChange (pk σ (blk 1 16)) v w (fun τ2 => ∀ σ2 : St, σ2 = mrg σ (blk 1 16) τ2 → (∀ σ3 : St, σ3 = up σ2 0 9 1 → (rg r ∧ (¬ r = (-1) → wp_X9_calls τ v w (fun r2 τ1 => An K 1 r2 σ3 τ1)) ∧ (r = (-1) → wp_X9_calls τ v w (fun r2 τ1 => An K 0 r2 σ3 τ1))))) := by
      intro r hr
      unfold wp_X4_setCalledChange
      have go : ∀ σ3 : St, σ3 = up (mrg σ (blk 1 16) (up (pk σ (blk 1 16)) 0 (if v = 1 then 3 else 4) w)) 0 9 1 → (rg r ∧ (¬ r = (-1) → wp_X9_calls τ v w (fun r2 τ1 => An K 1 r2 σ3 τ1)) ∧ (r = (-1) → wp_X9_calls τ v w (fun r2 τ1 => An K 0 r2 σ3 τ1))) := by
        intro σ3 e3
        rw [e3]
        refine ⟨by rw [hr]; exact hx, fun c => ?_, fun c => ?_⟩
        · rw [← hr, if_neg c] at fin; exact fin
        · rw [← hr, if_pos c] at fin; exact fin
      refine ⟨hv, fun c => ?_, fun c => ?_⟩
      · intro σ1 e1 σ2 e2 σ3 e3
        refine go σ3 ?_
        rw [e3, e2, e1, if_neg c]
      · intro σ1 e1 σ2 e2 σ3 e3
        refine go σ3 ?_
        rw [e3, e2, e1, if_pos c]
    refine ⟨hv, fun c => ?_, fun c => ?_, fun c => by omega⟩
    · exact fin2 _ (by rw [if_pos c]; exact hcc.1)
    · exact fin2 _ (by rw [if_neg (by omega)]; exact hcc.2)
  have key12 : (v = 1 ∨ v = 2) → wp_X8_calls_12 (fun r1 σ1 => wp_X9_calls τ v w (fun r2 τ1 => An K r1 r2 σ1 τ1)) v w σ := by
    intro hv12
    unfold wp_X8_calls_12
    refine ⟨hw, fun c => ?_, fun c => ?_⟩
    · refine key hv12 (Or.inl c) (fun hm => ?_)
      unfold wp_X9_calls
      refine s_within hv (by decide) (by decide) (ibr (fun _ => ⟨hw, fun _ => ?_, fun z => absurd c z⟩) (fun z => by omega))
      exact ⟨hw, fun _ => hm, fun z => absurd c z⟩
    · refine s_isPlaces h8 s0 hw (ibr (fun c2 => ?_) (fun c2 => ?_))
      · obtain ⟨pl, rfl, -, hpl⟩ := natOf (v := w) (a := 0) (b := 2 ^ cN s.1 - 1) (by omega) (by generalize 2 ^ cN s.1 = z at *; omega)
        have hpl2 := hgood pl rfl c2
        rw [s0]
        refine s_isGood h4 h8 (by omega) (ibr (fun c3 => ?_) (fun c3 => ?_))
        · refine key hv12 (Or.inr ⟨pl, rfl, by omega, c3⟩) (fun hm => ?_)
          unfold wp_X9_calls
          refine s_within hv (by decide) (by decide) (ibr (fun _ => ⟨hw, fun z => absurd z c, fun _ => ?_⟩) (fun z => by omega))
          refine s_areKept h8 m0 hw (ibr (fun _ => ⟨hw, fun z => absurd z c, fun _ => ?_⟩) (fun z => absurd c2 z))
          refine s_misGood h8 (by omega) m0 (ibr (fun _ => hm) (fun z => ?_))
          rw [← GD_lt hpl2] at z; exact absurd c3 z
        · unfold wp_X9_calls
          refine s_within hv (by decide) (by decide) (ibr (fun _ => ⟨hw, fun z => absurd z c, fun _ => ?_⟩) (fun z => by omega))
          refine s_areKept h8 m0 hw (ibr (fun _ => ⟨hw, fun z => absurd z c, fun _ => ?_⟩) (fun z => absurd c2 z))
          refine s_misGood h8 (by omega) m0 (ibr (fun z => ?_) (fun _ => An_same (by decide) hK))
          rw [← GD_lt hpl2] at z; exact absurd z c3
      · unfold wp_X9_calls
        refine s_within hv (by decide) (by decide) (ibr (fun _ => ⟨hw, fun z => absurd z c, fun _ => ?_⟩) (fun z => by omega))
        exact s_areKept h8 m0 hw (ibr (fun z => absurd z c2) (fun _ => An_same (by decide) hK))
  unfold wp_X8_calls
  refine ⟨hv, fun c => key12 (Or.inl c), fun c => ⟨hv, fun c2 => key12 (Or.inr c2), fun c2 => ?_⟩⟩
  unfold wp_X9_calls
  exact s_within hv (by decide) (by decide) (ibr (fun z => by omega) (fun _ => An_same (by decide) hK))
theorem op_call {s : Su} {σ τ : St} (h : RR s σ τ) {v w : Int} (hv : rg v) (hw : rg w) {K : Kt} (hk : ∀ s' σ' τ', RR s' σ' τ' → K σ' τ') : wp_X8_call σ v w (fun r1 σ1 => wp_X9_call τ v w (fun r2 τ1 => An K r1 r2 σ1 τ1)) := by
  have hK := hk s σ τ h
  obtain ⟨s0, s2, s3, s4, s6, sch, scal⟩ := id h.2.1.1
  obtain ⟨m0, m1, m2, m3, m4, mch, mcal⟩ := id h.2.2.1.1
  obtain ⟨h4, h8, h16, hh, hB, hS, hcal, hl1, hl12⟩ := id h.1.1
  have bad : (0 ≤ v ∧ v ≤ 11) → ¬ (0 ≤ w ∧ w ≤ 2) → wp_X9_call τ v w (fun r2 τ1 => An K (-2) r2 σ τ1) := fun c c2 => by
    unfold wp_X9_call
    refine s_within hv (by decide) (by decide) (ibr (fun _ => ?_) (fun z => absurd c z))
    exact s_within hw (by decide) (by decide) (ibs (fun z => absurd z c2) (fun _ => An_same (by decide) hK))
  unfold wp_X8_call
  refine s_isLead hv (ibr (fun c => ⟨hw, fun c2 => bad c (by omega), fun c2 => ⟨hw, fun c3 => ⟨by omega, by omega, by omega, by omega, ?_⟩, fun c3 => bad c (by omega)⟩⟩) (fun c => ?_))
  · intro σ2 e2 σ3 e3
    unfold wp_X9_call
    refine s_within hv (by decide) (by decide) (ibr (fun _ => ?_) (fun z => absurd c z))
    refine s_within hw (by decide) (by decide) (ibs (fun _ => ?_) (fun z => absurd (show 0 ≤ w ∧ w ≤ 2 by omega) z))
    refine s_becomes (by omega) (by omega) ?_
    obtain ⟨i, rfl, -, hi⟩ := natOf (v := v) (a := 0) (b := 11) (by omega) (by omega)
    obtain ⟨x, rfl, -, hx⟩ := natOf (v := w) (a := 0) (b := 2) (by omega) (by omega)
    have q1 := scal i (by omega)
    have q2 := mcal i (by omega)
    rw [q1, q2, e3, e2]
    refine An_same (rgn (by have := hcal i (by omega); omega)) (hk ((cN s.1, cM s.1, cH s.1, cB s.1, cS s.1, (fun j => if j = i then x else cC s.1 j), cL s.1), s.2) _ _ (RRc h ⟨h4, h8, h16, hh, hB, hS, fun j hj => ?_, hl1, hl12⟩ rfl ⟨?_, ?_, ?_, ?_, ?_, fun j hj => ?_, fun j hj => ?_⟩ (fun k hk => ?_) ⟨?_, ?_, ?_, ?_, ?_, fun j hj => ?_, fun j hj => ?_⟩ (fun j hj => ?_) (fun d hd => ?_)))
    · show (if j = i then x else cC s.1 j) ≤ 2
      split
      · exact hx
      · exact hcal j hj
    · rw [up_c _ _ (by decide)]; exact s0
    · rw [up_c _ _ (by decide)]; exact s2
    · rw [up_c _ _ (by decide)]; exact s3
    · rw [up_c _ _ (by decide)]; exact s4
    · rw [up_c _ _ (by decide)]; exact s6
    · rw [up_c _ _ (by decide)]; exact sch j hj
    · show up σ 3 (i : Int) (x : Int) 3 (j : Int) = ((if j = i then x else cC s.1 j : Nat) : Int)
      by_cases z : j = i
      · rw [if_pos z, z, up_same]
      · rw [if_neg z, up_j _ (by omega)]; exact scal j hj
    · rw [up_ne _ (by omega)]
    · rw [up_j _ (by omega)]; exact m0
    · rw [up_j _ (by omega)]; exact m1
    · rw [up_j _ (by omega)]; exact m2
    · rw [up_j _ (by omega)]; exact m3
    · rw [up_j _ (by omega)]; exact m4
    · rw [up_j _ (by have : j < cM s.1 := hj; omega)]; exact mch j hj
    · show up τ 1 (24 + (i : Int)) (x : Int) 1 (24 + (j : Int)) = ((if j = i then x else cC s.1 j : Nat) : Int)
      by_cases z : j = i
      · rw [if_pos z, z, up_same]
      · rw [if_neg z, up_j _ (by omega)]; exact mcal j hj
    · rw [up_j _ (by omega)]
    · rw [up_ne _ hd]
  · unfold wp_X9_call
    exact s_within hv (by decide) (by decide) (ibr (fun z => absurd z c) (fun _ => An_same (by decide) hK))
theorem op_leads {s : Su} {σ τ : St} (h : RR s σ τ) {v : Int} (hv : rg v) {K : Kt} (hk : ∀ s' σ' τ', RR s' σ' τ' → K σ' τ') : wp_X8_leads σ v (fun r1 σ1 => wp_X9_leads τ v (fun r2 τ1 => An K r1 r2 σ1 τ1)) := by
  have hK := hk s σ τ h
  obtain ⟨s0, s2, s3, s4, s6, sch, scal⟩ := id h.2.1.1
  obtain ⟨m0, m1, m2, m3, m4, mch, mcal⟩ := id h.2.2.1.1
  obtain ⟨h4, h8, h16, hh, hB, hS, hcal, hl1, hl12⟩ := id h.1.1
  have bad : ¬ (1 ≤ v ∧ v ≤ 12) → wp_X9_leads τ v (fun r2 τ1 => An K (-2) r2 σ τ1) := fun c => by
    unfold wp_X9_leads
    exact s_within hv (by decide) (by decide) (ibs (fun z => absurd z c) (fun _ => An_same (by decide) hK))
  unfold wp_X8_leads
  refine ⟨hv, fun c => bad (by omega), fun c => ⟨hv, fun c2 => ?_, fun c2 => bad (by omega)⟩⟩
  intro σ1 e1 σ2 e2
  unfold wp_X9_leads
  refine s_within hv (by decide) (by decide) (ibs (fun _ => ?_) (fun z => absurd (show 1 ≤ v ∧ v ≤ 12 by omega) z))
  refine s_becomes (by decide) (by decide) ?_
  obtain ⟨x, rfl, hx1, hx⟩ := natOf (v := v) (a := 1) (b := 12) (by omega) (by omega)
  rw [s6, m4, e2, e1]
  refine An_same (rgn (by omega)) (hk ((cN s.1, cM s.1, cH s.1, cB s.1, cS s.1, cC s.1, x), s.2) _ _ (RRc h ⟨h4, h8, h16, hh, hB, hS, hcal, hx1, hx⟩ rfl ⟨?_, ?_, ?_, ?_, ?_, fun j hj => ?_, fun j hj => ?_⟩ (fun k hk => ?_) ⟨?_, ?_, ?_, ?_, ?_, fun j hj => ?_, fun j hj => ?_⟩ (fun j hj => ?_) (fun d hd => ?_)))
  · rw [up_j _ (by decide)]; exact s0
  · rw [up_j _ (by decide)]; exact s2
  · rw [up_j _ (by decide)]; exact s3
  · rw [up_j _ (by decide)]; exact s4
  · exact up_same
  · rw [up_c _ _ (by decide)]; exact sch j hj
  · rw [up_c _ _ (by decide)]; exact scal j hj
  · rw [up_ne _ (by omega)]
  · rw [up_j _ (by omega)]; exact m0
  · rw [up_j _ (by omega)]; exact m1
  · rw [up_j _ (by omega)]; exact m2
  · rw [up_j _ (by omega)]; exact m3
  · exact up_same
  · rw [up_j _ (by omega)]; exact mch j hj
  · rw [up_j _ (by omega)]; exact mcal j hj
  · rw [up_j _ (by omega)]
  · rw [up_ne _ hd]
theorem op_pattern {s : Su} {σ τ : St} (h : RR s σ τ) {v w : Int} (hv : rg v) (hw : rg w) {K : Kt} (hk : ∀ s' σ' τ', RR s' σ' τ' → K σ' τ') : wp_X8_pattern σ v w (fun r1 σ1 => wp_X9_pattern τ v w (fun r2 τ1 => An K r1 r2 σ1 τ1)) := by
  have hK := hk s σ τ h
  have hwf := h.1
  obtain ⟨sc, sp, sse, sev, sbk⟩ := id h.2.1
  obtain ⟨mc, m5, m6, m7, mp, mse, mev, mbk⟩ := id h.2.2.1
  have b1 : ¬ (1 ≤ v ∧ v ≤ 8) → wp_X9_pattern τ v w (fun r2 τ1 => An K (-1) r2 σ τ1) := fun c => by
    unfold wp_X9_pattern
    exact s_within hv (by decide) (by decide) (ibr (fun z => absurd z c) (fun _ => An_same (by decide) hK))
  have b2 : (1 ≤ v ∧ v ≤ 8) → ¬ (0 ≤ w ∧ w ≤ 8) → wp_X9_pattern τ v w (fun r2 τ1 => An K (-2) r2 σ τ1) := fun c c2 => by
    unfold wp_X9_pattern
    refine s_within hv (by decide) (by decide) (ibr (fun _ => ?_) (fun z => absurd c z))
    exact s_within hw (by decide) (by decide) (ibs (fun z => absurd z c2) (fun _ => An_same (by decide) hK))
  unfold wp_X8_pattern
  refine ⟨hv, fun c => b1 (by omega), fun c => ⟨hv, fun c2 => ⟨hw, fun c3 => b2 (by omega) (by omega), fun c3 => ⟨hw, fun c4 => ⟨by omega, by omega, by omega, by omega, ?_⟩, fun c4 => b2 (by omega) (by omega)⟩⟩, fun c2 => b1 (by omega)⟩⟩
  intro σ1 e1
  unfold wp_X9_pattern
  refine s_within hv (by decide) (by decide) (ibr (fun _ => ?_) (fun z => absurd (show 1 ≤ v ∧ v ≤ 8 by omega) z))
  refine s_within hw (by decide) (by decide) (ibs (fun _ => ?_) (fun z => absurd (show 0 ≤ w ∧ w ≤ 8 by omega) z))
  refine s_becomes (by omega) (by omega) ?_
  obtain ⟨i, hi1, -, hi⟩ := natOf (v := v - 1) (a := 0) (b := 7) (by omega) (by omega)
  obtain ⟨x, rfl, -, hx⟩ := natOf (v := w) (a := 0) (b := 8) (by omega) (by omega)
  have q1 : σ 4 (i : Int) = sP s i := sp i (by omega)
  have q2 := mp i (by omega)
  have hi2 : 36 + v - 1 = 36 + (i : Int) := by omega
  rw [hi1] at e1 ⊢
  rw [hi2, q1, q2, e1]
  refine An_same (rgn (by have := hwf.2.1 i (by omega); omega)) (hk (s.1, (fun j => if j = i then x else sP s j), s.2.2) _ _ (RR_put2 h ⟨hwf.1, fun j hj => ?_, hwf.2.2⟩ rfl ⟨cfOK_cong3 sc (by rw [up_ne _ (by decide)]) (by rw [up_ne _ (by decide)]) (by rw [up_ne _ (by decide)]), fun j hj => ?_, hrOK_cong sse (fun k hk => ?_), hrOK_cong sev (fun k hk => ?_), hrOK_cong sbk (fun k hk => ?_)⟩ ?_ (fun j => ?_) (fun k hk => ?_) (fun j hj => ?_) (fun d hd => ?_)))
  · show (if j = i then x else sP s j) ≤ 8
    split
    · exact hx
    · exact hwf.2.1 j hj
  · show up σ 4 (i : Int) (x : Int) 4 (j : Int) = ((if j = i then x else sP s j : Nat) : Int)
    by_cases z : j = i
    · rw [if_pos z, z, up_same]
    · rw [if_neg z, up_j _ (by omega)]; exact sp j hj
  · rw [up_ne _ (by omega)]
  · rw [up_ne _ (by omega)]
  · rw [up_ne _ (by omega)]
  · refine ⟨mcOK_cong mc hwf.1.2.2.1 (fun j h1 h2 h3 => up_j _ (by omega)), ?_, ?_, ?_, fun j hj => ?_, fun j hj => ?_, fun j hj => ?_, fun j hj => ?_⟩
    · rw [up_j _ (by omega)]; exact m5
    · rw [up_j _ (by omega)]; exact m6
    · rw [up_j _ (by omega)]; exact m7
    · show up τ 1 (36 + (i : Int)) (x : Int) 1 (36 + (j : Int)) = ((if j = i then x else sP s j : Nat) : Int)
      by_cases z : j = i
      · rw [if_pos z, z, up_same]
      · rw [if_neg z, up_j _ (by omega)]; exact mp j hj
    · rw [up_j _ (by omega), up_j _ (by omega), up_j _ (by omega)]; exact mse j hj
    · rw [up_j _ (by omega), up_j _ (by omega)]; exact mev j hj
    · rw [up_j _ (by omega), up_j _ (by omega)]; exact mbk j hj
  · rw [up_c _ _ (by decide)]
  · rw [up_ne _ (by omega)]
  · rw [up_c _ _ (by decide)]
  · rw [up_ne _ (by omega)]

theorem mrg_bpk {σ : St} {o l : Nat} : mrg σ (blk o l) (pk σ (blk o l)) = σ := by
  funext c
  rw [mrg_blk]
  by_cases z : o ≤ c ∧ c < o + l
  · rw [if_pos z, pk_blk (by omega)]; congr 1; omega
  · rw [if_neg z]
abbrev hps (v : Hv) (a b c : Nat) : Hv := (v.1 + 1, (fun i => if i = v.1 then a else v.2.1 i), (fun i => if i = v.1 then b else v.2.2.1 i), (fun i => if i = v.1 then c else v.2.2.2 i))
theorem s_hpush {N : Nat} {σ : St} {o : Nat} {v : Hv} (hN : N < 1000) (h : hrOK σ o v) (hs : v.1 ≤ N) (a b c : Nat) {post : Int → St → Prop} (h1 : v.1 = N → post 0 σ) (h2 : v.1 < N → ∀ σ' : St, hrOK σ' o (hps v a b c) → (∀ j : Int, j ≠ 3 → σ' o j = σ o j) → (∀ k, k < o ∨ o + 4 ≤ k → σ' k = σ k) → post 1 σ') : wp_X1_append N (pk σ (blk o 4)) a b c (fun r τ => ∀ σ1 : St, σ1 = mrg σ (blk o 4) τ → post r σ1) := by
  refine s_append (sz := v.1) hN (by rw [pk_blk (by decide)]; exact h.1) hs (fun e => ?_) (fun e τ t0 tj t1 t2 t3 t4 => ?_)
  · intro σ1 e1
    rw [e1, mrg_bpk]; exact h1 e
  · intro σ1 e1
    have g : ∀ k, k < 4 → σ1 (o + k) = τ k := fun k hk => by rw [e1, mrg_blk, if_pos (by omega)]; congr 1; omega
    have g0 := g 0 (by decide)
    rw [Nat.add_zero] at g0
    refine h2 e σ1 ⟨by rw [g0]; exact t0, fun i hi => ?_⟩ (fun j hj => ?_) (fun k hk => by rw [e1, mrg_blk, if_neg (by omega)])
    · rw [g 1 (by decide), g 2 (by decide), g 3 (by decide), t1, t2, t3, pk_blk (by decide), pk_blk (by decide), pk_blk (by decide)]
      have hi' : i < v.1 + 1 := hi
      show (if (i : Int) = (v.1 : Int) then (a : Int) else _) = ((if i = v.1 then a else v.2.1 i : Nat) : Int) ∧ (if (i : Int) = (v.1 : Int) then (b : Int) else _) = ((if i = v.1 then b else v.2.2.1 i : Nat) : Int) ∧ (if (i : Int) = (v.1 : Int) then (c : Int) else _) = ((if i = v.1 then c else v.2.2.2 i : Nat) : Int)
      by_cases z : i = v.1
      · have z2 : (i : Int) = (v.1 : Int) := by omega
        simp only [if_pos z, if_pos z2, and_self]
      · have z2 : ¬ (i : Int) = (v.1 : Int) := by omega
        simp only [if_neg z, if_neg z2]; exact h.2 i (by omega)
    · rw [g0, tj j hj, pk_blk (by decide), Nat.add_zero]
theorem hrOK_nil {σ : St} {o : Nat} {v : Hv} : hrOK (up σ o 3 0) o (0, v.2) := ⟨up_same, fun i hi => absurd hi (Nat.not_lt_zero _)⟩
/-- one of the told lists changes, the rest stays -/
theorem RRh {s s' : Su} {σ τ σ' τ' : St} (h : RR s σ τ) (hw : wfS s') (hc : s'.1 = s.1) (hp : s'.2.1 = s.2.1) (e : ∀ k, k < 5 ∨ 17 ≤ k → σ' k = σ k) (a1 : hrOK σ' 5 (sSe s')) (a2 : hrOK σ' 9 (sEv s')) (a3 : hrOK σ' 13 (sBk s')) (h2 : moOK (τ' 1) s') (et : ∀ d, d ≠ 1 → τ' d = τ d) : RR s' σ' τ' := by
  refine RR_put2 h hw hc ⟨?_, ?_, a1, a2, a3⟩ h2 (fun j => by rw [e 0 (by decide)]) (fun k hk => e k (by omega)) (fun j _ => by rw [et 0 (by decide)]) (fun d hd => et d (by omega))
  · rw [hc]; exact cfOK_cong3 h.2.1.1 (e 1 (by decide)) (e 2 (by decide)) (e 3 (by decide))
  · show ∀ i : Nat, i < 8 → σ' 4 (i : Int) = (s'.2.1 i : Int)
    rw [hp, e 4 (by decide)]; exact h.2.1.2.1
theorem op_see {s : Su} {σ τ : St} (h : RR s σ τ) {v w x : Int} (hv : rg v) (hw : rg w) (hx : rg x) {K : Kt} (hk : ∀ s' σ' τ', RR s' σ' τ' → K σ' τ') : wp_X8_see σ v w x (fun r1 σ1 => wp_X9_see τ v w x (fun r2 τ1 => An K r1 r2 σ1 τ1)) := by
  have hK := hk s σ τ h
  have hwf := h.1
  have s0 := h.2.1.1.1
  have m0 := h.2.2.1.1.1
  have h8 := h.1.1.2.1
  obtain ⟨sc, sp, sse, sev, sbk⟩ := id h.2.1
  obtain ⟨mc, m5, m6, m7, mp, mse, mev, mbk⟩ := id h.2.2.1
  have bad : v ≠ -1 → ¬ ((0 ≤ v ∧ v ≤ 192) ∧ (1 ≤ w ∧ w ≤ (cN s.1 : Int)) ∧ (1 ≤ x ∧ x ≤ (cN s.1 : Int))) → wp_X9_see τ v w x (fun r2 τ1 => An K (-1) r2 σ τ1) := fun c0 c => by
    unfold wp_X9_see
    refine ⟨hv, fun _ => s_within hv (by decide) (by decide) (ibs (fun a1 => ?_) (fun _ => An_same (by decide) hK)), fun z => absurd z c0⟩
    refine s_isPlace h8 m0 hw (ibs (fun a2 => ?_) (fun _ => An_same (by decide) hK))
    exact s_isPlace h8 m0 hx (ibr (fun a3 => absurd ⟨a1, a2, a3⟩ c) (fun _ => An_same (by decide) hK))
  unfold wp_X8_see
  refine ⟨hv, fun c0 => ⟨hv, fun c => bad c0 (by omega), fun c => ⟨hv, fun c1 => bad c0 (by omega), fun c1 => ?_⟩⟩, fun c0 => ?_⟩
  · refine s_isBell h8 s0 hw (ibs (fun c2 => ?_) (fun c2 => bad c0 (by omega)))
    refine s_isBell h8 s0 hx (ibr (fun c3 => ?_) (fun c3 => bad c0 (by omega)))
    obtain ⟨a, rfl, -, ha⟩ := natOf (v := v) (a := 0) (b := 192) (by omega) (by omega)
    obtain ⟨b, rfl, hb1, hb⟩ := natOf (v := w) (a := 1) (b := cN s.1) (by omega) (by omega)
    obtain ⟨c', rfl, hc1, hc⟩ := natOf (v := x) (a := 1) (b := cN s.1) (by omega) (by omega)
    have hsz := hwf.2.2.1.1
    refine s_hpush (o := 5) (v := sSe s) (by decide) sse hsz a b c' (fun e => ⟨by decide, fun _ => ?_, fun z => absurd rfl z⟩) (fun e σ3 g1 g2 g3 => ⟨by decide, fun z => absurd z (by decide), fun _ => ?_⟩)
    · unfold wp_X9_see
      refine ⟨hv, fun _ => s_within hv (by decide) (by decide) (ibs (fun a1 => ?_) (fun z => absurd (show (0 : Int) ≤ (a : Int) ∧ (a : Int) ≤ 192 by omega) z)), fun z => absurd z c0⟩
      refine s_isPlace h8 m0 hw (ibs (fun a2 => ?_) (fun z => absurd c2 z))
      refine s_isPlace h8 m0 hx (ibr (fun a3 => ?_) (fun z => absurd c3 z))
      rw [m5, e]
      exact ⟨by decide, fun z => absurd rfl z, fun _ => An_same (by decide) hK⟩
    · have g1' : σ3 5 3 = (((sSe s).1 + 1 : Nat) : Int) := g1.1
      rw [g1']
      unfold wp_X9_see
      refine ⟨hv, fun _ => s_within hv (by decide) (by decide) (ibs (fun a1 => ?_) (fun z => absurd (show (0 : Int) ≤ (a : Int) ∧ (a : Int) ≤ 192 by omega) z)), fun z => absurd z c0⟩
      refine s_isPlace h8 m0 hw (ibs (fun a2 => ?_) (fun z => absurd c2 z))
      refine s_isPlace h8 m0 hx (ibr (fun a3 => ?_) (fun z => absurd c3 z))
      rw [m5]
      refine ⟨rgn (by omega), fun _ => ⟨by omega, by omega, ?_⟩, fun z => by omega⟩
      intro τ4 t4
      refine ⟨by omega, by omega, ?_⟩
      intro τ5 t5
      refine ⟨by omega, by omega, ?_⟩
      intro τ6 t6
      have q5 : τ6 1 5 = (sSe s).1 := by rw [t6, up_j _ (by omega), t5, up_j _ (by omega), t4, up_j _ (by omega)]; exact m5
      rw [q5]
      intro τ7 t7
      rw [show (((sSe s).1 : Int) + 1) = (((sSe s).1 + 1 : Nat) : Int) by omega] at t7 ⊢
      have ft : ∀ j : Int, j ≠ 5 → ¬ (44 + 3 * ((sSe s).1 : Int) ≤ j ∧ j < 47 + 3 * ((sSe s).1 : Int)) → τ7 1 j = τ 1 j := fun j z1 z2 => by
        rw [t7, up_j _ z1, t6, up_j _ (by omega), t5, up_j _ (by omega), t4, up_j _ (by omega)]
      refine An_same (rgn (by omega)) (hk (s.1, s.2.1, hps (sSe s) a b c', s.2.2.2) _ _ (RRh h ⟨hwf.1, hwf.2.1, ⟨by show (sSe s).1 + 1 ≤ 5; omega, fun i hi => ?_⟩, hwf.2.2.2⟩ rfl rfl (fun k hk => ?_) g1 (hrOK_cong sev (fun k hk => ?_)) (hrOK_cong sbk (fun k hk => ?_)) ⟨mcOK_cong mc hwf.1.2.2.1 (fun j z1 z2 z3 => ft j (by omega) (by omega)), ?_, ?_, ?_, fun j hj => ?_, fun j hj => ?_, fun j hj => ?_, fun j hj => ?_⟩ (fun d hd => ?_)))
      · have hi' : i < (sSe s).1 + 1 := hi
        show (if i = (sSe s).1 then a else (sSe s).2.1 i) ≤ 192 ∧ (1 ≤ (if i = (sSe s).1 then b else (sSe s).2.2.1 i) ∧ (if i = (sSe s).1 then b else (sSe s).2.2.1 i) ≤ cN s.1) ∧ (1 ≤ (if i = (sSe s).1 then c' else (sSe s).2.2.2 i) ∧ (if i = (sSe s).1 then c' else (sSe s).2.2.2 i) ≤ cN s.1)
        by_cases z : i = (sSe s).1
        · simp only [if_pos z]; exact ⟨ha, ⟨hb1, hb⟩, hc1, hc⟩
        · simp only [if_neg z]; exact hwf.2.2.1.2 i (by omega)
      · by_cases z : k = 5
        · omega
        · exact g3 k (by omega)
      · exact g3 _ (by omega)
      · exact g3 _ (by omega)
      · rw [t7, up_same]
      · rw [ft _ (by decide) (by omega)]; exact m6
      · rw [ft _ (by decide) (by omega)]; exact m7
      · rw [ft _ (by omega) (by omega)]; exact mp j hj
      · have hj' : j < (sSe s).1 + 1 := hj
        show _ = ((if j = (sSe s).1 then a else (sSe s).2.1 j : Nat) : Int) ∧ _ = ((if j = (sSe s).1 then b else (sSe s).2.2.1 j : Nat) : Int) ∧ _ = ((if j = (sSe s).1 then c' else (sSe s).2.2.2 j : Nat) : Int)
        by_cases z : j = (sSe s).1
        · subst z
          simp only [if_true]
          refine ⟨?_, ?_, ?_⟩
          · rw [t7, up_j _ (by omega), t6, up_j _ (by omega), t5, up_j _ (by omega), t4, up_same]
          · rw [t7, up_j _ (by omega), t6, up_j _ (by omega), t5, up_same]
          · rw [t7, up_j _ (by omega), t6, up_same]
        · simp only [if_neg z]
          rw [ft _ (by omega) (by omega), ft _ (by omega) (by omega), ft _ (by omega) (by omega)]
          exact mse j (by omega)
      · have := hwf.2.2.2.1.1
        have hj' : j < (sEv s).1 := hj
        rw [ft _ (by omega) (by omega), ft _ (by omega) (by omega)]; exact mev j hj
      · have hj' : j < (sBk s).1 := hj
        rw [ft _ (by omega) (by omega), ft _ (by omega) (by omega)]; exact mbk j hj
      · rw [t7, up_ne _ hd, t6, up_ne _ hd, t5, up_ne _ hd, t4, up_ne _ hd]
  · intro σ4 e4
    unfold wp_X9_see
    refine ⟨hv, fun z => absurd c0 z, fun _ => ?_⟩
    intro τ8 t8
    have ft : ∀ j : Int, j ≠ 5 → τ8 1 j = τ 1 j := fun j z1 => by rw [t8, up_j _ z1]
    refine An_same (by decide) (hk (s.1, s.2.1, (0, (sSe s).2), s.2.2.2) _ _ (RRh h ⟨hwf.1, hwf.2.1, ⟨Nat.zero_le _, fun i hi => absurd hi (Nat.not_lt_zero _)⟩, hwf.2.2.2⟩ rfl rfl (fun k hk => ?_) (by rw [e4]; exact hrOK_nil) (hrOK_cong sev (fun k hk => ?_)) (hrOK_cong sbk (fun k hk => ?_)) ⟨mcOK_cong mc hwf.1.2.2.1 (fun j z1 z2 z3 => ft j (by omega)), ?_, ?_, ?_, fun j hj => ?_, fun j hj => absurd hj (Nat.not_lt_zero _), fun j hj => ?_, fun j hj => ?_⟩ (fun d hd => ?_)))
    · rw [e4, up_ne _ (by omega)]
    · rw [e4, up_ne _ (by omega)]
    · rw [e4, up_ne _ (by omega)]
    · rw [t8, up_same]; rfl
    · rw [ft _ (by decide)]; exact m6
    · rw [ft _ (by decide)]; exact m7
    · rw [ft _ (by omega)]; exact mp j hj
    · rw [ft _ (by omega), ft _ (by omega)]; exact mev j hj
    · rw [ft _ (by omega), ft _ (by omega)]; exact mbk j hj
    · rw [t8, up_ne _ hd]
def evV (v w : Int) : Int := if ¬ (0 ≤ v ∧ v ≤ 3) then -1 else if v ≤ 1 ∧ ¬ (0 ≤ w ∧ w ≤ 11) then -1 else if v = 2 ∧ ¬ (0 ≤ w ∧ w ≤ 16) then -2 else if v = 3 ∧ ¬ (1 ≤ w ∧ w ≤ 12) then -2 else 1
theorem evV_cases (v w : Int) : (evV v w = -1 ∧ (¬ (0 ≤ v ∧ v ≤ 3) ∨ (v ≤ 1 ∧ ¬ (0 ≤ w ∧ w ≤ 11)))) ∨ (evV v w = -2 ∧ (0 ≤ v ∧ v ≤ 3) ∧ ((v = 2 ∧ ¬ (0 ≤ w ∧ w ≤ 16)) ∨ (v = 3 ∧ ¬ (1 ≤ w ∧ w ≤ 12)))) ∨ (evV v w = 1 ∧ (0 ≤ v ∧ v ≤ 3) ∧ (v ≤ 1 → 0 ≤ w ∧ w ≤ 11) ∧ (v = 2 → 0 ≤ w ∧ w ≤ 16) ∧ (v = 3 → 1 ≤ w ∧ w ≤ 12)) := by
  unfold evV
  by_cases a : 0 ≤ v ∧ v ≤ 3
  · rw [if_neg (by omega)]
    by_cases b : v ≤ 1 ∧ ¬ (0 ≤ w ∧ w ≤ 11)
    · rw [if_pos b]; exact Or.inl ⟨rfl, Or.inr b⟩
    · rw [if_neg b]
      by_cases c : v = 2 ∧ ¬ (0 ≤ w ∧ w ≤ 16)
      · rw [if_pos c]; exact Or.inr (Or.inl ⟨rfl, a, Or.inl c⟩)
      · rw [if_neg c]
        by_cases d : v = 3 ∧ ¬ (1 ≤ w ∧ w ≤ 12)
        · rw [if_pos d]; exact Or.inr (Or.inl ⟨rfl, a, Or.inr d⟩)
        · rw [if_neg d]; exact Or.inr (Or.inr ⟨rfl, a, by omega, by omega, by omega⟩)
  · rw [if_pos a]; exact Or.inl ⟨rfl, Or.inl a⟩
theorem s_ev8 {σ : St} {v w : Int} (hv : rg v) (hw : rg w) (h0 : v ≠ -1) {post : Int → St → Prop} (h1 : evV v w ≠ 1 → post (evV v w) σ) (h2 : evV v w = 1 → wp_X8_event_80 post v w σ) : wp_X8_event σ v w post := by
  have E := evV_cases v w
  have b1 : evV v w = -1 → post (-1) σ := fun e => by have := h1 (by omega); rwa [e] at this
  have b2 : evV v w = -2 → post (-2) σ := fun e => by have := h1 (by omega); rwa [e] at this
  have k61 : (0 ≤ v ∧ v ≤ 3) → (v ≤ 1 → 0 ≤ w ∧ w ≤ 11) → (v = 2 → 0 ≤ w ∧ w ≤ 16) → wp_X8_event_61 post v w σ := fun a b c => by
    refine ⟨hv, fun d => h2 (by omega), fun d => ⟨hw, fun f => b2 (by omega), fun f => ⟨hw, fun g => h2 (by omega), fun g => b2 (by omega)⟩⟩⟩
  have k43 : (0 ≤ v ∧ v ≤ 3) → (v ≤ 1 → 0 ≤ w ∧ w ≤ 11) → wp_X8_event_43 post v w σ := fun a b => by
    refine ⟨hv, fun d => k61 a b (by omega), fun d => ⟨hw, fun f => b2 (by omega), fun f => ⟨hw, fun g => k61 a b (by omega), fun g => b2 (by omega)⟩⟩⟩
  unfold wp_X8_event
  refine ⟨hv, fun _ => ⟨hv, fun c => b1 (by omega), fun c => ⟨hv, fun c2 => ⟨hv, fun c3 => k43 (by omega) (by omega), fun c3 => ?_⟩, fun c2 => b1 (by omega)⟩⟩, fun z => absurd z h0⟩
  exact s_isLead hw (ibr (fun c4 => k43 (by omega) (fun _ => c4)) (fun c4 => b1 (by omega)))
theorem s_ev9 {σ : St} {v w : Int} (hv : rg v) (hw : rg w) (h0 : v ≠ -1) {post : Int → St → Prop} (h1 : evV v w ≠ 1 → post (evV v w) σ) (h2 : evV v w = 1 → wp_X9_event_74 post v w σ) : wp_X9_event σ v w post := by
  have E := evV_cases v w
  have b1 : evV v w = -1 → post (-1) σ := fun e => by have := h1 (by omega); rwa [e] at this
  have b2 : evV v w = -2 → post (-2) σ := fun e => by have := h1 (by omega); rwa [e] at this
  have k61 : (0 ≤ v ∧ v ≤ 3) → (v ≤ 1 → 0 ≤ w ∧ w ≤ 11) → (v = 2 → 0 ≤ w ∧ w ≤ 16) → wp_X9_event_56 post v w σ := fun a b c => by
    refine ⟨hv, fun d => h2 (by omega), fun d => s_within hw (by decide) (by decide) (ibr (fun f => h2 (by omega)) (fun f => b2 (by omega)))⟩
  have k43 : (0 ≤ v ∧ v ≤ 3) → (v ≤ 1 → 0 ≤ w ∧ w ≤ 11) → wp_X9_event_41 post v w σ := fun a b => by
    refine ⟨hv, fun d => k61 a b (by omega), fun d => s_within hw (by decide) (by decide) (ibs (fun f => k61 a b (fun _ => f)) (fun f => b2 (by omega)))⟩
  unfold wp_X9_event
  refine ⟨hv, fun _ => s_within hv (by decide) (by decide) (ibs (fun c => ⟨hv, fun c2 => k43 c (by omega), fun c2 => ?_⟩) (fun c => b1 (by omega))), fun z => absurd z h0⟩
  exact s_within hw (by decide) (by decide) (ibr (fun c4 => k43 c (fun _ => c4)) (fun c4 => b1 (by omega)))
theorem op_event {s : Su} {σ τ : St} (h : RR s σ τ) {v w : Int} (hv : rg v) (hw : rg w) {K : Kt} (hk : ∀ s' σ' τ', RR s' σ' τ' → K σ' τ') : wp_X8_event σ v w (fun r1 σ1 => wp_X9_event τ v w (fun r2 τ1 => An K r1 r2 σ1 τ1)) := by
  have hK := hk s σ τ h
  have hwf := h.1
  obtain ⟨sc, sp, sse, sev, sbk⟩ := id h.2.1
  obtain ⟨mc, m5, m6, m7, mp, mse, mev, mbk⟩ := id h.2.2.1
  have E := evV_cases v w
  by_cases h0 : v = -1
  · unfold wp_X8_event
    refine ⟨hv, fun z => absurd h0 z, fun _ => ?_⟩
    intro σ4 e4
    unfold wp_X9_event
    refine ⟨hv, fun z => absurd h0 z, fun _ => ?_⟩
    intro τ8 t8
    have ft : ∀ j : Int, j ≠ 6 → τ8 1 j = τ 1 j := fun j z1 => by rw [t8, up_j _ z1]
    refine An_same (by decide) (hk (s.1, s.2.1, sSe s, (0, (sEv s).2), s.2.2.2.2) _ _ (RRh h ⟨hwf.1, hwf.2.1, hwf.2.2.1, ⟨Nat.zero_le _, fun i hi => absurd hi (Nat.not_lt_zero _)⟩, hwf.2.2.2.2⟩ rfl rfl (fun k hk => ?_) (hrOK_cong sse (fun k hk => ?_)) (by rw [e4]; exact hrOK_nil) (hrOK_cong sbk (fun k hk => ?_)) ⟨mcOK_cong mc hwf.1.2.2.1 (fun j z1 z2 z3 => ft j (by omega)), ?_, ?_, ?_, fun j hj => ?_, fun j hj => ?_, fun j hj => absurd hj (Nat.not_lt_zero _), fun j hj => ?_⟩ (fun d hd => ?_)))
    · rw [e4, up_ne _ (by omega)]
    · rw [e4, up_ne _ (by omega)]
    · rw [e4, up_ne _ (by omega)]
    · rw [ft _ (by decide)]; exact m5
    · rw [t8, up_same]; rfl
    · rw [ft _ (by decide)]; exact m7
    · rw [ft _ (by omega)]; exact mp j hj
    · rw [ft _ (by omega), ft _ (by omega), ft _ (by omega)]; exact mse j hj
    · rw [ft _ (by omega), ft _ (by omega)]; exact mbk j hj
    · rw [t8, up_ne _ hd]
  · refine s_ev8 hv hw h0 (fun c => s_ev9 hv hw h0 (fun _ => An_same (by rcases E with E | E | E <;> rw [E.1] <;> decide) hK) (fun z => absurd z c)) (fun c => ?_)
    obtain ⟨a, rfl, -, ha⟩ := natOf (v := v) (a := 0) (b := 3) (by omega) (by omega)
    obtain ⟨b, rfl, -, hb⟩ := natOf (v := w) (a := 0) (b := 16) (by omega) (by omega)
    have hsz := hwf.2.2.2.1.1
    unfold wp_X8_event_80
    refine s_hpush (o := 9) (v := sEv s) (c := 0) (by decide) sev hsz a b (fun e => ⟨by decide, fun _ => ?_, fun z => absurd rfl z⟩) (fun e σ3 g1 g2 g3 => ⟨by decide, fun z => absurd z (by decide), fun _ => ?_⟩)
    · refine s_ev9 hv hw h0 (fun z => absurd c z) (fun _ => ?_)
      unfold wp_X9_event_74
      rw [m6, e]
      exact ⟨by decide, fun z => absurd rfl z, fun _ => An_same (by decide) hK⟩
    · have g1' : σ3 9 3 = (((sEv s).1 + 1 : Nat) : Int) := g1.1
      rw [g1']
      refine s_ev9 hv hw h0 (fun z => absurd c z) (fun _ => ?_)
      unfold wp_X9_event_74
      rw [m6]
      refine ⟨rgn (by omega), fun _ => ⟨by omega, by omega, ?_⟩, fun z => by omega⟩
      intro τ4 t4
      have q4 : τ4 1 6 = (sEv s).1 := by rw [t4, up_j _ (by omega)]; exact m6
      rw [q4]
      refine ⟨by omega, by omega, ?_⟩
      intro τ5 t5
      have q5 : τ5 1 6 = (sEv s).1 := by rw [t5, up_j _ (by omega)]; exact q4
      rw [q5]
      intro τ7 t7
      rw [show (((sEv s).1 : Int) + 1) = (((sEv s).1 + 1 : Nat) : Int) by omega] at t7 ⊢
      have ft : ∀ j : Int, j ≠ 6 → ¬ (59 + 2 * ((sEv s).1 : Int) ≤ j ∧ j < 61 + 2 * ((sEv s).1 : Int)) → τ7 1 j = τ 1 j := fun j z1 z2 => by
        rw [t7, up_j _ z1, t5, up_j _ (by omega), t4, up_j _ (by omega)]
      refine An_same (rgn (by omega)) (hk (s.1, s.2.1, sSe s, hps (sEv s) a b 0, s.2.2.2.2) _ _ (RRh h ⟨hwf.1, hwf.2.1, hwf.2.2.1, ⟨by show (sEv s).1 + 1 ≤ 8; omega, fun i hi => ?_⟩, hwf.2.2.2.2⟩ rfl rfl (fun k hk => ?_) (hrOK_cong sse (fun k hk => ?_)) g1 (hrOK_cong sbk (fun k hk => ?_)) ⟨mcOK_cong mc hwf.1.2.2.1 (fun j z1 z2 z3 => ft j (by omega) (by omega)), ?_, ?_, ?_, fun j hj => ?_, fun j hj => ?_, fun j hj => ?_, fun j hj => ?_⟩ (fun d hd => ?_)))
      · have hi' : i < (sEv s).1 + 1 := hi
        show (if i = (sEv s).1 then a else (sEv s).2.1 i) ≤ 3 ∧ ((if i = (sEv s).1 then a else (sEv s).2.1 i) ≤ 1 → (if i = (sEv s).1 then b else (sEv s).2.2.1 i) < 12) ∧ ((if i = (sEv s).1 then a else (sEv s).2.1 i) = 2 → (if i = (sEv s).1 then b else (sEv s).2.2.1 i) ≤ 16) ∧ ((if i = (sEv s).1 then a else (sEv s).2.1 i) = 3 → 1 ≤ (if i = (sEv s).1 then b else (sEv s).2.2.1 i) ∧ (if i = (sEv s).1 then b else (sEv s).2.2.1 i) ≤ 12)
        by_cases z : i = (sEv s).1
        · simp only [if_pos z]; exact ⟨ha, by omega, by omega, by omega⟩
        · simp only [if_neg z]; exact hwf.2.2.2.1.2 i (by omega)
      · exact g3 k (by omega)
      · exact g3 _ (by omega)
      · exact g3 _ (by omega)
      · rw [ft _ (by decide) (by omega)]; exact m5
      · rw [t7, up_same]
      · rw [ft _ (by decide) (by omega)]; exact m7
      · rw [ft _ (by omega) (by omega)]; exact mp j hj
      · have := hwf.2.2.1.1
        have hj' : j < (sSe s).1 := hj
        rw [ft _ (by omega) (by omega), ft _ (by omega) (by omega), ft _ (by omega) (by omega)]; exact mse j hj
      · have hj' : j < (sEv s).1 + 1 := hj
        show _ = ((if j = (sEv s).1 then a else (sEv s).2.1 j : Nat) : Int) ∧ _ = ((if j = (sEv s).1 then b else (sEv s).2.2.1 j : Nat) : Int)
        by_cases z : j = (sEv s).1
        · subst z
          simp only [if_true]
          refine ⟨?_, ?_⟩
          · rw [t7, up_j _ (by omega), t5, up_j _ (by omega), t4, up_same]
          · rw [t7, up_j _ (by omega), t5, up_same]
        · simp only [if_neg z]
          rw [ft _ (by omega) (by omega), ft _ (by omega) (by omega)]
          exact mev j (by omega)
      · have hj' : j < (sBk s).1 := hj
        rw [ft _ (by omega) (by omega), ft _ (by omega) (by omega)]; exact mbk j hj
      · rw [t7, up_ne _ hd, t5, up_ne _ hd, t4, up_ne _ hd]
theorem op_book {s : Su} {σ τ : St} (h : RR s σ τ) {v w : Int} (hv : rg v) (hw : rg w) {K : Kt} (hk : ∀ s' σ' τ', RR s' σ' τ' → K σ' τ') : wp_X8_book σ v w (fun r1 σ1 => wp_X9_book τ v w (fun r2 τ1 => An K r1 r2 σ1 τ1)) := by
  have hK := hk s σ τ h
  have hwf := h.1
  have s0 := h.2.1.1.1
  have m0 := h.2.2.1.1.1
  have h8 := h.1.1.2.1
  obtain ⟨sc, sp, sse, sev, sbk⟩ := id h.2.1
  obtain ⟨mc, m5, m6, m7, mp, mse, mev, mbk⟩ := id h.2.2.1
  have bad : v ≠ -1 → ¬ ((0 ≤ v ∧ v ≤ 192) ∧ (1 ≤ w ∧ w ≤ (cN s.1 : Int))) → wp_X9_book τ v w (fun r2 τ1 => An K (-1) r2 σ τ1) := fun c0 c => by
    unfold wp_X9_book
    refine ⟨hv, fun _ => s_within hv (by decide) (by decide) (ibs (fun a1 => ?_) (fun _ => An_same (by decide) hK)), fun z => absurd z c0⟩
    exact s_isPlace h8 m0 hw (ibr (fun a2 => absurd ⟨a1, a2⟩ c) (fun _ => An_same (by decide) hK))
  unfold wp_X8_book
  refine ⟨hv, fun c0 => ⟨hv, fun c => bad c0 (by omega), fun c => ⟨hv, fun c1 => bad c0 (by omega), fun c1 => ?_⟩⟩, fun c0 => ?_⟩
  · refine s_isBell h8 s0 hw (ibr (fun c2 => ?_) (fun c2 => bad c0 (by omega)))
    obtain ⟨a, rfl, -, ha⟩ := natOf (v := v) (a := 0) (b := 192) (by omega) (by omega)
    obtain ⟨b, rfl, hb1, hb⟩ := natOf (v := w) (a := 1) (b := cN s.1) (by omega) (by omega)
    have hsz := hwf.2.2.2.2.1
    refine s_hpush (o := 13) (v := sBk s) (c := 0) (by decide) sbk hsz a b (fun e => ⟨by decide, fun _ => ?_, fun z => absurd rfl z⟩) (fun e σ3 g1 g2 g3 => ⟨by decide, fun z => absurd z (by decide), fun _ => ?_⟩)
    · unfold wp_X9_book
      refine ⟨hv, fun _ => s_within hv (by decide) (by decide) (ibs (fun a1 => ?_) (fun z => absurd (show (0 : Int) ≤ (a : Int) ∧ (a : Int) ≤ 192 by omega) z)), fun z => absurd z c0⟩
      refine s_isPlace h8 m0 hw (ibr (fun a2 => ?_) (fun z => absurd c2 z))
      rw [m7, e]
      exact ⟨by decide, fun z => absurd rfl z, fun _ => An_same (by decide) hK⟩
    · have g1' : σ3 13 3 = (((sBk s).1 + 1 : Nat) : Int) := g1.1
      rw [g1']
      unfold wp_X9_book
      refine ⟨hv, fun _ => s_within hv (by decide) (by decide) (ibs (fun a1 => ?_) (fun z => absurd (show (0 : Int) ≤ (a : Int) ∧ (a : Int) ≤ 192 by omega) z)), fun z => absurd z c0⟩
      refine s_isPlace h8 m0 hw (ibr (fun a2 => ?_) (fun z => absurd c2 z))
      rw [m7]
      refine ⟨rgn (by omega), fun _ => ⟨by omega, by omega, ?_⟩, fun z => by omega⟩
      intro τ4 t4
      have q4 : τ4 1 7 = (sBk s).1 := by rw [t4, up_j _ (by omega)]; exact m7
      rw [q4]
      refine ⟨by omega, by omega, ?_⟩
      intro τ5 t5
      have q5 : τ5 1 7 = (sBk s).1 := by rw [t5, up_j _ (by omega)]; exact q4
      rw [q5]
      intro τ7 t7
      rw [show (((sBk s).1 : Int) + 1) = (((sBk s).1 + 1 : Nat) : Int) by omega] at t7 ⊢
      have ft : ∀ j : Int, j ≠ 7 → ¬ (75 + 2 * ((sBk s).1 : Int) ≤ j ∧ j < 77 + 2 * ((sBk s).1 : Int)) → τ7 1 j = τ 1 j := fun j z1 z2 => by
        rw [t7, up_j _ z1, t5, up_j _ (by omega), t4, up_j _ (by omega)]
      refine An_same (rgn (by omega)) (hk (s.1, s.2.1, sSe s, sEv s, hps (sBk s) a b 0) _ _ (RRh h ⟨hwf.1, hwf.2.1, hwf.2.2.1, hwf.2.2.2.1, ⟨by show (sBk s).1 + 1 ≤ 8; omega, fun i hi => ?_⟩⟩ rfl rfl (fun k hk => ?_) (hrOK_cong sse (fun k hk => ?_)) (hrOK_cong sev (fun k hk => ?_)) g1 ⟨mcOK_cong mc hwf.1.2.2.1 (fun j z1 z2 z3 => ft j (by omega) (by omega)), ?_, ?_, ?_, fun j hj => ?_, fun j hj => ?_, fun j hj => ?_, fun j hj => ?_⟩ (fun d hd => ?_)))
      · have hi' : i < (sBk s).1 + 1 := hi
        show (if i = (sBk s).1 then a else (sBk s).2.1 i) ≤ 192 ∧ (1 ≤ (if i = (sBk s).1 then b else (sBk s).2.2.1 i) ∧ (if i = (sBk s).1 then b else (sBk s).2.2.1 i) ≤ cN s.1)
        by_cases z : i = (sBk s).1
        · simp only [if_pos z]; exact ⟨ha, hb1, hb⟩
        · simp only [if_neg z]; exact hwf.2.2.2.2.2 i (by omega)
      · exact g3 k (by omega)
      · exact g3 _ (by omega)
      · exact g3 _ (by omega)
      · rw [ft _ (by decide) (by omega)]; exact m5
      · rw [ft _ (by decide) (by omega)]; exact m6
      · rw [t7, up_same]
      · rw [ft _ (by omega) (by omega)]; exact mp j hj
      · have := hwf.2.2.1.1
        have hj' : j < (sSe s).1 := hj
        rw [ft _ (by omega) (by omega), ft _ (by omega) (by omega), ft _ (by omega) (by omega)]; exact mse j hj
      · have := hwf.2.2.2.1.1
        have hj' : j < (sEv s).1 := hj
        rw [ft _ (by omega) (by omega), ft _ (by omega) (by omega)]; exact mev j hj
      · have hj' : j < (sBk s).1 + 1 := hj
        show _ = ((if j = (sBk s).1 then a else (sBk s).2.1 j : Nat) : Int) ∧ _ = ((if j = (sBk s).1 then b else (sBk s).2.2.1 j : Nat) : Int)
        by_cases z : j = (sBk s).1
        · subst z
          simp only [if_true]
          refine ⟨?_, ?_⟩
          · rw [t7, up_j _ (by omega), t5, up_j _ (by omega), t4, up_same]
          · rw [t7, up_j _ (by omega), t5, up_same]
        · simp only [if_neg z]
          rw [ft _ (by omega) (by omega), ft _ (by omega) (by omega)]
          exact mbk j (by omega)
      · rw [t7, up_ne _ hd, t5, up_ne _ hd, t4, up_ne _ hd]
  · intro σ4 e4
    unfold wp_X9_book
    refine ⟨hv, fun z => absurd c0 z, fun _ => ?_⟩
    intro τ8 t8
    have ft : ∀ j : Int, j ≠ 7 → τ8 1 j = τ 1 j := fun j z1 => by rw [t8, up_j _ z1]
    refine An_same (by decide) (hk (s.1, s.2.1, sSe s, sEv s, (0, (sBk s).2)) _ _ (RRh h ⟨hwf.1, hwf.2.1, hwf.2.2.1, hwf.2.2.2.1, ⟨Nat.zero_le _, fun i hi => absurd hi (Nat.not_lt_zero _)⟩⟩ rfl rfl (fun k hk => ?_) (hrOK_cong sse (fun k hk => ?_)) (hrOK_cong sev (fun k hk => ?_)) (by rw [e4]; exact hrOK_nil) ⟨mcOK_cong mc hwf.1.2.2.1 (fun j z1 z2 z3 => ft j (by omega)), ?_, ?_, ?_, fun j hj => ?_, fun j hj => ?_, fun j hj => ?_, fun j hj => absurd hj (Nat.not_lt_zero _)⟩ (fun d hd => ?_)))
    · rw [e4, up_ne _ (by omega)]
    · rw [e4, up_ne _ (by omega)]
    · rw [e4, up_ne _ (by omega)]
    · rw [ft _ (by decide)]; exact m5
    · rw [ft _ (by decide)]; exact m6
    · rw [t8, up_same]; rfl
    · rw [ft _ (by omega)]; exact mp j hj
    · rw [ft _ (by omega), ft _ (by omega), ft _ (by omega)]; exact mse j hj
    · rw [ft _ (by omega), ft _ (by omega)]; exact mev j hj
    · rw [t8, up_ne _ hd]
theorem op_of {s : Su} {σ τ : St} (h : RR s σ τ) {v w : Int} (hv : rg v) (hw : rg w) {K : Kt} (hK : K σ τ) : wp_X8_of σ v w (fun r1 => wp_X9_of τ v w (fun r2 => An K r1 r2 σ τ)) := by
  obtain ⟨s0, s2, s3, s4, s6, sch, scal⟩ := id h.2.1.1
  obtain ⟨m0, m1, m2, m3, m4, mch, mcal⟩ := id h.2.2.1.1
  obtain ⟨h4, h8, h16, hh, hB, hS, hcal, hl1, hl12⟩ := id h.1.1
  have bad : ¬ (0 ≤ v ∧ v ≤ 3) → wp_X9_of τ v w (fun r2 => An K (-1) r2 σ τ) := fun c => by
    unfold wp_X9_of
    exact ⟨hv, fun z => by omega, fun z => by omega, fun z => by omega, fun z => by omega, fun _ => An_same (by decide) hK⟩
  have b0 : v = 0 → ¬ (0 ≤ w ∧ w ≤ (cM s.1 : Int) - 1) → wp_X9_of τ v w (fun r2 => An K (-1) r2 σ τ) := fun c c2 => by
    unfold wp_X9_of
    rw [m1]
    exact ⟨hv, fun _ => s_within hw (by decide) ⟨by omega, by omega⟩ (ibs (fun z => absurd z c2) (fun _ => An_same (by decide) hK)), fun z => by omega, fun z => by omega, fun z => by omega, fun z => by omega⟩
  unfold wp_X8_of
  rw [s2]
  refine ⟨hv, fun c => ⟨hw, fun c2 => b0 c (by omega), fun c2 => ⟨hw, rgn (by omega), fun c3 => b0 c (by omega), fun c3 => ⟨by omega, by omega, ?_⟩⟩⟩, fun c => ?_, fun c => ?_, fun c => ?_, fun c => bad (by omega)⟩
  · obtain ⟨i, rfl, -, hi⟩ := natOf (v := w) (a := 0) (b := 15) (by omega) (by omega)
    have q1 := sch i (by omega)
    have q2 := mch i (by omega)
    have q3 := hh i (by omega)
    unfold wp_X9_of
    rw [m1]
    refine ⟨hv, fun _ => s_within hw (by decide) ⟨by omega, by omega⟩ (ibs (fun _ => ⟨by omega, by omega, ?_⟩) (fun z => absurd (show (0 : Int) ≤ (i : Int) ∧ (i : Int) ≤ (cM s.1 : Int) - 1 by omega) z)), fun z => by omega, fun z => by omega, fun z => by omega, fun z => by omega⟩
    have q1' : σ 2 (i : Int) = cH s.1 i := q1
    rw [q1', q2]
    exact An_same (rgn (by omega)) hK
  · subst c
    have hx := chOK_rg hB
    unfold wp_X8_orNotFound
    rw [s3]
    refine ⟨hx, fun c => ?_, fun c => ?_⟩
    · unfold wp_X9_of
      refine ⟨hv, fun z => by omega, fun _ => ⟨by decide, by decide, ?_⟩, fun z => by omega, fun z => by omega, fun z => by omega⟩
      rw [show (1 : Int) + 1 = 2 from rfl, m2]
      exact ⟨hx, fun _ => ⟨by decide, by decide, An_same hx hK⟩, fun z => absurd z c⟩
    · unfold wp_X9_of
      refine ⟨hv, fun z => by omega, fun _ => ⟨by decide, by decide, ?_⟩, fun z => by omega, fun z => by omega, fun z => by omega⟩
      rw [show (1 : Int) + 1 = 2 from rfl, m2]
      exact ⟨hx, fun z => absurd c z, fun _ => An_same (by decide) hK⟩
  · subst c
    have hx := chOK_rg hS
    unfold wp_X8_orNotFound
    rw [s4]
    refine ⟨hx, fun c => ?_, fun c => ?_⟩
    · unfold wp_X9_of
      refine ⟨hv, fun z => by omega, fun z => by omega, fun _ => ⟨by decide, by decide, ?_⟩, fun z => by omega, fun z => by omega⟩
      rw [show (1 : Int) + 2 = 3 from rfl, m3]
      exact ⟨hx, fun _ => ⟨by decide, by decide, An_same hx hK⟩, fun z => absurd z c⟩
    · unfold wp_X9_of
      refine ⟨hv, fun z => by omega, fun z => by omega, fun _ => ⟨by decide, by decide, ?_⟩, fun z => by omega, fun z => by omega⟩
      rw [show (1 : Int) + 2 = 3 from rfl, m3]
      exact ⟨hx, fun z => absurd c z, fun _ => An_same (by decide) hK⟩
  · refine s_isLead hw (ibs (fun c2 => ⟨by omega, by omega, ?_⟩) (fun c2 => ?_))
    · obtain ⟨i, rfl, -, hi⟩ := natOf (v := w) (a := 0) (b := 11) (by omega) (by omega)
      have q1 := scal i (by omega)
      have q2 := mcal i (by omega)
      have q3 := hcal i (by omega)
      have q1' : σ 3 (i : Int) = cC s.1 i := q1
      unfold wp_X9_of
      refine ⟨hv, fun z => by omega, fun z => by omega, fun z => by omega, fun _ => s_within hw (by decide) (by decide) (ibs (fun _ => ⟨by omega, by omega, ?_⟩) (fun z => absurd c2 z)), fun z => by omega⟩
      rw [q1', q2]
      exact An_same (rgn (by omega)) hK
    · unfold wp_X9_of
      exact ⟨hv, fun z => by omega, fun z => by omega, fun z => by omega, fun _ => s_within hw (by decide) (by decide) (ibs (fun z => absurd z c2) (fun _ => An_same (by decide) hK)), fun z => by omega⟩
theorem op_count {s : Su} {σ τ : St} (h : RR s σ τ) {v : Int} (hv : rg v) {K : Kt} (hK : K σ τ) : wp_X8_count σ v (fun r1 => wp_X9_count τ v (fun r2 => An K r1 r2 σ τ)) := by
  have hwf := h.1
  obtain ⟨sc, sp, sse, sev, sbk⟩ := id h.2.1
  obtain ⟨mc, m5, m6, m7, mp, mse, mev, mbk⟩ := id h.2.2.1
  obtain ⟨len, hlen, x1, x2, -⟩ := h.2.2.2.2.2.2.2.1
  unfold wp_X8_count
  have lst : ∀ (x : Nat), (0 ≤ v ∧ v ≤ 2) → τ 1 (5 + v) = x → x ≤ 1000 → wp_X9_count τ v (fun r2 => An K (x : Int) r2 σ τ) := fun x c e hx => by
    unfold wp_X9_count
    refine s_within hv (by decide) (by decide) (ibs (fun _ => ⟨by omega, by omega, ?_⟩) (fun z => absurd c z))
    rw [e]
    exact An_same (rgn hx) hK
  refine ⟨hv, fun c => ?_, fun c => ?_, fun c => ?_, fun c => ?_, fun c => ?_⟩
  · rw [show σ 5 3 = _ from sse.1]; exact lst _ (by omega) (by subst c; exact m5) (by have := hwf.2.2.1.1; omega)
  · rw [show σ 9 3 = _ from sev.1]; exact lst _ (by omega) (by subst c; exact m6) (by have := hwf.2.2.2.1.1; omega)
  · rw [show σ 13 3 = _ from sbk.1]; exact lst _ (by omega) (by subst c; exact m7) (by have := hwf.2.2.2.2.1; omega)
  · unfold wp_X9_count
    refine s_within hv (by decide) (by decide) (ibs (fun z => by omega) (fun _ => ⟨hv, fun z => absurd c z, fun _ => ?_⟩))
    rw [x1, x2]
    exact An_same (rgn (by omega)) hK
  · unfold wp_X9_count
    exact s_within hv (by decide) (by decide) (ibs (fun z => by omega) (fun _ => ⟨hv, fun _ => An_same (by decide) hK, fun z => by omega⟩))
