/-! calls that tell the set-up -/
theorem s_isPlaces {σ : St} {n : Nat} (h8 : n ≤ 8) (hn : σ 1 0 = n) {v : Int} (hv : rg v) {post : Int → Prop} (hp : post (if 0 ≤ v ∧ v < ((2 ^ n : Nat) : Int) then 1 else 0)) : wp_X8_isPlaces σ v post := by
  unfold wp_X8_isPlaces
  rw [hn, sl1 n (by omega)]
  have h2 : 2 ^ n ≤ 256 := by simpa using Nat.pow_le_pow_right (n := 2) (by decide) h8
  generalize 2 ^ n = z at hp h2 ⊢
  refine ⟨hv, fun c => ?_, fun c => ⟨hv, ⟨by omega, by omega⟩, fun c2 => ?_, fun c2 => ?_⟩⟩
  · rwa [if_neg (by omega)] at hp
  · rwa [if_neg (by omega)] at hp
  · rwa [if_pos (by omega)] at hp
theorem s_isLead {v : Int} (hv : rg v) {post : Int → Prop} (hp : post (if 0 ≤ v ∧ v ≤ 11 then 1 else 0)) : wp_X8_isLead v post := by
  refine ⟨hv, fun c => ?_, fun c => ⟨hv, fun c2 => ?_, fun c2 => ?_⟩⟩
  · rwa [if_neg (by omega)] at hp
  · rwa [if_neg (by omega)] at hp
  · rwa [if_pos (by omega)] at hp
theorem s_isBell {σ : St} {n : Nat} (h8 : n ≤ 8) (hn : σ 1 0 = n) {v : Int} (hv : rg v) {post : Int → Prop} (hp : post (if 1 ≤ v ∧ v ≤ (n : Int) then 1 else 0)) : wp_X8_isBell σ v post := by
  unfold wp_X8_isBell
  rw [hn]
  refine ⟨hv, fun c => ?_, fun c => ⟨hv, ⟨by omega, by omega⟩, fun c2 => ?_, fun c2 => ?_⟩⟩
  · rwa [if_neg (by omega)] at hp
  · rwa [if_neg (by omega)] at hp
  · rwa [if_pos (by omega)] at hp
theorem s_isPlace {σ : St} {n : Nat} (h8 : n ≤ 8) (hn : σ 1 0 = n) {v : Int} (hv : rg v) {post : Int → Prop} (hp : post (if 1 ≤ v ∧ v ≤ (n : Int) then 1 else 0)) : wp_X9_isPlace σ v post := by
  unfold wp_X9_isPlace
  rw [hn]
  refine s_within hv (by decide) ⟨by omega, by omega⟩ ⟨by split <;> simp, hp⟩
theorem GD_lt {n pl : Nat} (h : pl < 2 ^ n) : GD n pl = gdF 9 n pl 0 := by simp [GD, h]
theorem GD_p {n pl : Nat} (h : GD n pl = true) : pl < 2 ^ n := by simp only [GD, Bool.and_eq_true, decide_eq_true_eq] at h; exact h.1
theorem p2_le {n : Nat} (h : n ≤ 8) : 2 ^ n ≤ 256 := by simpa using Nat.pow_le_pow_right (n := 2) (by decide) h
theorem An_same {K : Kt} {r : Int} {σ τ : St} (hr : rg r) (h : K σ τ) : An K r r σ τ := ⟨hr, hr, rfl, h⟩
theorem up_c (σ : St) {k : Nat} {j x : Int} {k' : Nat} (j' : Int) (h : k' ≠ k) : up σ k j x k' j' = σ k' j' := by rw [up_ne _ h]
theorem up_j (σ : St) {k : Nat} {j x j' : Int} (h : j' ≠ j) : up σ k j x k j' = σ k j' := by simp [up, h]
/-- the rest of the set-up's cells, when only the config's object and one of its rows have changed -/
theorem suOK_cfg {σ σ' : St} {s : Su} {c' : Cf} (h : suOK σ 1 s) (hc : cfOK σ' 1 c') (e : ∀ k, 4 ≤ k → k < 17 → σ' k = σ k) : suOK σ' 1 (c', s.2) := by
  refine ⟨hc, ?_, hrOK_cong h.2.2.1 (fun k hk => e _ (by omega) (by omega)), hrOK_cong h.2.2.2.1 (fun k hk => e _ (by omega) (by omega)), hrOK_cong h.2.2.2.2 (fun k hk => e _ (by omega) (by omega))⟩
  have := e 4 (by decide) (by decide)
  show ∀ i : Nat, i < 8 → σ' 4 (i : Int) = _
  rw [this]; exact h.2.1
theorem moOK_cfg {f f' : Int → Int} {s : Su} {c' : Cf} (h : moOK f s) (hc : mcOK f' c') (e : ∀ j : Int, (5 ≤ j ∧ j < 8) ∨ 36 ≤ j → f' j = f j) : moOK f' (c', s.2) := by
  obtain ⟨-, a5, a6, a7, ap, as, ae, ab⟩ := h
  refine ⟨hc, by rw [e _ (by omega)]; exact a5, by rw [e _ (by omega)]; exact a6, by rw [e _ (by omega)]; exact a7, fun i hi => by rw [e _ (by omega)]; exact ap i hi, fun i hi => ?_, fun i hi => ?_, fun i hi => ?_⟩
  · rw [e _ (by omega), e _ (by omega), e _ (by omega)]; exact as i hi
  · rw [e _ (by omega), e _ (by omega)]; exact ae i hi
  · rw [e _ (by omega), e _ (by omega)]; exact ab i hi
theorem wfS_cfg {s : Su} {c' : Cf} (h : wfS s) (hc : wfC c') (hn : cN c' = cN s.1) : wfS (c', s.2) := by
  obtain ⟨-, a, b, d, e⟩ := h
  refine ⟨hc, a, ⟨b.1, ?_⟩, d, ⟨e.1, ?_⟩⟩
  · show ∀ i, i < _ → _ ∧ (_ ∧ _ ≤ cN c') ∧ (_ ∧ _ ≤ cN c')
    rw [hn]; exact b.2
  · show ∀ i, i < _ → _ ∧ (_ ∧ _ ≤ cN c')
    rw [hn]; exact e.2
theorem op_change {s : Su} {σ τ : St} (h : RR s σ τ) {v : Int} (hv : rg v) {K : Kt} (hk : ∀ s' σ' τ', RR s' σ' τ' → K σ' τ') : wp_X8_change σ v (fun r1 σ1 => wp_X9_change τ v (fun r2 τ1 => An K r1 r2 σ1 τ1)) := by
  obtain ⟨⟨s0, s2, s3, s4, s6, sch, scal⟩, srest⟩ := id h.2.1
  obtain ⟨⟨m0, m1, m2, m3, m4, mch, mcal⟩, mrest⟩ := id h.2.2.1
  obtain ⟨h4, h8, h16, hh, hB, hS, hcal, hl1, hl12⟩ := id h.1.1
  have hK := hk s σ τ h
  have hp2 := p2_le h8
  unfold wp_X8_change
  refine s_isPlaces h8 s0 hv ⟨by split <;> decide, fun c => ?_, fun c => ?_⟩
  · have hc : 0 ≤ v ∧ v < ((2 ^ cN s.1 : Nat) : Int) := by
      apply Classical.byContradiction; intro z; rw [if_neg z] at c; exact c rfl
    obtain ⟨pl, rfl, -, hpl⟩ := natOf (v := v) (a := 0) (b := 2 ^ cN s.1 - 1) (by omega) (by generalize 2 ^ cN s.1 = z at *; omega)
    have hpl2 : pl < 2 ^ cN s.1 := by omega
    rw [s0]
    refine s_isGood h4 h8 (by omega) ⟨by split <;> decide, fun c2 => ?_, fun c2 => ?_⟩
    · have hg : GD (cN s.1) pl = true := by
        cases q : GD (cN s.1) pl
        · rw [q] at c2; exact absurd rfl c2
        · rfl
      rw [s2]
      refine ⟨⟨by omega, by omega⟩, fun c3 => ⟨by omega, by omega, ?_⟩, fun c3 => ?_⟩
      · intro σ3 e3 σ4 e4 σ5 e5
        have q5 : σ5 1 2 = ((cM s.1 + 1 : Nat) : Int) := by
          rw [e5, up_c _ _ (by decide), e4, up_same, e3, up_c _ _ (by decide)]; show σ 1 2 + 1 = _; rw [s2]; omega
        rw [q5]
        unfold wp_X9_change
        refine s_areKept h8 m0 hv ?_
        rw [if_pos hc]
        refine ⟨by decide, fun _ => ?_, fun z => absurd z (by decide)⟩
        refine s_misGood h8 (by omega) m0 ?_
        rw [← GD_lt hpl2, hg, if_pos rfl, m1]
        refine ⟨by decide, fun _ => ⟨⟨by omega, by omega⟩, fun _ => ⟨by omega, by omega, ?_⟩, fun z => by omega⟩, fun z => absurd z (by decide)⟩
        intro τ3 u3
        have w3 : τ3 1 1 = cM s.1 := by rw [u3, up_j _ (by omega)]; exact m1
        rw [w3]
        intro τ4 u4
        rw [show ((cM s.1 : Int) + 1) = ((cM s.1 + 1 : Nat) : Int) by omega]
        refine An_same ⟨by omega, by omega⟩ (hk ((cN s.1, cM s.1 + 1, (fun i => if i = cM s.1 then pl else cH s.1 i), cB s.1, cS s.1, cC s.1, cL s.1), s.2) σ5 τ4 (RR_put h (wfS_cfg h.1 ⟨h4, h8, by show cM s.1 + 1 ≤ 16; omega, fun i hi => ?_, hB, hS, hcal, hl1, hl12⟩ rfl) (suOK_cfg h.2.1 ⟨?_, ?_, ?_, ?_, ?_, fun i hi => ?_, fun i hi => ?_⟩ (fun k k1 k2 => ?_)) (moOK_cfg h.2.2.1 ⟨?_, ?_, ?_, ?_, ?_, fun i hi => ?_, fun i hi => ?_⟩ (fun j hj => ?_)) ?_ ?_ (fun k hk2 => ?_) (fun j _ => ?_) (fun d hd => ?_)))
        · show (if i = cM s.1 then pl else cH s.1 i) < 256 ∧ GD (cN s.1) (if i = cM s.1 then pl else cH s.1 i) = true
          by_cases z : i = cM s.1
          · rw [if_pos z]; exact ⟨by omega, hg⟩
          · rw [if_neg z]; exact hh i (by have : i < cM s.1 + 1 := hi; omega)
        · rw [e5, up_c _ _ (by decide), e4, up_j _ (by decide), e3, up_c _ _ (by decide)]; exact s0
        · exact q5
        · rw [e5, up_c _ _ (by decide), e4, up_j _ (by decide), e3, up_c _ _ (by decide)]; exact s3
        · rw [e5, up_c _ _ (by decide), e4, up_j _ (by decide), e3, up_c _ _ (by decide)]; exact s4
        · rw [e5, up_c _ _ (by decide), e4, up_j _ (by decide), e3, up_c _ _ (by decide)]; exact s6
        · show σ5 2 (i : Int) = ((if i = cM s.1 then pl else cH s.1 i : Nat) : Int)
          rw [e5, up_c _ _ (by decide), e4, up_c _ _ (by decide), e3]
          by_cases z : i = cM s.1
          · rw [if_pos z, z, up_same]
          · rw [if_neg z, up_j _ (by omega)]; exact sch i (by have : i < cM s.1 + 1 := hi; omega)
        · show σ5 3 (i : Int) = _
          rw [e5, up_c _ _ (by decide), e4, up_c _ _ (by decide), e3, up_c _ _ (by decide)]; exact scal i hi
        · rw [e5, up_ne _ (by omega), e4, up_ne _ (by omega), e3, up_ne _ (by omega)]
        · rw [u4, up_j _ (by decide), u3, up_j _ (by omega)]; exact m0
        · rw [u4, up_same]; rfl
        · rw [u4, up_j _ (by decide), u3, up_j _ (by omega)]; exact m2
        · rw [u4, up_j _ (by decide), u3, up_j _ (by omega)]; exact m3
        · rw [u4, up_j _ (by decide), u3, up_j _ (by omega)]; exact m4
        · show τ4 1 (8 + (i : Int)) = ((if i = cM s.1 then pl else cH s.1 i : Nat) : Int)
          rw [u4, up_j _ (by omega), u3]
          by_cases z : i = cM s.1
          · rw [if_pos z, z, up_same]
          · rw [if_neg z, up_j _ (by omega)]; exact mch i (by have : i < cM s.1 + 1 := hi; omega)
        · rw [u4, up_j _ (by omega), u3, up_j _ (by omega)]; exact mcal i hi
        · rw [u4, up_j _ (by omega), u3, up_j _ (by omega)]
        · rw [e5, up_same]
        · rw [e5, up_j _ (by decide), e4, up_c _ _ (by decide), e3, up_c _ _ (by decide)]
        · rw [e5, up_ne _ (by omega), e4, up_ne _ (by omega), e3, up_ne _ (by omega)]
        · rw [u4, up_c _ _ (by decide), u3, up_c _ _ (by decide)]
        · rw [u4, up_ne _ (by omega), u3, up_ne _ (by omega)]
      · unfold wp_X9_change
        refine s_areKept h8 m0 hv ?_
        rw [if_pos hc]
        refine ⟨by decide, fun _ => ?_, fun z => absurd z (by decide)⟩
        refine s_misGood h8 (by omega) m0 ?_
        rw [← GD_lt hpl2, hg, if_pos rfl, m1]
        exact ⟨by decide, fun _ => ⟨⟨by omega, by omega⟩, fun z => by omega, fun _ => An_same (by decide) hK⟩, fun z => absurd z (by decide)⟩
    · have hg : GD (cN s.1) pl = false := by
        cases q : GD (cN s.1) pl
        · rfl
        · rw [q] at c2; exact absurd c2 (by decide)
      unfold wp_X9_change
      refine s_areKept h8 m0 hv ?_
      rw [if_pos hc]
      refine ⟨by decide, fun _ => ?_, fun z => absurd z (by decide)⟩
      refine s_misGood h8 (by omega) m0 ?_
      rw [← GD_lt hpl2, hg]
      exact ⟨by decide, fun z => absurd rfl z, fun _ => An_same (by decide) hK⟩
  · have hc : ¬ (0 ≤ v ∧ v < ((2 ^ cN s.1 : Nat) : Int)) := fun z => by rw [if_pos z] at c; exact absurd c (by decide)
    unfold wp_X9_change
    refine s_areKept h8 m0 hv ?_
    rw [if_neg hc]
    exact ⟨by decide, fun z => absurd rfl z, fun _ => An_same (by decide) hK⟩
theorem op_good {s : Su} {σ τ : St} (h : RR s σ τ) {v : Int} (hv : rg v) {K : Kt} (hK : K σ τ) : wp_X8_good σ v (fun r1 => wp_X9_good τ v (fun r2 => An K r1 r2 σ τ)) := by
  have s0 : σ 1 0 = cN s.1 := h.2.1.1.1
  have m0 : τ 1 0 = cN s.1 := h.2.2.1.1.1
  have h4 := h.1.1.1
  have h8 := h.1.1.2.1
  have hp2 := p2_le h8
  unfold wp_X8_good
  refine s_isPlaces h8 s0 hv ⟨by split <;> decide, fun c => ?_, fun c => ?_⟩
  · have hc : 0 ≤ v ∧ v < ((2 ^ cN s.1 : Nat) : Int) := by
      apply Classical.byContradiction; intro z; rw [if_neg z] at c; exact c rfl
    obtain ⟨pl, rfl, -, hpl⟩ := natOf (v := v) (a := 0) (b := 2 ^ cN s.1 - 1) (by omega) (by generalize 2 ^ cN s.1 = z at *; omega)
    have hpl2 : pl < 2 ^ cN s.1 := by omega
    rw [s0]
    refine s_isGood h4 h8 (by omega) ?_
    have hm : ∀ r : Int, r = (if GD (cN s.1) pl then 1 else 0) → wp_X9_good τ pl (fun r2 => An K r r2 σ τ) := fun r hr => by
      unfold wp_X9_good
      refine s_areKept h8 m0 hv ?_
      rw [if_pos hc]
      refine ⟨by decide, fun _ => ?_, fun z => absurd z (by decide)⟩
      refine s_misGood h8 (by omega) m0 ?_
      rw [← GD_lt hpl2]
      cases q : GD (cN s.1) pl
      · rw [q] at hr; subst hr; exact ⟨by decide, fun _ => An_same (by decide) hK, fun z => absurd rfl z⟩
      · rw [q] at hr; subst hr; exact ⟨by decide, fun z => absurd z (by decide), fun _ => An_same (by decide) hK⟩
    cases q : GD (cN s.1) pl
    · exact ⟨by decide, fun _ => hm _ (by rw [q]; rfl), fun z => absurd rfl z⟩
    · exact ⟨by decide, fun z => absurd z (by decide), fun _ => hm _ (by rw [q]; rfl)⟩
  · have hc : ¬ (0 ≤ v ∧ v < ((2 ^ cN s.1 : Nat) : Int)) := fun z => by rw [if_pos z] at c; exact absurd c (by decide)
    unfold wp_X9_good
    refine s_areKept h8 m0 hv ?_
    rw [if_neg hc]
    exact ⟨by decide, fun z => absurd rfl z, fun _ => An_same (by decide) hK⟩
theorem s_becomes {σ : St} {a v : Int} (ha : 0 ≤ a) (hb : a < 91) {post : Int → St → Prop} (hp : post (σ 1 a) (up σ 1 a v)) : wp_X9_becomes σ a v post := ⟨ha, hb, ha, hb, fun σ1 e => by rw [e]; exact hp⟩
theorem s_setCalled {σ : St} {k : Nat} {x : Int} (hk : k = 1 ∨ k = 2) {post : St → Prop} (hp : post (up σ 0 (if k = 1 then 3 else 4) x)) : wp_X4_setCalledChange σ k x post := by
  unfold wp_X4_setCalledChange
  refine ⟨⟨by omega, by omega⟩, fun c => ?_, fun c => ?_⟩
  · intro σ1 e; rw [e]; rwa [if_neg (by omega)] at hp
  · intro σ1 e; rw [e]; rwa [if_pos (by omega)] at hp
theorem chOK_rg {n : Nat} {x : Int} (h : chOK n x) : rg x := by rcases h with e | ⟨b, e, hb, -⟩ <;> rw [e] <;> constructor <;> omega
