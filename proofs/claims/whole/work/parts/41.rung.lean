/-! the touch as rung on both sides -/
abbrev RFc (c : Cf) (r : Nat) : Nat → Nat := RF (cN c) (stp c) r
def RT (s : Su) (σ τ : St) : Prop := RR s σ τ ∧ σ 0 9 = 0 ∧ touOK σ 49 s.1 ∧ cmOK σ 49 (lastC s.1)
def RM (s : Su) (σ τ : St) : Prop := RR s σ τ ∧ mrOK τ (cN s.1) (stp s.1) (lastC s.1) ∧ τ 0 3 = lastC s.1
theorem touOK_cong {σ σ' : St} {o o' : Nat} {c : Cf} (h : touOK σ o c) (e0 : ∀ j : Int, j = 1 ∨ j = 2 → σ' o' j = σ o j) (e : ∀ k : Nat, 1 ≤ k → k < 4 → σ' (o' + k) = σ (o + k)) : touOK σ' o' c := by
  obtain ⟨⟨a, b, d⟩, f, g⟩ := h
  have e1 := e 1 (by decide) (by decide); have e2 := e 2 (by decide) (by decide); have e3 := e 3 (by decide) (by decide)
  refine ⟨⟨by rw [e0 2 (by simp)]; exact a, by rw [e2]; exact b, by rw [e3]; exact d⟩, by rw [e0 1 (by simp)]; exact f, by rw [e1]; exact g⟩
theorem cmOK_cong {σ σ' : St} {o o' last : Nat} (h : cmOK σ o last) (e7 : σ' o' 7 = σ o 7) (e1 : σ' (o' + 1) = σ (o + 1)) (e4 : σ' (o' + 4) = σ (o + 4)) : cmOK σ' o' last := by
  unfold cmOK rwX at *
  rw [e7, e1, e4]; exact h
/-- the touch's cells change, the set-up's do not -/
theorem RR_tou {s : Su} {σ τ σ' : St} (h : RR s σ τ) (ht : thOK s σ') (e0 : ∀ j : Int, j ≠ 9 → σ' 0 j = σ 0 j) (e : ∀ k, k ≠ 0 → ¬ (49 ≤ k ∧ k < 56) → σ' k = σ k) : RR s σ' τ := by
  obtain ⟨a1, a2, a3, a4, a5, a6, a7, a8, a9⟩ := h
  exact ⟨a1, suOK_cong a2 (fun k hk => e _ (by omega) (by omega)), a3, imOK_cong a4 (e0 8 (by decide)) (fun k h1 h2 => e k (by omega) (by omega)) rfl rfl, ht, fun j hj => by rw [e 62 (by decide) (by decide)]; exact a6 j hj, fun j hj => by rw [e 72 (by decide) (by decide)]; exact a7 j hj, txOK_cong a8 (e 74 (by decide) (by decide)) (e 75 (by decide) (by decide)) rfl rfl, tpOK_cong a9 (fun k hk => e k (by omega) (by omega)) rfl rfl rfl⟩
/-- the reference's scratch changes -/
theorem RR_scr {s : Su} {σ τ τ' : St} (h : RR s σ τ) (e1 : τ' 1 = τ 1) (e0 : ∀ j : Int, j = 2 ∨ j = 6 → τ' 0 j = τ 0 j) (e : ∀ d, d = 2 ∨ d = 5 ∨ d = 10 ∨ d = 11 ∨ d = 12 → τ' d = τ d) : RR s σ τ' := by
  obtain ⟨a1, a2, a3, a4, a5, a6, a7, a8, a9⟩ := h
  exact ⟨a1, a2, by rw [e1]; exact a3, imOK_cong a4 rfl (fun _ _ _ => rfl) (e0 2 (by simp)) (e 2 (by simp)), a5, a6, a7, txOK_cong a8 rfl rfl (e0 6 (by simp)) (e 5 (by simp)), tpOK_cong a9 (fun _ _ => rfl) (e 10 (by simp)) (e 11 (by simp)) (e 12 (by simp))⟩
theorem s_rung {s : Su} {σ τ : St} (h : RR s σ τ) {post : St → Prop} (hp : ∀ σ' : St, RT s σ' τ → (∀ j : Int, j ≠ 9 → σ' 0 j = σ 0 j) → (∀ k, k ≠ 0 → ¬ (49 ≤ k ∧ k < 56) → σ' k = σ k) → post σ') : wp_X8_rung σ post := by
  have ht := h.2.2.2.2.1
  unfold wp_X8_rung
  refine ⟨?_, fun c => ?_, fun c => ?_⟩
  · rcases ht.1 with z | z
    · rw [z]; decide
    · rw [z.1]; decide
  · rcases ht.1 with z | z
    · rw [z] at c; exact absurd c (by decide)
    · exact hp σ ⟨h, z⟩ (fun _ _ => rfl) (fun _ _ _ => rfl)
  · refine s_ring (c := s.1) (cfOK_cong h.2.1.1 (fun k hk => ?_)) h.1.1 (fun τ1 t1 t2 t3 => ?_)
    · show pk σ (blk 49 7 ++ blk 1 16) (7 + k) = _
      rw [pk_b2 (by omega), if_neg (by omega)]; congr 1; omega
    · intro σ1 e1 σ2 e2
      have e1' : σ1 = mrg σ (blk 49 7 ++ blk 1 16) τ1 := e1
      have g : ∀ k, k < 7 → σ2 (49 + k) = τ1 k := fun k hk => by
        rw [e2, up_ne _ (by omega), e1', mrg_b2, if_pos (by omega)]; congr 1; omega
      have g0 := g 0 (by decide)
      have ec : ∀ k, k ≠ 0 → ¬ (49 ≤ k ∧ k < 56) → σ2 k = σ k := fun k h0 h1 => by
        rw [e2, up_ne _ h0, e1', mrg_b2, if_neg (by omega)]
        by_cases z : 1 ≤ k ∧ k < 1 + 16
        · rw [if_pos z, t3 _ (by omega)]
          show pk σ (blk 49 7 ++ blk 1 16) (7 + (k - 1)) = _
          rw [pk_b2 (by omega), if_neg (by omega)]; congr 1; omega
        · rw [if_neg z]
      have e0 : ∀ j : Int, j ≠ 9 → σ2 0 j = σ 0 j := fun j hj => by
        rw [e2, up_j _ hj, e1', mrg_b2, if_neg (by omega), if_neg (by omega)]
      have h9 : σ2 0 9 = 0 := by rw [e2, up_same]
      have hto : touOK σ2 49 s.1 := touOK_cong t1 (fun j _ => by rw [g0]) (fun k h1 h2 => by rw [Nat.zero_add]; exact g k (by omega))
      have hcm : cmOK σ2 49 (lastC s.1) := Or.inl (by rw [g0]; exact t2)
      have hth : thOK s σ2 := ⟨Or.inr ⟨h9, hto, hcm⟩, fun j hj => by
        rw [g 6 (by decide), t3 6 (by decide)]
        show pk σ (blk 49 7 ++ blk 1 16) 6 _ = _
        rw [pk_b2 (by decide), if_pos (by decide)]; exact ht.2 j hj⟩
      exact hp σ2 ⟨RR_tou h hth e0 ec, h9, hto, hcm⟩ e0 ec
/-- after the rows have been compared -/
theorem RT_cpd {s : Su} {σ τ τ1 : St} (h : RT s σ τ) (hc : cpd (pk σ (blk 49 7)) τ1 (lastC s.1)) : RT s (mrg σ (blk 49 7) τ1) τ := by
  obtain ⟨hR, h9, hto, hcm⟩ := h
  obtain ⟨c1, c2, c3, c4, c5⟩ := hc
  have g : ∀ k, k < 7 → mrg σ (blk 49 7) τ1 (49 + k) = τ1 k := fun k hk => by
    rw [mrg_blk, if_pos (by omega)]; congr 1; omega
  have g0 := g 0 (by decide)
  have ec : ∀ k, ¬ (49 ≤ k ∧ k < 56) → mrg σ (blk 49 7) τ1 k = σ k := fun k h1 => by rw [mrg_blk, if_neg (by omega)]
  have q0 : ∀ j : Int, j ≠ 7 → mrg σ (blk 49 7) τ1 49 j = σ 49 j := fun j hj => by
    rw [g0, c4 j hj, pk_blk (by decide)]
  have qk : ∀ k : Nat, 1 ≤ k → k < 4 → mrg σ (blk 49 7) τ1 (49 + k) = σ (49 + k) := fun k h1 h2 => by
    rw [g k (by omega), c5 k (by omega) (by omega) (by omega), pk_blk (by omega)]
  have h9' : mrg σ (blk 49 7) τ1 0 9 = 0 := by rw [ec 0 (by decide)]; exact h9
  have hto' : touOK (mrg σ (blk 49 7) τ1) 49 s.1 := touOK_cong hto (fun j hj => q0 j (by omega)) qk
  have hcm' : cmOK (mrg σ (blk 49 7) τ1) 49 (lastC s.1) := by
    refine Or.inr ⟨by rw [g0]; exact c3, fun r hr => ?_⟩
    rw [g 4 (by decide), c1 r hr]
    congr 2
    funext q; unfold rwX
    rw [qk 1 (by decide) (by decide)]; rfl
  refine ⟨RR_tou hR ⟨Or.inr ⟨h9', hto', hcm'⟩, fun j hj => ?_⟩ (fun j _ => by rw [ec 0 (by decide)]) (fun k _ h1 => ec k h1), h9', hto', hcm'⟩
  rw [g 6 (by decide)]; exact c2 j hj
theorem RT_tc {s : Su} {σ τ : St} (h : RT s σ τ) : tcOK (pk σ (blk 49 7)) (lastC s.1) := by
  obtain ⟨hR, h9, hto, hcm⟩ := h
  refine tou_tc hR.1.1 (touOK_cong hto (fun j _ => by rw [pk_blk (by decide)]) (fun k h1 h2 => by rw [Nat.zero_add, pk_blk (by omega)])) (fun j hj => by rw [pk_blk (by decide)]; exact hR.2.2.2.2.1.2 j hj) (cmOK_cong hcm (by rw [pk_blk (by decide)]) (by rw [Nat.zero_add, pk_blk (by decide)]) (by rw [Nat.zero_add, pk_blk (by decide)]))
theorem RT_rw {s : Su} {σ τ : St} : rwX (pk σ (blk 49 7)) 0 = rwX σ 49 := by
  funext q; unfold rwX; rw [Nat.zero_add, pk_blk (by decide)]
theorem s_mrings {s : Su} {σ τ : St} (h : RR s σ τ) {post : St → Prop} (hp : ∀ τ' : St, RM s σ τ' → (∀ j : Int, j ≠ 3 → τ' 0 j = τ 0 j) → (∀ d, d ≠ 0 → d ≠ 3 → d ≠ 4 → τ' d = τ d) → post τ') : wp_X9_rings τ post := by
  refine s_rings h.2.2.1.1 h.1.1 (fun τ' t1 t2 t3 t4 => hp τ' ⟨RR_scr h (t4 1 (by decide) (by decide) (by decide)) (fun j hj => t3 j (by omega)) (fun d hd => t4 d (by omega) (by omega) (by omega)), t1, t2⟩ t3 t4)
theorem RM_rt {s : Su} {σ σ' τ τ' : St} (h : RM s σ τ) (h2 : RR s σ' τ) : RM s σ' τ := ⟨h2, h.2⟩
theorem lC_rg {s : Su} (h : wfS s) : rg ((lastC s.1 : Nat) : Int) := rgn (by have := lastC_le h.1; omega)
theorem RT_row {s : Su} {σ τ : St} (h : RT s σ τ) {r : Nat} (hr : r ≤ lastC s.1) : rwOK (cN s.1) (RFc s.1 r) (σ 50 (r : Int)) := h.2.2.1.2.2 r hr
theorem RT_last {s : Su} {σ τ : St} (h : RT s σ τ) : σ 49 1 = lastC s.1 := h.2.2.1.2.1
theorem RM_row {s : Su} {σ τ : St} (h : RM s σ τ) {r : Nat} (hr : r ≤ lastC s.1) : ∀ p, p < cN s.1 → τ 3 (8 * (r : Int) + p) = RFc s.1 r p := (h.2.1 r hr).1
theorem RFc_in {s : Su} (h : wfS s) {r : Nat} (hr : r ≤ lastC s.1) {p : Nat} (hp : p < cN s.1) : 1 ≤ RFc s.1 r p ∧ RFc s.1 r p ≤ cN s.1 := RF_in h.1.1 h.1.2.1 (stp_ok h.1 (Nat.le_refl _)) r hr p hp
/-- the place of a bell in a row -/
def PL (c : Cf) (r b : Nat) : Nat := plF (RFc c r) b 9 0
theorem PL_ok {s : Su} (h : wfS s) {r : Nat} (hr : r ≤ lastC s.1) {b : Nat} (h1 : 1 ≤ b) (h2 : b ≤ cN s.1) : PL s.1 r b < cN s.1 ∧ RFc s.1 r (PL s.1 r b) = b ∧ ∀ z, z < PL s.1 r b → RFc s.1 r z ≠ b := by
  have hg := stp_ok h.1 (Nat.le_refl (lastC s.1))
  obtain ⟨q, hq, e⟩ := RF_sur h.1.1 h.1.2.1 hg r hr b h1 h2
  have hu : ∀ z, z < q → RFc s.1 r z ≠ b := fun z hz e2 => by
    have := RF_inj h.1.1 h.1.2.1 hg r hr z q (by omega) hq (e2.trans e.symm)
    omega
  have : PL s.1 r b = q := plF_spec 9 0 q (Nat.zero_le _) (by have := h.1.2.1; omega) e (fun z _ hz => hu z hz)
  rw [this]; exact ⟨hq, e, hu⟩
theorem t_place {s : Su} {σ τ : St} (h : RT s σ τ) {r : Nat} (hr : r ≤ lastC s.1) {b : Nat} (h1 : 1 ≤ b) (h2 : b ≤ cN s.1) {post : Int → Prop} (hp : post ((PL s.1 r b : Int) + 1)) : wp_X2_placeOf (σ 50 (r : Int)) b post := by
  obtain ⟨a, e, u⟩ := PL_ok h.1.1 hr h1 h2
  have h8 := h.1.1.1.2.1
  exact s_placeOf h8 (RT_row h hr) h1 (by omega) a e u hp
theorem m_place {s : Su} {σ τ : St} (h : RM s σ τ) {r : Nat} (hr : r ≤ lastC s.1) {b : Nat} (h1 : 1 ≤ b) (h2 : b ≤ cN s.1) {post : Int → Prop} (hp : post ((PL s.1 r b : Int) + 1)) : wp_X9_place τ r b post := by
  obtain ⟨a, e, u⟩ := PL_ok h.1.1 hr h1 h2
  have h8 := h.1.1.1.2.1
  have hl := lastC_le h.1.1.1
  exact s_mplace h8 (by omega) (by omega) (RM_row h hr) (fun p hp => by have := RFc_in h.1.1 hr hp; omega) a e u hp
theorem t_bell {s : Su} {σ τ : St} (h : RT s σ τ) {r : Nat} (hr : r ≤ lastC s.1) {p : Nat} (hp1 : p < cN s.1) {post : Int → Prop} (hp : post (RFc s.1 r p : Nat)) : wp_X2_bellIn (σ 50 (r : Int)) ((p : Int) + 1) post := by
  have h8 := h.1.1.1.2.1
  have := (RT_row h hr).2 p (by omega)
  rw [if_pos hp1] at this
  exact s_bellIn (by omega) (by rw [this]; exact hp)
theorem s_isRow {s : Su} {σ τ : St} (h : RR s σ τ) {v : Int} (hv : rg v) {post : Int → St → Prop} (hp : ∀ σ' : St, RR s σ' τ → (∀ k, k ≠ 0 → ¬ (49 ≤ k ∧ k < 56) → σ' k = σ k) → post (if 0 ≤ v ∧ v ≤ (lastC s.1 : Int) then 1 else 0) σ') : wp_X8_isRow σ v post := by
  unfold wp_X8_isRow
  refine ⟨hv, fun c => ?_, fun c => s_rung h (fun σ1 h1 e0 e1 => ?_)⟩
  · have := hp σ h (fun _ _ _ => rfl); rwa [if_neg (by omega)] at this
  · have := hp σ1 h1.1 e1
    rw [RT_last h1]
    refine ⟨hv, lC_rg h.1, fun c2 => ?_, fun c2 => ?_⟩
    · rwa [if_neg (by omega)] at this
    · rwa [if_pos (by omega)] at this
theorem op_same {s : Su} {σ τ : St} (h : RR s σ τ) {v : Int} (hv : rg v) {K : Kt} (hk : ∀ s' σ' τ', RR s' σ' τ' → K σ' τ') : wp_X8_same σ v (fun r1 σ1 => wp_X9_same τ v (fun r2 τ1 => An K r1 r2 σ1 τ1)) := by
  have hl := lastC_le h.1.1
  unfold wp_X8_same
  refine s_isRow h hv (fun σ1 h1 _ => ibr (fun c => s_rung h1 (fun σ2 h2 _ _ => ?_)) (fun c => ?_))
  · obtain ⟨r, rfl, -, hr⟩ := natOf (v := v) (a := 0) (b := lastC s.1) (by omega) (by omega)
    refine s_firstAs (RT_tc h2) hr (fun τ3 t3 => ?_)
    intro σ3 e3
    have h3 : RT s σ3 τ := by rw [e3]; exact RT_cpd h2 t3
    unfold wp_X9_same
    refine s_mrings h3.1 (fun τ' m _ _ => ?_)
    rw [m.2.2]
    refine s_within hv (by decide) (lC_rg h.1) (ibs (fun _ => ?_) (fun z => absurd c z))
    refine s_mfirst (mr_mk m.1.1.1 m.2.1 m.2.2) hr ?_
    have e : fst (rwX (pk σ2 (blk 49 7)) 0) r = fst (rwX τ' 3) r := by
      rw [RT_rw (s := s) (τ := τ)]
      exact fst_cong (fun q hq => (tou_K h2.1.1.1 h2.2.2.1 q r (by omega) hr).trans (mr_K m.2.1 q r (by omega) hr).symm)
    rw [← e]
    exact An_same (rgn (by have := (fst_spec (rwX (pk σ2 (blk 49 7)) 0) r).1; omega)) (hk s σ3 τ' m.1)
  · unfold wp_X9_same
    refine s_mrings h1 (fun τ' m _ _ => ?_)
    rw [m.2.2]
    exact s_within hv (by decide) (lC_rg h.1) (ibs (fun z => absurd z c) (fun _ => An_same (by decide) (hk s _ _ m.1)))
theorem op_at {s : Su} {σ τ : St} (h : RR s σ τ) {v w : Int} (hv : rg v) (hw : rg w) {K : Kt} (hk : ∀ s' σ' τ', RR s' σ' τ' → K σ' τ') : wp_X8_at σ v w (fun r1 σ1 => wp_X9_at τ v w (fun r2 τ1 => An K r1 r2 σ1 τ1)) := by
  have hl := lastC_le h.1.1
  have h8 := h.1.1.2.1
  unfold wp_X8_at
  refine s_isRow h hv (fun σ1 h1 _ => ibs (fun c => ?_) (fun c => ?_))
  · refine s_isBell h8 h1.2.1.1.1 hw (ibr (fun c2 => s_rung h1 (fun σ2 h2 _ _ => ⟨by omega, by omega, ?_⟩)) (fun c2 => ?_))
    · obtain ⟨r, rfl, -, hr⟩ := natOf (v := v) (a := 0) (b := lastC s.1) (by omega) (by omega)
      obtain ⟨p, hp1, -, hp⟩ := natOf (v := w - 1) (a := 0) (b := cN s.1 - 1) (by omega) (by omega)
      have hw2 : w = (p : Int) + 1 := by omega
      have hp3 : p < cN s.1 := by omega
      rw [hw2]
      refine t_bell h2 hr hp3 ?_
      unfold wp_X9_at
      refine s_mrings h2.1 (fun τ' m _ _ => ?_)
      rw [m.2.2]
      refine s_within hv (by decide) (lC_rg h.1) (ibs (fun _ => ?_) (fun z => absurd c z))
      refine s_isPlace h8 m.1.2.2.1.1.1 (by rw [← hw2]; exact hw) (ibs (fun _ => ⟨by omega, by omega, ?_⟩) (fun z => absurd (by omega) z))
      rw [show 8 * (r : Int) + ((p : Int) + 1) - 1 = 8 * (r : Int) + p by omega, RM_row m hr p hp3]
      exact An_same (rgn (by have := RFc_in h.1 hr hp3; omega)) (hk s _ _ m.1)
    · unfold wp_X9_at
      refine s_mrings h1 (fun τ' m _ _ => ?_)
      rw [m.2.2]
      refine s_within hv (by decide) (lC_rg h.1) (ibs (fun _ => ?_) (fun z => absurd c z))
      exact s_isPlace h8 m.1.2.2.1.1.1 hw (ibs (fun z => absurd z c2) (fun _ => An_same (by decide) (hk s _ _ m.1)))
  · unfold wp_X9_at
    refine s_mrings h1 (fun τ' m _ _ => ?_)
    rw [m.2.2]
    exact s_within hv (by decide) (lC_rg h.1) (ibs (fun z => absurd z c) (fun _ => An_same (by decide) (hk s _ _ m.1)))
theorem op_where {s : Su} {σ τ : St} (h : RR s σ τ) {v w : Int} (hv : rg v) (hw : rg w) {K : Kt} (hk : ∀ s' σ' τ', RR s' σ' τ' → K σ' τ') : wp_X8_where σ v w (fun r1 σ1 => wp_X9_where τ v w (fun r2 τ1 => An K r1 r2 σ1 τ1)) := by
  have hl := lastC_le h.1.1
  have h8 := h.1.1.2.1
  unfold wp_X8_where
  refine s_isRow h hv (fun σ1 h1 _ => ibs (fun c => ?_) (fun c => ?_))
  · refine s_isBell h8 h1.2.1.1.1 hw (ibr (fun c2 => s_rung h1 (fun σ2 h2 _ _ => ⟨by omega, by omega, ?_⟩)) (fun c2 => ?_))
    · obtain ⟨r, rfl, -, hr⟩ := natOf (v := v) (a := 0) (b := lastC s.1) (by omega) (by omega)
      obtain ⟨b, rfl, hb1, hb⟩ := natOf (v := w) (a := 1) (b := cN s.1) (by omega) (by omega)
      refine t_place h2 hr hb1 hb ?_
      unfold wp_X9_where
      refine s_mrings h2.1 (fun τ' m _ _ => ?_)
      rw [m.2.2]
      refine s_within hv (by decide) (lC_rg h.1) (ibs (fun _ => ?_) (fun z => absurd c z))
      refine s_isPlace h8 m.1.2.2.1.1.1 hw (ibs (fun _ => ?_) (fun z => absurd c2 z))
      refine m_place m hr hb1 hb ?_
      have := (PL_ok h.1 hr hb1 hb).1
      exact An_same ⟨by omega, by omega⟩ (hk s _ _ m.1)
    · unfold wp_X9_where
      refine s_mrings h1 (fun τ' m _ _ => ?_)
      rw [m.2.2]
      refine s_within hv (by decide) (lC_rg h.1) (ibs (fun _ => ?_) (fun z => absurd c z))
      exact s_isPlace h8 m.1.2.2.1.1.1 hw (ibs (fun z => absurd z c2) (fun _ => An_same (by decide) (hk s _ _ m.1)))
  · unfold wp_X9_where
    refine s_mrings h1 (fun τ' m _ _ => ?_)
    rw [m.2.2]
    exact s_within hv (by decide) (lC_rg h.1) (ibs (fun z => absurd z c) (fun _ => An_same (by decide) (hk s _ _ m.1)))
/-- told, its eighth question apart -/
theorem op_told {s : Su} {σ τ : St} (h : RR s σ τ) {v : Int} (hv : rg v) {K : Kt} (hk : ∀ s' σ' τ', RR s' σ' τ' → K σ' τ') (hc : ∀ σ' : St, RT s σ' τ → wp_X7_course (pk σ' (blk 49 7)) (fun r9 => wp_X9_course τ (fun r2 τ1 => An K r9 r2 σ' τ1))) : wp_X8_told σ v (fun r1 σ1 => wp_X9_told τ v (fun r2 τ1 => An K r1 r2 σ1 τ1)) := by
  have hl := lastC_le h.1.1
  have hwf := h.1.1
  have ml : ∀ (σ' : St) (x : Int), RR s σ' τ → v ≠ 7 → (∀ τ' : St, RM s σ' τ' → (v = 0 → An K x (τ' 1 0) σ' τ') ∧ (v = 1 → An K x (τ' 1 1) σ' τ') ∧ (v = 2 → An K x (τ' 1 4) σ' τ') ∧ (v = 3 → An K x (τ' 0 3) σ' τ') ∧ (v = 4 → wp_X9_round τ' (fun r2 => An K x r2 σ' τ')) ∧ (v = 5 → wp_X9_wrongRow τ' (fun r2 => An K x r2 σ' τ')) ∧ (v = 6 → wp_X9_isTrue τ' (fun r2 => An K x r2 σ' τ')) ∧ (¬ (0 ≤ v ∧ v ≤ 6) → An K x (-1) σ' τ')) → wp_X9_told τ v (fun r2 τ1 => An K x r2 σ' τ1) := fun σ' x hr hv7 hm => by
    unfold wp_X9_told
    exact ⟨hv, fun _ => s_mrings hr (fun τ' m _ _ => ⟨hv, hm τ' m⟩), fun z => absurd z hv7⟩
  have na : ∀ {A : Prop} {a b : Int}, v = a → a ≠ b → v = b → A := fun e1 e2 e3 => absurd (e1.symm.trans e3) e2
  unfold wp_X8_told
  refine ⟨hv, fun c => ?_, fun c => ?_, fun c => ?_, fun c => ?_, fun c => ?_, fun c => ?_, fun c => ?_, fun c => ?_, fun c => ?_⟩
  · refine ml σ _ h (by omega) (fun τ' m => ⟨fun _ => ?_, na c (by decide), na c (by decide), na c (by decide), na c (by decide), na c (by decide), na c (by decide), fun z => by omega⟩)
    rw [h.2.1.1.1, m.1.2.2.1.1.1]; exact An_same (rgn (by have := hwf.2.1; omega)) (hk s _ _ m.1)
  · refine ml σ _ h (by omega) (fun τ' m => ⟨na c (by decide), fun _ => ?_, na c (by decide), na c (by decide), na c (by decide), na c (by decide), na c (by decide), fun z => by omega⟩)
    rw [h.2.1.1.2.1, m.1.2.2.1.1.2.1]; exact An_same (rgn (by have := hwf.2.2.1; omega)) (hk s _ _ m.1)
  · refine ml σ _ h (by omega) (fun τ' m => ⟨na c (by decide), na c (by decide), fun _ => ?_, na c (by decide), na c (by decide), na c (by decide), na c (by decide), fun z => by omega⟩)
    rw [h.2.1.1.2.2.2.2.1, m.1.2.2.1.1.2.2.2.2.1]; exact An_same (rgn (by have := hwf.2.2.2.2.2.2.2.2; omega)) (hk s _ _ m.1)
  · refine s_rung h (fun σ1 h1 _ _ => ml σ1 _ h1.1 (by omega) (fun τ' m => ⟨na c (by decide), na c (by decide), na c (by decide), fun _ => ?_, na c (by decide), na c (by decide), na c (by decide), fun z => by omega⟩))
    rw [RT_last h1, m.2.2]; exact An_same (lC_rg h.1) (hk s _ _ m.1)
  · refine s_rung h (fun σ2 h2 _ _ => s_roundRow (RT_tc h2) (fun τ3 t3 => ?_))
    intro σ3 e3
    have h3 : RT s σ3 τ := by rw [e3]; exact RT_cpd h2 t3
    refine ml σ3 _ h3.1 (by omega) (fun τ' m => ⟨na c (by decide), na c (by decide), na c (by decide), na c (by decide), fun _ => s_mround (mr_mk m.1.1.1 m.2.1 m.2.2) ?_, na c (by decide), na c (by decide), fun z => by omega⟩)
    rw [RT_rw (s := s) (τ := τ), rdF_eq (fun q r hq hr => (tou_K h2.1.1.1 h2.2.2.1 q r hq hr).trans (mr_K m.2.1 q r hq hr).symm)]
    exact An_same (sch_rg _ _ (by omega)) (hk s _ _ m.1)
  · refine s_rung h (fun σ2 h2 _ _ => s_falseRow (RT_tc h2) (fun τ3 t3 => ?_))
    intro σ3 e3
    have h3 : RT s σ3 τ := by rw [e3]; exact RT_cpd h2 t3
    refine ml σ3 _ h3.1 (by omega) (fun τ' m => ⟨na c (by decide), na c (by decide), na c (by decide), na c (by decide), na c (by decide), fun _ => s_wrongRow (mr_mk m.1.1.1 m.2.1 m.2.2) ?_, na c (by decide), fun z => by omega⟩)
    rw [RT_rw (s := s) (τ := τ), flF_eq (fun q r hq hr => (tou_K h2.1.1.1 h2.2.2.1 q r hq hr).trans (mr_K m.2.1 q r hq hr).symm)]
    exact An_same (sch_rg _ _ (by omega)) (hk s _ _ m.1)
  · refine s_rung h (fun σ2 h2 _ _ => s_isTrue (RT_tc h2) (fun τ3 t3 => ?_))
    intro σ3 e3
    have h3 : RT s σ3 τ := by
      rw [e3]
      rcases t3 with t3 | t3
      · rw [t3, show mrg σ2 [49, 50, 51, 52, 53, 54, 55] (pk σ2 (blk 49 7)) = σ2 from mrg_bpk (o := 49) (l := 7)]; exact h2
      · exact RT_cpd h2 t3
    have fin : ∀ x : Int, x = (if trF (rwX (pk σ2 (blk 49 7)) 0) (lastC s.1) = true then 1 else 0) → wp_X9_told τ v (fun r2 τ1 => An K x r2 σ3 τ1) := fun x hx => by
      refine ml σ3 _ h3.1 (by omega) (fun τ' m => ⟨na c (by decide), na c (by decide), na c (by decide), na c (by decide), na c (by decide), na c (by decide), fun _ => s_misTrue (mr_mk m.1.1.1 m.2.1 m.2.2) ?_, fun z => by omega⟩)
      rw [hx, RT_rw (s := s) (τ := τ), trF_eq (fun q r hq hr => (tou_K h2.1.1.1 h2.2.2.1 q r hq hr).trans (mr_K m.2.1 q r hq hr).symm)]
      exact An_same (by split <;> decide) (hk s _ _ m.1)
    exact ibs (fun z => fin 1 (by rw [if_pos z])) (fun z => fin 0 (by rw [if_neg z]))
  · refine s_rung h (fun σ2 h2 _ _ => ?_)
    have := hc σ2 h2
    unfold wp_X9_told
    have hx : ∀ r9 : Int, wp_X9_course τ (fun r2 τ1 => An K r9 r2 σ2 τ1) → (rg v ∧ (¬ v = 7 → (wp_X9_rings τ (fun σ1 => (rg v ∧ (v = 0 → An K r9 (σ1 1 0) σ2 σ1) ∧ (v = 1 → An K r9 (σ1 1 1) σ2 σ1) ∧ (v = 2 → An K r9 (σ1 1 4) σ2 σ1) ∧ (v = 3 → An K r9 (σ1 0 3) σ2 σ1) ∧ (v = 4 → (wp_X9_round σ1 (fun r2 => An K r9 r2 σ2 σ1))) ∧ (v = 5 → (wp_X9_wrongRow σ1 (fun r3 => An K r9 r3 σ2 σ1))) ∧ (v = 6 → (wp_X9_isTrue σ1 (fun r4 => An K r9 r4 σ2 σ1))) ∧ (¬ (0 ≤ v ∧ v ≤ 6) → An K r9 (-1) σ2 σ1))))) ∧ (v = 7 → (wp_X9_course τ (fun r5 σ5 => An K r9 r5 σ2 σ5)))) := fun r9 z => ⟨hv, fun z2 => absurd c z2, fun _ => z⟩
    rw [show (fun r9 => (rg v ∧ (¬ v = 7 → (wp_X9_rings τ (fun σ1 => (rg v ∧ (v = 0 → An K r9 (σ1 1 0) σ2 σ1) ∧ (v = 1 → An K r9 (σ1 1 1) σ2 σ1) ∧ (v = 2 → An K r9 (σ1 1 4) σ2 σ1) ∧ (v = 3 → An K r9 (σ1 0 3) σ2 σ1) ∧ (v = 4 → (wp_X9_round σ1 (fun r2 => An K r9 r2 σ2 σ1))) ∧ (v = 5 → (wp_X9_wrongRow σ1 (fun r3 => An K r9 r3 σ2 σ1))) ∧ (v = 6 → (wp_X9_isTrue σ1 (fun r4 => An K r9 r4 σ2 σ1))) ∧ (¬ (0 ≤ v ∧ v ≤ 6) → An K r9 (-1) σ2 σ1))))) ∧ (v = 7 → (wp_X9_course τ (fun r5 σ5 => An K r9 r5 σ2 σ5))))) = (fun r9 => wp_X9_course τ (fun r2 τ1 => An K r9 r2 σ2 τ1)) from funext (fun r9 => propext ⟨fun z => z.2.2 c, hx r9⟩)]
    exact this
  · exact ml σ _ h (by omega) (fun τ' m => ⟨fun z => by omega, fun z => by omega, fun z => by omega, fun z => by omega, fun z => by omega, fun z => by omega, fun z => by omega, fun _ => An_same (by decide) (hk s _ _ m.1)⟩)
