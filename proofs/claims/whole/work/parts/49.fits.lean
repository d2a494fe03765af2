/-! fits -/
def upc (c : Cf) (pl : Nat) : Cf := (cN c, cM c, (fun i => if i = cM c - 1 then pl else cH c i), cB c, cS c, cC c, cL c)
theorem upc_wf {c : Cf} (hw : wfC c) {pl : Nat} (hpl : pl < 256) (hg : GD (cN c) pl = true) : wfC (upc c pl) := by
  obtain ⟨h4, h8, h16, hh, hB, hS, hcal, hl1, hl12⟩ := hw
  refine ⟨h4, h8, h16, fun i hi => ?_, hB, hS, hcal, hl1, hl12⟩
  show (if i = cM c - 1 then pl else cH c i) < 256 ∧ GD (cN c) (if i = cM c - 1 then pl else cH c i) = true
  by_cases z : i = cM c - 1
  · rw [if_pos z]; exact ⟨hpl, hg⟩
  · rw [if_neg z]; exact hh i hi
theorem upc_self {σ : St} {o : Nat} {c : Cf} (h : cfOK σ o c) : cfOK σ o (upc c (cH c (cM c - 1))) := by
  obtain ⟨a0, a2, a3, a4, a6, a7, a8⟩ := h
  refine ⟨a0, a2, a3, a4, a6, fun i hi => ?_, a8⟩
  show σ (o + 1) (i : Int) = ((if i = cM c - 1 then cH c (cM c - 1) else cH c i : Nat) : Int)
  by_cases z : i = cM c - 1
  · rw [if_pos z, ← z]; exact a7 i hi
  · rw [if_neg z]; exact a7 i hi
theorem upc_put {σ : St} {o : Nat} {c : Cf} {q pl : Nat} (h : cfOK σ o (upc c q)) (hM : 0 < cM c) : cfOK (up σ (o + 1) ((cM c - 1 : Nat) : Int) pl) o (upc c pl) := by
  obtain ⟨a0, a2, a3, a4, a6, a7, a8⟩ := h
  refine ⟨?_, ?_, ?_, ?_, ?_, fun i hi => ?_, fun i hi => ?_⟩
  · rw [up_c _ _ (by omega)]; exact a0
  · rw [up_c _ _ (by omega)]; exact a2
  · rw [up_c _ _ (by omega)]; exact a3
  · rw [up_c _ _ (by omega)]; exact a4
  · rw [up_c _ _ (by omega)]; exact a6
  · show _ = ((if i = cM c - 1 then pl else cH c i : Nat) : Int)
    by_cases z : i = cM c - 1
    · rw [if_pos z, z, up_same]
    · rw [if_neg z, up_j _ (by omega)]
      have := a7 i hi
      rw [this]; show ((if i = cM c - 1 then q else cH c i : Nat) : Int) = _
      rw [if_neg z]
  · rw [up_c _ _ (by omega)]; exact a8 i hi
theorem RR_trial {s : Su} {σ τ σ' : St} (h : RR s σ τ) (e : ∀ k, ¬ (33 ≤ k ∧ k < 49) → ¬ (56 ≤ k ∧ k < 62) → σ' k = σ k) : RR s σ' τ := by
  obtain ⟨a1, a2, a3, a4, a5, a6, a7, a8, a9⟩ := h
  refine ⟨a1, suOK_cong a2 (fun k hk => e _ (by omega) (by omega)), a3, imOK_cong a4 (by rw [e 0 (by decide) (by decide)]) (fun k h1 h2 => e k (by omega) (by omega)) rfl rfl, ⟨?_, fun j hj => by rw [e 55 (by decide) (by decide)]; exact a5.2 j hj⟩, fun j hj => by rw [e 62 (by decide) (by decide)]; exact a6 j hj, fun j hj => by rw [e 72 (by decide) (by decide)]; exact a7 j hj, txOK_cong a8 (e 74 (by decide) (by decide)) (e 75 (by decide) (by decide)) rfl rfl, tpOK_cong a9 (fun k hk => e k (by omega) (by omega)) rfl rfl rfl⟩
  rw [e 0 (by decide) (by decide)]
  rcases a5.1 with z | ⟨z1, z2, z3⟩
  · exact Or.inl z
  · exact Or.inr ⟨z1, touOK_cong z2 (fun j _ => by rw [e 49 (by decide) (by decide)]) (fun k h1 h2 => e _ (by omega) (by omega)), cmOK_cong z3 (by rw [e 49 (by decide) (by decide)]) (e _ (by decide) (by decide)) (e _ (by decide) (by decide))⟩
/-- does the touch with this last change show what was seen -/
def seI (s : Su) (pl i : Nat) : Bool := !decide ((sSe s).2.1 i ≤ lastC s.1) || RFc (upc s.1 pl) ((sSe s).2.1 i) ((sSe s).2.2.1 i - 1) == (sSe s).2.2.2 i
def seB (s : Su) (pl : Nat) : Bool := allU (seI s pl) (sSe s).1 0
theorem allU_t {p : Nat → Bool} {k r : Nat} (h : p r = true) : allU p (k + 1) r = allU p k (r + 1) := by
  show (p r && allU p k (r + 1)) = _
  rw [h, Bool.true_and]
theorem allU_f {p : Nat → Bool} {k r : Nat} (h : p r = false) : allU p (k + 1) r = false := by
  show (p r && allU p k (r + 1)) = _
  rw [h, Bool.false_and]
theorem s_fitsLast {s : Su} {σ τ : St} (h : RR s σ τ) {q : Nat} (hc : cfOK σ 33 (upc s.1 q)) (hM : 0 < cM s.1) {pl : Nat} (hpl : pl < 256) (hg : GD (cN s.1) pl = true) {post : Int → St → Prop} (hp : ∀ σ' : St, RR s σ' τ → cfOK σ' 33 (upc s.1 pl) → post (if seB s pl then 1 else 0) σ') : wp_X8_fitsLast σ pl post := by
  have hw := h.1.1
  have h8 := hw.2.1
  have h16 := hw.2.2.1
  have hw' := upc_wf hw hpl hg
  have hl : lastC s.1 ≤ 192 := lastC_le hw
  unfold wp_X8_fitsLast
  rw [show σ 33 2 = (cM s.1 : Int) from hc.2.1]
  refine ⟨⟨by omega, by omega⟩, fun _ => ⟨by omega, by omega, ?_⟩, fun z => by omega⟩
  intro σ1 e1
  rw [show (cM s.1 : Int) - 1 = ((cM s.1 - 1 : Nat) : Int) by omega] at e1
  have hc1 : cfOK σ1 33 (upc s.1 pl) := by rw [e1]; exact upc_put (o := 33) hc hM
  refine s_ring (c := upc s.1 pl) (cfOK_cong hc1 (fun k hk => ?_)) hw' (fun ρ t1 t2 t3 => ?_)
  · show pk σ1 (blk 56 7 ++ blk 33 16) (7 + k) = _
    rw [pk_b2 (by omega), if_neg (by omega)]; congr 1; omega
  intro σ2 e2
  have e2' : σ2 = mrg σ1 (blk 56 7 ++ blk 33 16) ρ := e2
  have g : ∀ k, k < 7 → σ2 (56 + k) = ρ k := fun k hk => by rw [e2', mrg_b2, if_pos (by omega)]; congr 1; omega
  have e33 : ∀ k, 33 ≤ k → k < 49 → σ2 k = σ1 k := fun k h1 h2 => by
    rw [e2', mrg_b2, if_neg (by omega), if_pos (by omega), t3 _ (by omega)]
    show pk σ1 (blk 56 7 ++ blk 33 16) (7 + (k - 33)) = _
    rw [pk_b2 (by omega), if_neg (by omega)]; congr 1; omega
  have hc2 : cfOK σ2 33 (upc s.1 pl) := cfOK_cong hc1 (fun k hk => e33 _ (by omega) (by omega))
  have hR : RR s σ2 τ := RR_trial h (fun k h1 h2 => by
    by_cases z : k = 62
    · subst z
      rw [show (62 : Nat) = 56 + 6 from rfl, g 6 (by decide), t3 6 (by decide)]
      show pk σ1 (blk 56 7 ++ blk 33 16) 6 = _
      rw [pk_b2 (by decide), if_pos (by decide), e1, up_ne _ (by decide)]
    · rw [e2', mrg_b2, if_neg (by omega), if_neg (by omega), e1, up_ne _ (by omega)])
  have hto : touOK σ2 56 (upc s.1 pl) := touOK_cong t1 (fun j _ => by rw [show (56 : Nat) = 56 + 0 from rfl, g 0 (by decide)]) (fun k h1 h2 => by rw [Nat.zero_add]; exact g k (by omega))
  have hlast : σ2 56 1 = (lastC s.1 : Int) := hto.2.1
  have hrow : ∀ r, r ≤ lastC s.1 → rwOK (cN s.1) (RFc (upc s.1 pl) r) (σ2 57 (r : Int)) := fun r hr => hto.2.2 r hr
  obtain ⟨hsz, hse⟩ := h.1.2.2.1
  obtain ⟨q3, qe⟩ := hR.2.1.2.2.1
  have loop : ∀ (k fu v : Nat), v + k = (sSe s).1 → k < fu → post (if allU (seI s pl) k v then 1 else 0) σ2 → wp_X8_fitsLast_48 post fu v σ2 := by
    intro k
    induction k with
    | zero =>
      intro fu v e hf hp
      obtain ⟨fu, rfl⟩ : ∃ f, fu = f + 1 := ⟨fu - 1, by omega⟩
      unfold wp_X8_fitsLast_48
      rw [show σ2 5 3 = _ from q3]
      exact ⟨rgn (by omega), rgn (by omega), fun _ => hp, fun z => by omega⟩
    | succ k ih =>
      intro fu v e hf hp
      obtain ⟨fu, rfl⟩ : ∃ f, fu = f + 1 := ⟨fu - 1, by omega⟩
      obtain ⟨w1, w2, w3⟩ := hse v (by omega)
      obtain ⟨y1, y2, y3⟩ := qe v (by omega)
      unfold wp_X8_fitsLast_48
      rw [show σ2 5 3 = _ from q3, show σ2 6 (v : Int) = _ from y1, show σ2 7 (v : Int) = _ from y2, show σ2 8 (v : Int) = _ from y3, hlast]
      have nx : seI s pl v = true → wp_X8_fitsLast_110 (wp_X8_fitsLast_48 post fu) post v σ2 := fun z => by
        show wp_X8_fitsLast_48 post fu ((v : Int) + 1) σ2
        rw [show (v : Int) + 1 = ((v + 1 : Nat) : Int) by omega]
        refine ih fu (v + 1) (by omega) (by omega) ?_
        rwa [allU_t z] at hp
      refine ⟨rgn (by omega), rgn (by omega), fun z => by omega, fun _ => ⟨by omega, by omega, rgn (by omega), rgn (by omega), fun c => nx ?_, fun c => ⟨by omega, by omega, by omega, by omega, ?_⟩⟩⟩
      · unfold seI; rw [Bool.or_eq_true]; exact Or.inl (by simp; omega)
      · have hr : (sSe s).2.1 v ≤ lastC s.1 := by omega
        have hin := RF_in hw'.1 hw'.2.1 (stp_ok hw' (Nat.le_refl (lastC s.1))) ((sSe s).2.1 v) hr ((sSe s).2.2.1 v - 1) (by show _ < cN s.1; omega)
        have hrw := (hrow _ hr).2 ((sSe s).2.2.1 v - 1) (by omega)
        rw [if_pos (by omega)] at hrw
        rw [show (((sSe s).2.2.1 v : Nat) : Int) = (((sSe s).2.2.1 v - 1 : Nat) : Int) + 1 by omega]
        refine s_bellIn (by omega) ?_
        rw [hrw]
        have hin2 : RFc (upc s.1 pl) ((sSe s).2.1 v) ((sSe s).2.2.1 v - 1) ≤ cN s.1 := hin.2
        refine ⟨by omega, by omega, rgn (by omega), rgn (by omega), fun c2 => nx ?_, fun c2 => ?_⟩
        · unfold seI; rw [Bool.or_eq_true]; exact Or.inr (by rw [beq_iff_eq]; omega)
        · rwa [allU_f, if_neg (by decide)] at hp
          unfold seI
          rw [Bool.or_eq_false_iff, beq_eq_false_iff_ne]
          exact ⟨by simp; omega, by omega⟩
  exact ⟨(sSe s).1 + 1, loop (sSe s).1 ((sSe s).1 + 1) 0 (by omega) (by omega) (hp σ2 hR hc2)⟩
def fb (s : Su) (pl : Nat) : Bool := GD (cN s.1) pl && seB s pl
theorem t_fits {s : Su} {τ : St} (hM : 0 < cM s.1) {v : Int} (hv : rg v) {post : Int → St → Prop} : ∀ (k fu r a : Nat) (f : Int) (q : Nat) (σ : St), RR s σ τ → cfOK σ 33 (upc s.1 q) → r + k = 2 ^ cN s.1 → k < fu → a ≤ r → rg f → (∀ σ' : St, RR s σ' τ → post (if v = 0 then ((cntF (fb s) k r a : Nat) : Int) else if f = -5 then sch (fb s) k r else f) σ') → wp_X8_fits_55 post fu v a f ((2 ^ cN s.1 : Nat) : Int) r σ := by
  intro k
  induction k with
  | zero =>
    intro fu r a f q σ h hc e hf ha hfr hp
    obtain ⟨fu, rfl⟩ : ∃ f, fu = f + 1 := ⟨fu - 1, by omega⟩
    have hp2 := p2_le h.1.1.2.1
    unfold wp_X8_fits_55
    have := hp σ h
    refine ⟨rgn (by omega), rgn (by omega), fun _ => ⟨hv, fun c => ?_, fun c => ?_⟩, fun z => by omega⟩
    · rw [if_neg c] at this
      by_cases z : f = -5
      · rw [if_pos z] at this; rw [z]; exact this
      · rwa [if_neg z] at this
    · rwa [if_pos c] at this
  | succ k ih =>
    intro fu r a f q σ h hc e hf ha hfr hp
    obtain ⟨fu, rfl⟩ : ∃ f, fu = f + 1 := ⟨fu - 1, by omega⟩
    have h4 := h.1.1.1
    have h8 := h.1.1.2.1
    have hp2 := p2_le h8
    unfold wp_X8_fits_55
    rw [show σ 1 0 = _ from h.2.1.1.1]
    have no : fb s r = false → ∀ (q : Nat) (σ' : St), RR s σ' τ → cfOK σ' 33 (upc s.1 q) → wp_X8_fits_102 (wp_X8_fits_55 post fu) post v a f ((2 ^ cN s.1 : Nat) : Int) r σ' := fun z q σ' h' hc' => by
      show wp_X8_fits_55 post fu v a f ((2 ^ cN s.1 : Nat) : Int) ((r : Int) + 1) σ'
      rw [show (r : Int) + 1 = ((r + 1 : Nat) : Int) by omega]
      refine ih fu (r + 1) a f q σ' h' hc' (by omega) (by omega) (by omega) hfr (fun σ'' h'' => ?_)
      have := hp σ'' h''
      rwa [cntF_f z, sch_f z] at this
    have hr : r < 256 := by omega
    refine ⟨rgn (by omega), rgn (by omega), fun z => by omega, fun _ => ?_⟩
    refine s_isGood h4 h8 hr (ibs (fun c => ?_) (fun c => no (by unfold fb; rw [Bool.and_eq_false_iff]; exact Or.inl (by simpa using c)) q σ h hc))
    refine s_fitsLast h hc hM hr c (fun σ2 h2 hc2 => ibs (fun c2 => ?_) (fun c2 => no (by unfold fb; rw [Bool.and_eq_false_iff]; exact Or.inr (by simpa using c2)) r σ2 h2 hc2))
    have z : fb s r = true := by unfold fb; rw [Bool.and_eq_true]; exact ⟨c, c2⟩
    refine ⟨hfr, fun c3 => ?_, fun c3 => ?_⟩
    · show wp_X8_fits_55 post fu v ((a : Int) + 1) f ((2 ^ cN s.1 : Nat) : Int) ((r : Int) + 1) σ2
      rw [show (r : Int) + 1 = ((r + 1 : Nat) : Int) by omega, show (a : Int) + 1 = ((a + 1 : Nat) : Int) by omega]
      refine ih fu (r + 1) (a + 1) f r σ2 h2 hc2 (by omega) (by omega) (by omega) hfr (fun σ'' h'' => ?_)
      have := hp σ'' h''
      rw [cntF_t z, if_neg c3] at this
      rwa [if_neg c3]
    · show wp_X8_fits_55 post fu v ((a : Int) + 1) r ((2 ^ cN s.1 : Nat) : Int) ((r : Int) + 1) σ2
      rw [show (r : Int) + 1 = ((r + 1 : Nat) : Int) by omega, show (a : Int) + 1 = ((a + 1 : Nat) : Int) by omega]
      refine ih fu (r + 1) (a + 1) r r σ2 h2 hc2 (by omega) (by omega) (by omega) (rgn (by omega)) (fun σ'' h'' => ?_)
      have := hp σ'' h''
      rw [cntF_t z, if_pos c3, sch_t z] at this
      rwa [if_neg (show ¬ (r : Int) = -5 by omega)]
theorem m_isSeen {s : Su} {τ : St} {c : Cf} {pl : Nat} (hc : c = upc s.1 pl) (hwS : wfS s) (hw : wfC c) (h5 : τ 1 5 = (sSe s).1) (hse : ∀ i, i < (sSe s).1 → τ 1 (44 + 3 * (i : Int)) = (sSe s).2.1 i ∧ τ 1 (44 + 3 * (i : Int) + 1) = (sSe s).2.2.1 i ∧ τ 1 (44 + 3 * (i : Int) + 2) = (sSe s).2.2.2 i) (hm : mrOK τ (cN c) (stp c) (lastC c)) (h3 : τ 0 3 = lastC c) {post : Int → Prop} (hp : post (if seB s pl then 1 else 0)) : wp_X9_isSeen τ post := by
  subst hc
  have hl : lastC s.1 ≤ 192 := (lastC_le hw : lastC (upc s.1 pl) ≤ 192)
  have h8 : cN s.1 ≤ 8 := hw.2.1
  obtain ⟨hsz, hs2⟩ := hwS.2.2.1
  have h3' : τ 0 3 = (lastC s.1 : Int) := h3
  have loop : ∀ (k fu v : Nat), v + k = (sSe s).1 → k < fu → post (if allU (seI s pl) k v then 1 else 0) → wp_X9_isSeen_2 post fu v τ := by
    intro k
    induction k with
    | zero =>
      intro fu v e hf hp
      obtain ⟨fu, rfl⟩ : ∃ f, fu = f + 1 := ⟨fu - 1, by omega⟩
      unfold wp_X9_isSeen_2
      rw [h5]
      exact ⟨rgn (by omega), rgn (by omega), fun _ => hp, fun z => by omega⟩
    | succ k ih =>
      intro fu v e hf hp
      obtain ⟨fu, rfl⟩ : ∃ f, fu = f + 1 := ⟨fu - 1, by omega⟩
      obtain ⟨w1, w2, w3⟩ := hs2 v (by omega)
      obtain ⟨y1, y2, y3⟩ := hse v (by omega)
      unfold wp_X9_isSeen_2
      rw [h5, y1, y2, y3, h3']
      have nx : seI s pl v = true → wp_X9_isSeen_70 (wp_X9_isSeen_2 post fu) post v τ := fun z => by
        show wp_X9_isSeen_2 post fu ((v : Int) + 1) τ
        rw [show (v : Int) + 1 = ((v + 1 : Nat) : Int) by omega]
        refine ih fu (v + 1) (by omega) (by omega) ?_
        rwa [allU_t z] at hp
      refine ⟨rgn (by omega), rgn (by omega), fun z => by omega, fun _ => ⟨by omega, by omega, rgn (by omega), rgn (by omega), fun c => nx ?_, fun c => ⟨by omega, by omega, by omega, by omega, by omega, by omega, by omega, by omega, ?_⟩⟩⟩
      · unfold seI; rw [Bool.or_eq_true]; exact Or.inl (by simp; omega)
      · have hr : (sSe s).2.1 v ≤ lastC s.1 := by omega
        have hlt : (sSe s).2.2.1 v - 1 < cN s.1 := by omega
        have hin := RF_in hw.1 hw.2.1 (stp_ok hw (Nat.le_refl (lastC s.1))) ((sSe s).2.1 v) hr ((sSe s).2.2.1 v - 1) hlt
        have hin2 : RFc (upc s.1 pl) ((sSe s).2.1 v) ((sSe s).2.2.1 v - 1) ≤ cN s.1 := hin.2
        have hrw := (hm _ hr).1 ((sSe s).2.2.1 v - 1) hlt
        rw [show 8 * (((sSe s).2.1 v : Nat) : Int) + (((sSe s).2.2.1 v : Nat) : Int) - 1 = 8 * (((sSe s).2.1 v : Nat) : Int) + (((sSe s).2.2.1 v - 1 : Nat) : Int) by omega, hrw]
        refine ⟨rgn (by show RFc (upc s.1 pl) ((sSe s).2.1 v) ((sSe s).2.2.1 v - 1) ≤ 1000; omega), rgn (by omega), fun c2 => nx ?_, fun c2 => ?_⟩
        · unfold seI; rw [Bool.or_eq_true]; refine Or.inr ?_
          rw [beq_iff_eq]; have c3 : ((RFc (upc s.1 pl) ((sSe s).2.1 v) ((sSe s).2.2.1 v - 1) : Nat) : Int) = _ := c2; omega
        · rwa [allU_f, if_neg (by decide)] at hp
          unfold seI
          rw [Bool.or_eq_false_iff, beq_eq_false_iff_ne]
          refine ⟨by simp; omega, fun z => c2 ?_⟩
          have : ((RFc (upc s.1 pl) ((sSe s).2.1 v) ((sSe s).2.2.1 v - 1) : Nat) : Int) = ((sSe s).2.2.2 v : Nat) := by rw [z]
          exact this
  exact ⟨(sSe s).1 + 1, loop (sSe s).1 ((sSe s).1 + 1) 0 (by omega) (by omega) hp⟩
theorem cntF_add (p : Nat → Bool) : ∀ k r a, cntF p k r a = a + cntF p k r 0
  | 0, _, _ => rfl
  | k + 1, r, a => by
    by_cases h : p r = true
    · rw [cntF_t h, cntF_t h, cntF_add p k (r + 1) (a + 1), cntF_add p k (r + 1) (0 + 1)]; omega
    · have h' : p r = false := by simpa using h
      rw [cntF_f h', cntF_f h', cntF_add p k (r + 1) a]
theorem mc_upc {f : Int → Int} {f' : Int → Int} {c : Cf} {pl : Nat} (h : mcOK f c) (hM : 0 < cM c) (h16 : cM c ≤ 16) (e : ∀ j : Int, j ≠ 8 + ((cM c - 1 : Nat) : Int) → f' j = f j) (e2 : f' (8 + ((cM c - 1 : Nat) : Int)) = pl) : mcOK f' (upc c pl) := by
  obtain ⟨a0, a1, a2, a3, a4, a5, a6⟩ := h
  refine ⟨?_, ?_, ?_, ?_, ?_, fun i hi => ?_, fun i hi => ?_⟩
  · rw [e _ (by omega)]; exact a0
  · rw [e _ (by omega)]; exact a1
  · rw [e _ (by omega)]; exact a2
  · rw [e _ (by omega)]; exact a3
  · rw [e _ (by omega)]; exact a4
  · show f' (8 + (i : Int)) = ((if i = cM c - 1 then pl else cH c i : Nat) : Int)
    by_cases z : i = cM c - 1
    · rw [if_pos z, z]; exact e2
    · rw [if_neg z, e _ (by omega)]; exact a5 i hi
  · rw [e _ (by omega)]; exact a6 i hi
theorem op_fits {s : Su} {σ τ : St} (h : RR s σ τ) {v : Int} (hv : rg v) {K : Kt} (hk : ∀ s' σ' τ', RR s' σ' τ' → K σ' τ') : wp_X8_fits σ v (fun r1 σ1 => wp_X9_fits τ v (fun r2 τ1 => An K r1 r2 σ1 τ1)) := by
  have hw := h.1.1
  have h4 := hw.1
  have h8 := hw.2.1
  have h16 := hw.2.2.1
  have hp2 := p2_le h8
  have hl := lastC_le hw
  have key : (v = 0 ∨ v = 1) → wp_X8_fits_11 (fun r1 σ1 => wp_X9_fits τ v (fun r2 τ1 => An K r1 r2 σ1 τ1)) v σ := by
    intro hv01
    refine s_scopy (s := s) (suOK_cong h.2.1 (fun k hk => ?_)) h.1 (fun ρ t1 t2 => ?_)
    · show pk σ (blk 33 16 ++ blk 1 16) (16 + k) = _
      rw [pk_b2 (by omega), if_neg (by omega)]; congr 1; omega
    intro σ1 e1
    have e1' : σ1 = mrg σ (blk 33 16 ++ blk 1 16) ρ := e1
    have h1 : RR s σ1 τ := RR_trial h (fun k z1 z2 => by
      rw [e1', mrg_b2, if_neg (by omega)]
      by_cases z : 1 ≤ k ∧ k < 1 + 16
      · rw [if_pos z, t2 _ (by omega)]
        show pk σ (blk 33 16 ++ blk 1 16) (16 + (k - 1)) = _
        rw [pk_b2 (by omega), if_neg (by omega)]; congr 1; omega
      · rw [if_neg z])
    have hc1 : cfOK σ1 33 s.1 := cfOK_cong t1.1 (fun k hk => by rw [e1', mrg_b2, if_pos (by omega)]; congr 1; omega)
    have m1 : τ 1 1 = (cM s.1 : Int) := h.2.2.1.1.2.1
    have m0 : τ 1 0 = (cN s.1 : Int) := h.2.2.1.1.1
    rw [show σ1 1 2 = (cM s.1 : Int) from h1.2.1.1.2.1]
    refine ⟨rgn (by omega), fun c => ?_, fun c => ?_⟩
    · refine ⟨1, by decide, by decide, fun _ => ⟨hv, fun c2 => ?_, fun c2 => ?_⟩, fun z => absurd (by decide) z⟩
      · unfold wp_X9_fits
        refine s_within hv (by decide) (by decide) (ibr (fun _ => ?_) (fun z => by omega))
        rw [m1]
        exact ⟨rgn (by omega), fun z => by omega, fun _ => ⟨hv, fun _ => An_same (by decide) (hk s _ _ h1), fun z => absurd z c2⟩⟩
      · unfold wp_X9_fits
        refine s_within hv (by decide) (by decide) (ibr (fun _ => ?_) (fun z => by omega))
        rw [m1]
        exact ⟨rgn (by omega), fun z => by omega, fun _ => ⟨hv, fun z => absurd c2 z, fun _ => An_same (by decide) (hk s _ _ h1)⟩⟩
    · have hM : 0 < cM s.1 := by omega
      rw [show σ1 1 0 = (cN s.1 : Int) from h1.2.1.1.1, sl1 _ (by omega)]
      refine ⟨2 ^ cN s.1 + 1, t_fits hM hv (2 ^ cN s.1) (2 ^ cN s.1 + 1) 0 0 (-5) _ σ1 h1 (upc_self hc1) (by omega) (by omega) (by omega) (by decide) (fun σ' h' => ?_)⟩
      rw [if_pos rfl]
      have fin : An K (if v = 0 then ((cntF (fb s) (2 ^ cN s.1) 0 0 : Nat) : Int) else sch (fb s) (2 ^ cN s.1) 0) (if v = 0 then ((cntF (fb s) (2 ^ cN s.1) 0 0 : Nat) : Int) else sch (fb s) (2 ^ cN s.1) 0) σ' τ → rg (if v = 0 then ((cntF (fb s) (2 ^ cN s.1) 0 0 : Nat) : Int) else sch (fb s) (2 ^ cN s.1) 0) := fun z => z.1
      have hrg : rg (if v = 0 then ((cntF (fb s) (2 ^ cN s.1) 0 0 : Nat) : Int) else sch (fb s) (2 ^ cN s.1) 0) := by
        by_cases z : v = 0
        · rw [if_pos z]; exact cnt_rg (by omega)
        · rw [if_neg z]; exact sch_rg _ _ (by omega)
      unfold wp_X9_fits
      refine s_within hv (by decide) (by decide) (ibr (fun _ => ?_) (fun z => by omega))
      rw [m1, m0, sl1 _ (by omega)]
      have epos : 8 + (cM s.1 : Int) - 1 = 8 + ((cM s.1 - 1 : Nat) : Int) := by omega
      rw [epos]
      refine ⟨rgn (by omega), fun _ => ⟨by omega, by omega, ?_⟩, fun z => by omega⟩
      have loop : ∀ (i fu : Nat) (τ1 : St), i ≤ 2 ^ cN s.1 → i < fu → (∀ j : Int, j ≠ 8 + ((cM s.1 - 1 : Nat) : Int) → τ1 1 j = τ 1 j) → (∀ j : Int, j ≠ 3 → τ1 0 j = τ 0 j) → (∀ d, d ≠ 0 → d ≠ 1 → d ≠ 3 → d ≠ 4 → τ1 d = τ d) → wp_X9_fits_69 (fun r2 τ1 => An K (if v = 0 then ((cntF (fb s) (2 ^ cN s.1) 0 0 : Nat) : Int) else sch (fb s) (2 ^ cN s.1) 0) r2 σ' τ1) fu v (8 + ((cM s.1 - 1 : Nat) : Int)) (τ 1 (8 + ((cM s.1 - 1 : Nat) : Int))) ((cntF (fb s) (2 ^ cN s.1 - i) i 0 : Nat) : Int) (sch (fb s) (2 ^ cN s.1 - i) i) ((i : Int) - 1) τ1 := by
        intro i
        induction i with
        | zero =>
          intro fu τ1 a b q1 q2 q3
          obtain ⟨fu, rfl⟩ : ∃ f, fu = f + 1 := ⟨fu - 1, by omega⟩
          unfold wp_X9_fits_69
          refine ⟨by decide, fun _ => ⟨by omega, by omega, ?_⟩, fun z => by omega⟩
          intro τ2 u2
          have hm : τ2 1 = τ 1 := by
            funext j
            rw [u2]
            by_cases z : j = 8 + ((cM s.1 - 1 : Nat) : Int)
            · rw [z, up_same]
            · rw [up_j _ z]; exact q1 j z
          have hR : RR s σ' τ2 := RR_scr h' hm (fun j hj => by rw [u2, up_c _ _ (by decide)]; exact q2 j (by omega)) (fun d hd => by rw [u2, up_ne _ (by omega)]; exact q3 d (by omega) (by omega) (by omega) (by omega))
          have hKm := hk s σ' τ2 hR
          refine ⟨hv, fun c2 => ?_, fun c2 => ?_⟩
          · rw [if_neg c2] at hrg ⊢; exact An_same hrg hKm
          · rw [if_pos c2] at hrg ⊢; exact An_same hrg hKm
        | succ i ih =>
          intro fu τ1 a b q1 q2 q3
          obtain ⟨fu, rfl⟩ : ∃ f, fu = f + 1 := ⟨fu - 1, by omega⟩
          have ei : ((i + 1 : Nat) : Int) - 1 = (i : Int) := by omega
          rw [ei]
          unfold wp_X9_fits_69
          have hi : i < 2 ^ cN s.1 := by omega
          have e0 : τ1 1 0 = (cN s.1 : Int) := by rw [q1 _ (by omega)]; exact m0
          obtain ⟨k, hkk⟩ : ∃ k, 2 ^ cN s.1 - i = k + 1 := ⟨2 ^ cN s.1 - i - 1, by omega⟩
          have hk2 : 2 ^ cN s.1 - (i + 1) = k := by omega
          have nx : ∀ (x f : Int) (τ2 : St), x = ((cntF (fb s) (k + 1) i 0 : Nat) : Int) → f = sch (fb s) (k + 1) i → (∀ j : Int, j ≠ 8 + ((cM s.1 - 1 : Nat) : Int) → τ2 1 j = τ 1 j) → (∀ j : Int, j ≠ 3 → τ2 0 j = τ 0 j) → (∀ d, d ≠ 0 → d ≠ 1 → d ≠ 3 → d ≠ 4 → τ2 d = τ d) → wp_X9_fits_115 (wp_X9_fits_69 (fun r2 τ1 => An K (if v = 0 then ((cntF (fb s) (2 ^ cN s.1) 0 0 : Nat) : Int) else sch (fb s) (2 ^ cN s.1) 0) r2 σ' τ1) fu) (fun r2 τ1 => An K (if v = 0 then ((cntF (fb s) (2 ^ cN s.1) 0 0 : Nat) : Int) else sch (fb s) (2 ^ cN s.1) 0) r2 σ' τ1) v (8 + ((cM s.1 - 1 : Nat) : Int)) (τ 1 (8 + ((cM s.1 - 1 : Nat) : Int))) x f i τ2 := by
            intro x f τ2 hx hf g1 g2 g3
            have := ih fu τ2 (by omega) (by omega) g1 g2 g3
            rw [hkk, ← hx, ← hf] at this
            exact this
          rw [hk2]
          have hg9 : gdF 9 (cN s.1) i 0 = GD (cN s.1) i := (GD_lt hi).symm
          refine ⟨rgn (by omega), fun z => by omega, fun _ => ?_⟩
          refine s_misGood h8 (by omega) e0 ?_
          rw [hg9]
          refine ibr (fun c2 => ⟨by omega, by omega, ?_⟩) (fun c2 => ?_)
          · intro τ3 u3
            have hw' := upc_wf hw (pl := i) (by omega) c2
            have g1 : ∀ j : Int, j ≠ 8 + ((cM s.1 - 1 : Nat) : Int) → τ3 1 j = τ 1 j := fun j hj => by rw [u3, up_j _ hj]; exact q1 j hj
            refine s_rings (c := upc s.1 i) (mc_upc h.2.2.1.1 hM h16 g1 (by rw [u3, up_same])) hw' (fun τ4 r1 r2 r3 r4 => ?_)
            have f1 : τ4 1 = τ3 1 := r4 1 (by decide) (by decide) (by decide)
            have G1 : ∀ j : Int, j ≠ 8 + ((cM s.1 - 1 : Nat) : Int) → τ4 1 j = τ 1 j := fun j hj => by rw [f1]; exact g1 j hj
            have G2 : ∀ j : Int, j ≠ 3 → τ4 0 j = τ 0 j := fun j hj => by rw [r3 j hj, u3, up_c _ _ (by decide)]; exact q2 j hj
            have G3 : ∀ d, d ≠ 0 → d ≠ 1 → d ≠ 3 → d ≠ 4 → τ4 d = τ d := fun d d0 d1 d3 d4 => by rw [r4 d d0 d3 d4, u3, up_ne _ d1]; exact q3 d d0 d1 d3 d4
            refine m_isSeen (s := s) (pl := i) rfl h.1 hw' (by rw [G1 _ (by omega)]; exact h.2.2.1.2.1) (fun j hj => ?_) r1 r2 (ibr (fun c3 => ?_) (fun c3 => ?_))
            · rw [G1 _ (by omega), G1 _ (by omega), G1 _ (by omega)]; exact h.2.2.1.2.2.2.2.2.1 j hj
            · have z : fb s i = true := by unfold fb; rw [Bool.and_eq_true]; exact ⟨c2, c3⟩
              exact nx _ _ τ4 (by rw [cntF_t z, cntF_add (fb s) k (i + 1) (0 + 1)]; omega) (by rw [sch_t z]) G1 G2 G3
            · have z : fb s i = false := by unfold fb; rw [Bool.and_eq_false_iff]; exact Or.inr (by simpa using c3)
              exact nx _ _ τ4 (by rw [cntF_f z]) (by rw [sch_f z]) G1 G2 G3
          · have z : fb s i = false := by unfold fb; rw [Bool.and_eq_false_iff]; exact Or.inl (by simpa using c2)
            exact nx _ _ τ1 (by rw [cntF_f z]) (by rw [sch_f z]) q1 q2 q3
      have := loop (2 ^ cN s.1) (2 ^ cN s.1 + 1) τ (Nat.le_refl _) (by omega) (fun _ _ => rfl) (fun _ _ => rfl) (fun _ _ _ _ _ => rfl)
      rw [Nat.sub_self] at this
      exact ⟨2 ^ cN s.1 + 1, this⟩
  unfold wp_X8_fits
  refine ⟨hv, fun c => key (Or.inl c), fun c => ⟨hv, fun c2 => key (Or.inr c2), fun c2 => ?_⟩⟩
  unfold wp_X9_fits
  exact s_within hv (by decide) (by decide) (ibr (fun z => by omega) (fun _ => An_same (by decide) (hk s _ _ h)))
