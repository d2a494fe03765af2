/-! read -/
def dlP (K : Nat → Int) (S : Nat → Nat) (vs : Nat → Int) : Nat → Nat → Su × Nat → Su × Nat
  | 0, _, x => x
  | f + 1, k, x => dlP K S vs f (k + 1) ((doP x.1 (K k) (S k) (S (k + 1)) vs).1, x.2 + (if (doP x.1 (K k) (S k) (S (k + 1)) vs).2 = true then 1 else 0))
theorem pa_rg {len : Nat} {t : Nat → Int} (hT : TX len t) : ∀ (f c : Nat) (s : Ps) (K : Nat → Int) (S : Nat → Nat), OKs len s → (paP (sgn len t) f c s K S).1 = -5 ∨ (0 ≤ (paP (sgn len t) f c s K S).1 ∧ (paP (sgn len t) f c s K S).1 ≤ 100)
  | 0, c, s, K, S, hO => by
    have := hO.2
    have := hT.1
    refine Or.inr ⟨?_, ?_⟩
    · show (0 : Int) ≤ (s.1 : Int); omega
    · show (s.1 : Int) ≤ 100; omega
  | f + 1, c, s, K, S, hO => by
    obtain ⟨u1, u2⟩ := cu_ok hT hO
    have h1 := u1.1.2
    have h2 := hT.1
    have h3 : (0 : Int) ≤ ((cuP (sgn len t) s).2.1 : Int) ∧ ((cuP (sgn len t) s).2.1 : Int) ≤ 100 := ⟨by omega, by omega⟩
    unfold paP
    by_cases c1 : (cuP (sgn len t) s).1 = false
    · rw [if_pos c1]; exact Or.inr h3
    · rw [if_neg c1]
      by_cases c2 : sgn len t (cuP (sgn len t) s).2.1 = -1
      · rw [if_pos c2]; exact Or.inl rfl
      · rw [if_neg c2]
        by_cases c3 : sgn len t (cuP (sgn len t) s).2.1 ≠ 59 ∨ c + 1 = 10
        · rw [if_pos c3]; exact Or.inr h3
        · rw [if_neg c3]
          have hlt : (cuP (sgn len t) s).2.1 < len := sgn_lt (t := t) c2
          exact pa_rg hT f (c + 1) (adP (cuP (sgn len t) s).2) _ _ ⟨by have := u1.1.1; show (cuP (sgn len t) s).2.2.1 ≤ (cuP (sgn len t) s).2.1 + 1; omega, hlt⟩
theorem c_perf {C : Nat} {K : Nat → Int} {S : Nat → Nat} {vs : Nat → Int} {m : Nat} (hC : C ≤ 10) (hG : GC C K S vs) (hm : ∀ k, k < C → S (k + 1) ≤ m) {σ0 : St} (h5 : σ0 0 5 = (C : Int)) (h2 : ∀ k, k < C → σ0 2 (k : Int) = K k) (h3 : ∀ k, k ≤ C → σ0 3 (k : Int) = (S k : Int)) (h4 : ∀ i, i < m → σ0 4 (i : Int) = vs i) {R : Su × Nat} {post : Int → St → Prop} (hp : ∀ σ' : St, suOK σ' 5 R.1 → wfS R.1 → (∀ d, d < 5 → σ' d = σ0 d) → R.2 ≤ C → post (R.2 : Int) σ') : ∀ (fu k dn : Nat) (s : Su) (σ : St), k ≤ C → C < k + fu → dn ≤ k → suOK σ 5 s → wfS s → (∀ d, d < 5 → σ d = σ0 d) → dlP K S vs (C - k) k (s, dn) = R → wp_X5_perform_4 post fu dn k σ := by
  intro fu
  induction fu with
  | zero => intro k dn s σ a b; omega
  | succ fu ih =>
    intro k dn s σ a b hdn hs hw hd e
    unfold wp_X5_perform_4
    rw [hd 0 (by decide), hd 2 (by decide), hd 3 (by decide), h5]
    refine ⟨rgn (by omega), rgn (by omega), fun c => ?_, fun c => ?_⟩
    · obtain rfl : k = C := by omega
      rw [Nat.sub_self] at e
      have e' : (s, dn) = R := e
      subst e'
      exact hp σ hs hw hd hdn
    · have hk : k < C := by omega
      rw [h2 k hk, h3 k (by omega), show ((k : Int) + 1) = ((k + 1 : Nat) : Int) by omega, h3 (k + 1) (by omega)]
      refine ⟨by omega, by omega, by omega, by omega, by omega, by omega, ?_⟩
      obtain ⟨j, hj⟩ : ∃ j, C - k = j + 1 := ⟨C - k - 1, by omega⟩
      rw [hj] at e
      have e2 : dlP K S vs (C - (k + 1)) (k + 1) ((doP s (K k) (S k) (S (k + 1)) vs).1, dn + (if (doP s (K k) (S k) (S (k + 1)) vs).2 = true then 1 else 0)) = R := by
        rw [show C - (k + 1) = j by omega]; exact e
      have hm' := hm k hk
      refine c_doClause hs hw (hG k hk) (fun i hi => by rw [hd 4 (by decide)]; exact h4 i (by omega)) (fun σ1 q1 q2 => ?_)
      have nx : ∀ dn' : Nat, dn' = dn + (if (doP s (K k) (S k) (S (k + 1)) vs).2 = true then 1 else 0) → dn' ≤ k + 1 → wp_X5_perform_43 (wp_X5_perform_4 post fu) post (dn' : Int) k σ1 := fun dn' hd' hle => by
        unfold wp_X5_perform_43
        rw [show ((k : Int) + 1) = ((k + 1 : Nat) : Int) by omega]
        rw [← hd'] at e2
        exact ih (k + 1) dn' _ σ1 (by omega) (by omega) hle q1 (doP_wf hw (hG k hk)) (fun d hd2 => by rw [q2 d hd2]; exact hd d hd2) e2
      by_cases y : (doP s (K k) (S k) (S (k + 1)) vs).2 = true
      · rw [if_pos y]
        refine ⟨by decide, fun z => absurd z (by decide), fun _ => ?_⟩
        rw [show ((dn : Int) + 1) = ((dn + 1 : Nat) : Int) by omega]
        exact nx (dn + 1) (by rw [if_pos y]) (by omega)
      · rw [if_neg y]
        exact ⟨by decide, fun _ => nx dn (by rw [if_neg y]; rfl) (by omega), fun z => absurd rfl z⟩
theorem m_perf {C : Nat} {K : Nat → Int} {S : Nat → Nat} {vs : Nat → Int} {m : Nat} (hC : C ≤ 10) (hG : GC C K S vs) (hm : ∀ k, k < C → S (k + 1) ≤ m) {τ0 : St} (h10 : τ0 0 10 = (C : Int)) (h678 : ∀ k, k < C → τ0 6 (k : Int) = K k ∧ τ0 7 (k : Int) = (S k : Int) ∧ τ0 8 (k : Int) = ((S (k + 1) - S k : Nat) : Int)) (h9 : ∀ i, i < m → τ0 9 (i : Int) = vs i) {R : Su × Nat} {post : Int → St → Prop} (hp : ∀ τ' : St, moOK (τ' 1) R.1 → (∀ d, d ≠ 1 → τ' d = τ0 d) → post (R.2 : Int) τ') : ∀ (fu k dn : Nat) (s : Su) (τ : St), k ≤ C → C < k + fu → moOK (τ 1) s → wfS s → (∀ d, d ≠ 1 → τ d = τ0 d) → dlP K S vs (C - k) k (s, dn) = R → wp_X9_read_127 post fu dn k τ := by
  intro fu
  induction fu with
  | zero => intro k dn s τ a b; omega
  | succ fu ih =>
    intro k dn s τ a b hs hw hd e
    unfold wp_X9_read_127
    rw [hd 0 (by decide), h10]
    refine ⟨rgn (by omega), rgn (by omega), fun c => ?_, fun c => ?_⟩
    · obtain rfl : k = C := by omega
      rw [Nat.sub_self] at e
      have e' : (s, dn) = R := e
      subst e'
      exact hp τ hs hd
    · have hk : k < C := by omega
      obtain ⟨g6, g7, g8⟩ := h678 k hk
      obtain ⟨j, hj⟩ : ∃ j, C - k = j + 1 := ⟨C - k - 1, by omega⟩
      rw [hj] at e
      have e2 : dlP K S vs (C - (k + 1)) (k + 1) ((doP s (K k) (S k) (S (k + 1)) vs).1, dn + (if (doP s (K k) (S k) (S (k + 1)) vs).2 = true then 1 else 0)) = R := by
        rw [show C - (k + 1) = j by omega]; exact e
      have hm' := hm k hk
      refine m_does hs hw (by omega) (hG k hk) (by rw [hd 6 (by decide)]; exact g6) (by rw [hd 7 (by decide)]; exact g7) (by rw [hd 8 (by decide)]; exact g8) (fun i hi => by rw [hd 9 (by decide)]; exact h9 i (by omega)) (fun τ1 q1 q2 => ?_)
      have nx : ∀ dn' : Nat, dn' = dn + (if (doP s (K k) (S k) (S (k + 1)) vs).2 = true then 1 else 0) → wp_X9_read_146 (wp_X9_read_127 post fu) post (dn' : Int) k τ1 := fun dn' hd' => by
        unfold wp_X9_read_146
        rw [show ((k : Int) + 1) = ((k + 1 : Nat) : Int) by omega]
        rw [← hd'] at e2
        exact ih (k + 1) dn' _ τ1 (by omega) (by omega) q1 (doP_wf hw (hG k hk)) (fun d hd2 => by rw [q2 d hd2]; exact hd d hd2) e2
      by_cases y : (doP s (K k) (S k) (S (k + 1)) vs).2 = true
      · rw [if_pos y]
        refine ⟨by decide, fun z => absurd z (by decide), fun _ => ?_⟩
        rw [show ((dn : Int) + 1) = ((dn + 1 : Nat) : Int) by omega]
        exact nx (dn + 1) (by rw [if_pos y])
      · rw [if_neg y]
        exact ⟨by decide, fun _ => nx dn (by rw [if_neg y]; rfl), fun z => absurd rfl z⟩
theorem BR5 : ([74, 75, 76, 77, 78] : List Nat) = blk 74 5 := rfl
theorem BR21 : ([74, 75, 76, 77, 78, 1, 2, 3, 4, 5, 6, 7, 8, 9, 10, 11, 12, 13, 14, 15, 16] : List Nat) = blk 74 5 ++ blk 1 16 := rfl
theorem opread : OpRead := by
  intro s σ τ h Kp hk
  obtain ⟨len, hlen, x1, x2, x3⟩ := h.2.2.2.2.2.2.2.1
  have hT : TX len (fun i => τ 5 (i : Int)) := ⟨hlen, fun i hi => (x3 i hi).2⟩
  have hRrg := pa_rg hT 10 0 (0, 0, fun _ => 0) (fun _ => 0) (fun _ => 0) ⟨Nat.le_refl _, Nat.zero_le _⟩
  have hRok := pa_ok hT 10 0 (0, 0, fun _ => 0) (fun _ => 0) (fun _ => 0) rfl ⟨Nat.le_refl _, Nat.zero_le _⟩ (fun k hk1 => absurd hk1 (Nat.not_lt_zero _)) (fun k hk1 => absurd hk1 (Nat.not_lt_zero _)) (fun z => absurd z (Nat.lt_irrefl _))
  unfold wp_X8_read
  rw [BR5, BR21]
  have hparse := @c_parse len (fun i => τ 5 (i : Int)) hT (pk σ (blk 74 5)) (by rw [pk_blk (by decide)]; exact x1) (fun i hi => by rw [pk_blk (by decide)]; exact (x3 i hi).1)
  have mparse := @m_parse len (fun i => τ 5 (i : Int)) hT τ x2 (fun _ _ => rfl)
  generalize paP (sgn len (fun i => τ 5 (i : Int))) 10 0 (0, 0, fun _ => 0) (fun _ => 0) (fun _ => 0) = R at hRrg hRok hparse mparse
  refine hparse (fun τ1 hCR => ?_)
  intro σ1 e1 σ2 e2
  have q : ∀ k, k < 5 → σ1 (74 + k) = τ1 k := fun k hk1 => by rw [e1, mrg_blk, if_pos ⟨by omega, by omega⟩, show 74 + k - 74 = k by omega]
  have qo : ∀ k, k < 74 ∨ 79 ≤ k → σ1 k = σ k := fun k hk1 => by rw [e1, mrg_blk, if_neg (by omega)]
  have o2 : ∀ k, k < 74 ∨ 79 ≤ k → σ2 k = σ k := fun k hk1 => by rw [e2, up_ne _ (by omega)]; exact qo k hk1
  have mid : ∀ τ' : St, τ' 0 6 = 0 → τ' 0 2 = τ 0 2 → (∀ d, d = 1 ∨ d = 2 ∨ d = 10 ∨ d = 11 ∨ d = 12 → τ' d = τ d) → RR s σ2 τ' := fun τ' t6 t2 td => RR_text h o2 t2 td ⟨0, Nat.zero_le _, by rw [e2, up_same]; rfl, by rw [t6]; rfl, fun i hi => absurd hi (Nat.not_lt_zero _)⟩
  have hR1 : rg R.1 := by
    rcases hRrg with z | z
    · rw [z]; decide
    · exact ⟨by omega, by omega⟩
  refine ⟨hR1, fun c => ?_, fun c => ?_⟩
  · intro σ3 e3
    obtain ⟨r1, r2, r3⟩ := hRok c
    obtain ⟨y1, y2, y3, y4⟩ := hCR c
    have p1 : ∀ d, d < 5 → pk σ3 (blk 74 5 ++ blk 1 16) d = σ3 (74 + d) := fun d hd => by rw [pk_b2 (by omega), if_pos hd]
    have p2 : ∀ k, k < 16 → pk σ3 (blk 74 5 ++ blk 1 16) (5 + k) = σ (1 + k) := fun k hk1 => by
      rw [pk_b2 (by omega), if_neg (by omega), show 1 + (5 + k - 5) = 1 + k by omega, e3, up_ne _ (by omega)]; exact o2 _ (by omega)
    have p3 : ∀ d, 0 < d → d < 5 → σ3 (74 + d) = τ1 d := fun d h0 h5 => by rw [e3, up_ne _ (by omega), e2, up_ne _ (by omega)]; exact q d h5
    unfold wp_X5_perform
    refine ⟨R.2.1 + 1, ?_⟩
    refine c_perf (m := R.2.2.1.2.1) r1 r2 r3 (σ0 := pk σ3 (blk 74 5 ++ blk 1 16)) ?_ (fun k hk1 => ?_) (fun k hk1 => ?_) (fun i hi => ?_) (R := dlP R.2.2.2.1 R.2.2.2.2 R.2.2.1.2.2 (R.2.1 - 0) 0 (s, 0)) (fun τ4 f1 f2 f3 f4 => ?_) (R.2.1 + 1) 0 0 s (pk σ3 (blk 74 5 ++ blk 1 16)) (Nat.zero_le _) (by omega) (Nat.le_refl _) (suOK_cong h.2.1 (fun k hk1 => p2 k hk1)) h.1 (fun _ _ => rfl) rfl
    · rw [p1 0 (by decide)]
      show σ3 74 5 = _
      rw [e3, up_ne _ (by decide), e2, up_j _ (by decide)]
      have : σ1 74 = τ1 0 := q 0 (by decide)
      rw [this]; exact y1
    · rw [p1 2 (by decide), p3 2 (by decide) (by decide)]; exact y2 k hk1
    · rw [p1 3 (by decide), p3 3 (by decide) (by decide)]; exact y3 k hk1
    · rw [p1 4 (by decide), p3 4 (by decide) (by decide)]; exact y4 i hi
    · intro σ4 e4
      have g1 : ∀ k, 1 ≤ k → k < 17 → σ4 k = τ4 (5 + (k - 1)) := fun k h1 h2 => by rw [e4, mrg_b2, if_neg (by omega), if_pos ⟨h1, by omega⟩]
      have g3 : ∀ k, k < 1 ∨ 17 ≤ k → σ4 k = σ3 k := fun k h1 => by
        rw [e4, mrg_b2]
        by_cases z : 74 ≤ k ∧ k < 74 + 5
        · rw [if_pos z, f3 _ (by omega), p1 _ (by omega), show 74 + (k - 74) = k by omega]
        · rw [if_neg z, if_neg (by omega)]
      refine mparse (fun τ' hMR => ?_)
      obtain ⟨M1, M2, M3, M4⟩ := hMR
      obtain ⟨n1, n2, n3, n4⟩ := M1 c
      unfold wp_X9_read_103
      intro τ5 e5
      have t9 : τ5 0 9 = -1 := by rw [e5, up_j _ (by decide)]; exact n1
      rw [t9]
      refine ⟨by decide, fun _ => ⟨R.2.1 + 1, ?_⟩, fun z => absurd (by decide) z⟩
      have u5 : ∀ d, d ≠ 0 → τ5 d = τ' d := fun d hd => by rw [e5, up_ne _ hd]
      have m5 : RR s σ2 τ5 := mid τ5 (by rw [e5, up_same]) (by rw [e5, up_j _ (by decide)]; exact M3) (fun d hd => by rw [u5 d (by omega)]; exact M4 d (by omega) (by omega) (by omega) (by omega) (by omega))
      refine m_perf (m := R.2.2.1.2.1) r1 r2 r3 (τ0 := τ5) (by rw [e5, up_j _ (by decide)]; exact n2) (fun k hk1 => by rw [u5 6 (by decide), u5 7 (by decide), u5 8 (by decide)]; exact n3 k hk1) (fun i hi => by rw [u5 9 (by decide)]; exact n4 i hi) (R := dlP R.2.2.2.1 R.2.2.2.2 R.2.2.1.2.2 (R.2.1 - 0) 0 (s, 0)) (fun τ6 z1 z2 => ?_) (R.2.1 + 1) 0 0 s τ5 (Nat.zero_le _) (by omega) m5.2.2.1 h.1 (fun _ _ => rfl) rfl
      refine An_same (rgn (by omega)) (hk _ σ4 τ6 (RR_put m5 f2 (suOK_cong f1 (fun k hk1 => ?_)) z1 ?_ ?_ (fun k hk1 => ?_) (fun j _ => by rw [z2 0 (by decide)]) (fun d hd => z2 d (by omega))))
      · rw [g1 _ (by omega) (by omega), show 5 + (1 + k - 1) = 5 + k by omega]
      · rw [g3 0 (by omega), e3, up_same]
      · rw [g3 0 (by omega), e3, up_j _ (by decide)]
      · rw [g3 k (by omega), e3, up_ne _ (by omega)]
  · refine mparse (fun τ' hMR => ?_)
    obtain ⟨M1, M2, M3, M4⟩ := hMR
    obtain ⟨n1, n2, n3⟩ := M2 c
    unfold wp_X9_read_103
    intro τ5 e5
    have t9 : τ5 0 9 = R.1 := by rw [e5, up_j _ (by decide)]; exact n1
    rw [t9]
    refine ⟨⟨by omega, by omega⟩, fun z => by omega, fun _ => An_same ⟨by omega, by omega⟩ (hk s σ2 τ5 (mid τ5 (by rw [e5, up_same]) (by rw [e5, up_j _ (by decide)]; exact M3) (fun d hd => by rw [e5, up_ne _ (by omega)]; exact M4 d (by omega) (by omega) (by omega) (by omega) (by omega))))⟩
