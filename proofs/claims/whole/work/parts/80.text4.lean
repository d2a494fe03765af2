/-! texts: the reference's parse, whole -/
def MI (len : Nat) (t : Nat → Int) (τo : St) (c : Nat) (F : Int) (s : Ps) (τ : St) : Prop := τ 0 6 = (len : Int) ∧ (∀ i, i < len → τ 5 (i : Int) = t i) ∧ τ 0 8 = (s.1 : Int) ∧ τ 0 14 = (s.2.1 : Int) ∧ (∀ i, i < s.2.1 → τ 9 (i : Int) = s.2.2 i) ∧ τ 0 9 = F ∧ τ 0 10 = (c : Int) ∧ τ 0 2 = τo 0 2 ∧ ∀ d, d ≠ 0 → d ≠ 6 → d ≠ 7 → d ≠ 8 → d ≠ 9 → τ d = τo d
/-- what the reference holds after its parse -/
def MR (τo : St) (R : Pr) (τ : St) : Prop := (R.1 = -5 → τ 0 9 = -1 ∧ τ 0 10 = (R.2.1 : Int) ∧ (∀ k, k < R.2.1 → τ 6 (k : Int) = R.2.2.2.1 k ∧ τ 7 (k : Int) = (R.2.2.2.2 k : Int) ∧ τ 8 (k : Int) = ((R.2.2.2.2 (k + 1) - R.2.2.2.2 k : Nat) : Int)) ∧ ∀ i, i < R.2.2.1.2.1 → τ 9 (i : Int) = R.2.2.1.2.2 i) ∧ (R.1 ≠ -5 → τ 0 9 = R.1 ∧ 0 ≤ R.1 ∧ R.1 ≤ 100) ∧ τ 0 2 = τo 0 2 ∧ ∀ d, d ≠ 0 → d ≠ 6 → d ≠ 7 → d ≠ 8 → d ≠ 9 → τ d = τo d
theorem m_pa1 {len : Nat} {t : Nat → Int} (hT : TX len t) {τo : St} {R : Pr} {post : Int → St → Prop} (hk : ∀ τ' : St, MR τo R τ' → wp_X9_read_103 post τ') (f : Nat) (ih : ∀ (c : Nat) (s : Ps) (K : Nat → Int) (S : Nat → Nat) (τ : St), c + f = 10 ∧ 0 < f → OKs len s → MI len t τo c (-1) s τ → (∀ k, k < c → τ 6 (k : Int) = K k ∧ τ 7 (k : Int) = (S k : Int) ∧ τ 8 (k : Int) = ((S (k + 1) - S k : Nat) : Int)) → (0 < c → S c = s.2.1) → paP (sgn len t) f c s K S = R → wp_X9_read_22 post (f + 1) 1 τ) (c : Nat) (s : Ps) (K : Nat → Int) (S : Nat → Nat) (τ : St) (hf : c + (f + 1) = 10) (hO : OKs len s) (hI : MI len t τo c (-1) s τ) (hG : ∀ k, k < c → τ 6 (k : Int) = K k ∧ τ 7 (k : Int) = (S k : Int) ∧ τ 8 (k : Int) = ((S (k + 1) - S k : Nat) : Int)) (hS : 0 < c → S c = s.2.1) (e : paP (sgn len t) (f + 1) c s K S = R) : wp_X9_read_22 post (f + 2) 1 τ := by
  have hl := hT.1
  obtain ⟨i0, i1, i2, i3, i4, i5, i6, i7, i8⟩ := id hI
  unfold wp_X9_read_22
  rw [i5]
  unfold paP at e
  obtain ⟨u1, u2⟩ := cu_ok hT hO
  have hpl := u1.1.2
  refine ⟨by decide, fun z => absurd z (by decide), fun _ => ⟨by decide, fun z => absurd z (by decide), fun _ => ?_⟩⟩
  refine m_clause hT (c := c) (by omega) hO i0 i1 i2 i3 i4 i5 i6 rfl (fun τ0 τ1 f1 f2 f3 f4 hok hno => ?_)
  -- behind the clause
  have fr0 : ∀ d, d ≠ 0 → d ≠ 6 → d ≠ 7 → d ≠ 8 → d ≠ 9 → τ0 d = τo d := fun d d0 d6 d7 d8 d9 => by rw [f1 d d6 d7 d8]; exact i8 d d0 d6 d7 d8 d9
  have g02 : τ0 0 2 = τo 0 2 := by rw [f1 0 (by decide) (by decide) (by decide)]; exact i7
  unfold wp_X9_reads_264
  intro τ2 e2
  have n2 : ∀ d, d ≠ 0 → τ2 d = τ1 d := fun d hd => by rw [e2, up_ne _ hd]
  have n0 : ∀ j : Int, j ≠ 10 → τ2 0 j = τ1 0 j := fun j hj => by rw [e2, up_j _ hj]
  cases hb : (cuP (sgn len t) s).1
  · rw [if_pos hb] at e
    obtain ⟨s'', b0, b1, b2, b3, b4, b5, b6, b7, b8, b9, b10⟩ := hno hb
    rw [n0 9 (by decide), b5]
    refine ⟨rgn (by omega), fun z => by omega, fun _ => hk τ2 ?_⟩
    subst e
    refine ⟨fun z => ?_, fun _ => ⟨?_, ?_, ?_⟩, ?_, fun d d0 d6 d7 d8 d9 => ?_⟩
    · exfalso
      have : (((cuP (sgn len t) s).2.1 : Nat) : Int) = -5 := z
      omega
    · rw [n0 9 (by decide)]; exact b5
    · show (0 : Int) ≤ (((cuP (sgn len t) s).2.1 : Nat) : Int); omega
    · show (((cuP (sgn len t) s).2.1 : Nat) : Int) ≤ 100; omega
    · rw [n0 2 (by decide), b8]; exact g02
    · rw [n2 d d0, b9 d d0 d8 d9]; exact fr0 d d0 d6 d7 d8 d9
  · rw [if_neg (by rw [hb]; decide)] at e
    obtain ⟨b0, b1, b2, b3, b4, b5, b6, b7, b8, b9, b10⟩ := hok hb
    have hG2 : ∀ k, k < c + 1 → τ2 6 (k : Int) = (if k = c then sgn len t s.1 else K k) ∧ τ2 7 (k : Int) = ((if k = c + 1 then (cuP (sgn len t) s).2.2.1 else if k = c then s.2.1 else S k : Nat) : Int) ∧ τ2 8 (k : Int) = (((if k + 1 = c + 1 then (cuP (sgn len t) s).2.2.1 else if k + 1 = c then s.2.1 else S (k + 1)) - (if k = c + 1 then (cuP (sgn len t) s).2.2.1 else if k = c then s.2.1 else S k) : Nat) : Int) := fun k hk1 => by
      rw [n2 6 (by decide), n2 7 (by decide), n2 8 (by decide), b9 6 (by decide) (by decide) (by decide), b9 7 (by decide) (by decide) (by decide), f2, f3]
      by_cases z : k = c
      · subst z
        rw [if_pos rfl, if_pos rfl, if_pos rfl, if_neg (by omega), if_pos rfl, if_pos rfl]
        exact ⟨rfl, rfl, b7.2⟩
      · rw [if_neg (by omega), if_neg (by omega), if_neg z, if_neg (by omega), if_neg (by omega), if_neg (by omega), b10 _ (by omega), f4 _ (by omega)]
        obtain ⟨g1, g2, g3⟩ := hG k (by omega)
        refine ⟨g1, g2, ?_⟩
        by_cases z2 : k + 1 = c
        · rw [if_pos z2, ← hS (by omega), ← z2]; exact g3
        · rw [if_neg z2]; exact g3
    have hI2 : MI len t τo (c + 1) (-1) (cuP (sgn len t) s).2 τ2 := by
      refine ⟨?_, ?_, ?_, ?_, ?_, ?_, ?_, ?_, fun d d0 d6 d7 d8 d9 => ?_⟩
      · rw [n0 _ (by decide)]; exact b0
      · rw [n2 _ (by decide)]; exact b1
      · rw [n0 _ (by decide)]; exact b2
      · rw [n0 _ (by decide)]; exact b3
      · rw [n2 _ (by decide)]; exact b4
      · rw [n0 _ (by decide)]; exact b5
      · rw [e2, up_same, b6]; omega
      · rw [n0 _ (by decide), b8]; exact g02
      · rw [n2 d d0, b9 d d0 d8 d9]; exact fr0 d d0 d6 d7 d8 d9
    obtain ⟨j0, j1, j2, j3, j4, j5, j6, j7, j8⟩ := id hI2
    rw [j5]
    refine ⟨by decide, fun _ => ?_, fun z => absurd (by decide) z⟩
    rw [j0, j2]
    refine ⟨rgn (by omega), rgn (by omega), fun z => ?_, fun z => ?_⟩
    · -- the text's end
      have hend : sgn len t (cuP (sgn len t) s).2.1 = -1 := by
        apply Classical.byContradiction
        intro q
        have := sgn_lt (t := t) q
        omega
      rw [if_pos hend] at e
      unfold wp_X9_read_63 wp_X9_read_90
      refine ⟨by decide, fun _ => ?_, fun y => absurd rfl y⟩
      intro τ3 e3
      unfold wp_X9_read_22
      refine ⟨by decide, fun _ => hk τ3 ?_, fun y => absurd rfl y⟩
      subst e
      refine ⟨fun _ => ⟨?_, ?_, fun k hk1 => ?_, fun i hi => ?_⟩, fun y => absurd rfl y, ?_, fun d d0 d6 d7 d8 d9 => ?_⟩
      · rw [e3, up_j _ (by decide)]; exact j5
      · rw [e3, up_j _ (by decide)]; exact j6
      · rw [e3, up_ne _ (by decide), up_ne _ (by decide), up_ne _ (by decide)]; exact hG2 k hk1
      · rw [e3, up_ne _ (by decide)]; exact j4 i hi
      · rw [e3, up_j _ (by decide)]; exact j7
      · rw [e3, up_ne _ d0]; exact j8 d d0 d6 d7 d8 d9
    · have hlt : (cuP (sgn len t) s).2.1 < len := by omega
      have hne : sgn len t (cuP (sgn len t) s).2.1 ≠ -1 := by
        rw [sgn_in hlt]; have := (hT.2 _ hlt).1; omega
      rw [if_neg hne] at e
      unfold wp_X9_read_63
      have bad : (sgn len t (cuP (sgn len t) s).2.1 ≠ 59 ∨ c + 1 = 10) → wp_X9_read_86 (wp_X9_read_22 post (f + 1)) post 1 τ2 := fun y => by
        rw [if_pos y] at e
        unfold wp_X9_read_86 wp_X9_wrong
        rw [j5]
        refine ⟨by decide, fun q => absurd q (by decide), fun _ => ?_⟩
        intro τ3 e3
        unfold wp_X9_read_90
        intro τ4 e4
        unfold wp_X9_read_22
        have k9 : τ4 0 9 = ((cuP (sgn len t) s).2.1 : Int) := by rw [e4, up_j _ (by decide), e3, up_same]; exact j2
        rw [k9]
        refine ⟨by decide, fun q => absurd q (by decide), fun _ => ⟨rgn (by omega), fun _ => hk τ4 ?_, fun q => by omega⟩⟩
        subst e
        refine ⟨fun q => ?_, fun _ => ⟨k9, ?_, ?_⟩, ?_, fun d d0 d6 d7 d8 d9 => ?_⟩
        · exfalso
          have : (((cuP (sgn len t) s).2.1 : Nat) : Int) = -5 := q
          omega
        · show (0 : Int) ≤ (((cuP (sgn len t) s).2.1 : Nat) : Int); omega
        · show (((cuP (sgn len t) s).2.1 : Nat) : Int) ≤ 100; omega
        · rw [e4, up_j _ (by decide), e3, up_j _ (by decide)]; exact j7
        · rw [e4, up_ne _ d0, e3, up_ne _ d0]; exact j8 d d0 d6 d7 d8 d9
      refine ⟨by decide, fun y => absurd y (by decide), fun _ => m_sign hT j0 j1 j2 (by omega) ⟨sgn_rg hT, fun y => bad (Or.inl y), fun y => ?_⟩⟩
      rw [j6]
      refine ⟨rgn (by omega), fun y2 => ?_, fun y2 => bad (Or.inr (by omega))⟩
      rw [if_neg (fun q => q.elim (fun q1 => q1 y) (fun q1 => y2 (by omega)))] at e
      unfold wp_X9_read_90
      intro τ3 e3
      refine ih (c + 1) (adP (cuP (sgn len t) s).2) _ _ τ3 ⟨by omega, by omega⟩ ⟨by have := u1.1.1; show (cuP (sgn len t) s).2.2.1 ≤ (cuP (sgn len t) s).2.1 + 1; omega, hlt⟩ ⟨?_, ?_, ?_, ?_, ?_, ?_, ?_, ?_, fun d d0 d6 d7 d8 d9 => ?_⟩ (fun k hk1 => ?_) (fun _ => ?_) e
      · rw [e3, up_j _ (by decide)]; exact j0
      · rw [e3, up_ne _ (by decide)]; exact j1
      · rw [e3, up_same, j2]; show ((cuP (sgn len t) s).2.1 : Int) + 1 = (((cuP (sgn len t) s).2.1 + 1 : Nat) : Int); omega
      · rw [e3, up_j _ (by decide)]; exact j3
      · rw [e3, up_ne _ (by decide)]; exact j4
      · rw [e3, up_j _ (by decide)]; exact j5
      · rw [e3, up_j _ (by decide)]; exact j6
      · rw [e3, up_j _ (by decide)]; exact j7
      · rw [e3, up_ne _ d0]; exact j8 d d0 d6 d7 d8 d9
      · rw [e3, up_ne _ (by decide), up_ne _ (by decide), up_ne _ (by decide)]; exact hG2 k hk1
      · show (if c + 1 = c + 1 then (cuP (sgn len t) s).2.2.1 else _) = _
        rw [if_pos rfl]; rfl
theorem m_pa {len : Nat} {t : Nat → Int} (hT : TX len t) {τo : St} {R : Pr} {post : Int → St → Prop} (hk : ∀ τ' : St, MR τo R τ' → wp_X9_read_103 post τ') : ∀ (f c : Nat) (s : Ps) (K : Nat → Int) (S : Nat → Nat) (τ : St), c + (f + 1) = 10 → OKs len s → MI len t τo c (-1) s τ → (∀ k, k < c → τ 6 (k : Int) = K k ∧ τ 7 (k : Int) = (S k : Int) ∧ τ 8 (k : Int) = ((S (k + 1) - S k : Nat) : Int)) → (0 < c → S c = s.2.1) → paP (sgn len t) (f + 1) c s K S = R → wp_X9_read_22 post (f + 2) 1 τ
  | 0, c, s, K, S, τ, hf, hO, hI, hG, hS, e => m_pa1 hT hk 0 (fun _ _ _ _ _ h => absurd h.2 (by decide)) c s K S τ hf hO hI hG hS e
  | f + 1, c, s, K, S, τ, hf, hO, hI, hG, hS, e => m_pa1 hT hk (f + 1) (fun c' s' K' S' τ' h hO' hI' hG' hS' e' => m_pa hT hk f c' s' K' S' τ' h.1 hO' hI' hG' hS' e') c s K S τ hf hO hI hG hS e
theorem m_parse {len : Nat} {t : Nat → Int} (hT : TX len t) {τ : St} (h6 : τ 0 6 = (len : Int)) (h5 : ∀ i, i < len → τ 5 (i : Int) = t i) {post : Int → St → Prop} (hk : ∀ τ' : St, MR τ (paP (sgn len t) 10 0 (0, 0, fun _ => 0) (fun _ => 0) (fun _ => 0)) τ' → wp_X9_read_103 post τ') : wp_X9_read τ post := by
  intro τ1 e1 τ2 e2 τ3 e3 τ4 e4
  refine ⟨11, m_pa hT hk 9 0 (0, 0, fun _ => 0) _ _ τ4 rfl ⟨Nat.le_refl _, Nat.zero_le _⟩ ⟨?_, ?_, ?_, ?_, fun i hi => absurd hi (Nat.not_lt_zero _), ?_, ?_, ?_, fun d d0 _ _ _ _ => ?_⟩ (fun k hk1 => absurd hk1 (Nat.not_lt_zero _)) (fun z => absurd z (Nat.lt_irrefl _)) rfl⟩
  · rw [e4, up_j _ (by decide), e3, up_j _ (by decide), e2, up_j _ (by decide), e1, up_j _ (by decide)]; exact h6
  · rw [e4, up_ne _ (by decide), e3, up_ne _ (by decide), e2, up_ne _ (by decide), e1, up_ne _ (by decide)]; exact h5
  · rw [e4, up_j _ (by decide), e3, up_j _ (by decide), e2, up_j _ (by decide), e1, up_same]; rfl
  · rw [e4, up_same]; rfl
  · rw [e4, up_j _ (by decide), e3, up_j _ (by decide), e2, up_same]
  · rw [e4, up_j _ (by decide), e3, up_same]; rfl
  · rw [e4, up_j _ (by decide), e3, up_j _ (by decide), e2, up_j _ (by decide), e1, up_j _ (by decide)]
  · rw [e4, up_ne _ d0, e3, up_ne _ d0, e2, up_ne _ d0, e1, up_ne _ d0]
