/-! the reference: rows -/
theorem s_within {a b c : Int} (ha : rg a) (hb : rg b) (hc : rg c) {post : Int → Prop} (hp : post (if b ≤ a ∧ a ≤ c then 1 else 0)) : wp_X9_within a b c post := by
  unfold wp_X9_within
  refine ⟨ha, hb, fun z => ?_, fun z => ⟨ha, hc, fun y => ?_, fun y => ?_⟩⟩
  · rwa [if_neg (by omega)] at hp
  · rwa [if_neg (by omega)] at hp
  · rwa [if_pos (by omega)] at hp
def mcOK (f : Int → Int) (c : Cf) : Prop := f 0 = cN c ∧ f 1 = cM c ∧ f 2 = cB c ∧ f 3 = cS c ∧ f 4 = cL c ∧ (∀ i, i < cM c → f (8 + (i : Int)) = cH c i) ∧ (∀ i : Nat, i < 12 → f (24 + (i : Int)) = cC c i)
theorem sl1 : ∀ n : Nat, n < 9 → bsl 1 (n : Int) = ((2 ^ n : Nat) : Int) := by decide +kernel
theorem s_areKept {σ : St} {n : Nat} (h8 : n ≤ 8) (hn : σ 1 0 = n) {x : Int} (hx : rg x) {post : Int → Prop} (hp : post (if 0 ≤ x ∧ x < ((2 ^ n : Nat) : Int) then 1 else 0)) : wp_X9_areKept σ x post := by
  unfold wp_X9_areKept
  rw [hn, sl1 n (by omega)]
  have h2 : 2 ^ n ≤ 256 := by simpa using Nat.pow_le_pow_right (n := 2) (by decide) h8
  generalize 2 ^ n = z2 at hp h2 ⊢
  refine s_within hx (by decide) ⟨by omega, by omega⟩ ?_
  have e : (if 0 ≤ x ∧ x ≤ (z2 : Int) - 1 then (1 : Int) else 0) = (if 0 ≤ x ∧ x < (z2 : Int) then 1 else 0) := by
    by_cases z : 0 ≤ x ∧ x < (z2 : Int)
    · rw [if_pos z, if_pos (by omega)]
    · rw [if_neg z, if_neg (by omega)]
  rw [e]
  exact ⟨by split <;> simp, hp⟩
theorem s_misGood {σ : St} {n pl : Nat} (h8 : n ≤ 8) (hpl : pl < 2147483648) (hn : σ 1 0 = n) {post : Int → Prop} (hp : post (if gdF 9 n pl 0 then 1 else 0)) : wp_X9_isGood σ pl post := by
  have h : ∀ (f k : Nat), n < k + f → k ≤ n → post (if gdF f n pl k then 1 else 0) → wp_X9_isGood_2 post f pl k σ := by
    intro f
    induction f with
    | zero => intro k a b; omega
    | succ f ih =>
      intro k a b hq
      unfold wp_X9_isGood_2
      rw [hn]
      refine ⟨⟨by omega, by omega⟩, ⟨by omega, by omega⟩, fun c => ?_, fun c => ?_⟩
      · have e : gdF (f + 1) n pl k = true := by unfold gdF; rw [if_pos (by omega)]
        simpa [e] using hq
      rw [bit_eq hpl (by omega)]
      cases q : pl.testBit k
      · refine ⟨by decide, fun _ => ⟨⟨by omega, by omega⟩, ⟨by omega, by omega⟩, fun c2 => ?_, fun c2 => ?_⟩, fun c2 => absurd c2 (by decide)⟩
        · have e : gdF (f + 1) n pl k = false := by unfold gdF; rw [if_neg (by omega), q]; simp; omega
          simpa [e] using hq
        rw [show ((k : Int) + 1) = ((k + 1 : Nat) : Int) by omega, bit_eq hpl (by omega)]
        cases q2 : pl.testBit (k + 1)
        · have e : gdF (f + 1) n pl k = gdF f n pl (k + 2) := by conv => lhs; unfold gdF
                                                                 rw [if_neg (by omega), q, if_neg (by decide), if_neg (by omega), q2, if_neg (by decide)]
          rw [e] at hq
          refine ⟨by decide, fun c2 => absurd rfl c2, fun _ => ?_⟩
          rw [show ((k : Int) + 2) = ((k + 2 : Nat) : Int) by omega]
          exact ih (k + 2) (by omega) (by omega) hq
        · have e : gdF (f + 1) n pl k = false := by unfold gdF; rw [if_neg (by omega), q, if_neg (by decide), if_neg (by omega), q2]; rfl
          refine ⟨by decide, fun _ => by simpa [e] using hq, fun c2 => absurd c2 (by decide)⟩
      · have e : gdF (f + 1) n pl k = gdF f n pl (k + 1) := by conv => lhs; unfold gdF
                                                               rw [if_neg (by omega), q, if_pos rfl]
        rw [e] at hq
        rw [show ((k : Int) + 1) = ((k + 1 : Nat) : Int) by omega]
        exact ⟨by decide, fun c2 => absurd rfl c2, fun _ => ih (k + 1) (by omega) (by omega) hq⟩
  exact ⟨9, h 9 0 (by omega) (by omega) hp⟩
def kyF (f : Nat → Nat) : Nat → Int
  | 0 => 0
  | k + 1 => 8 * kyF f k + f k - 1
theorem kyF_bd {f : Nat → Nat} : ∀ (k : Nat), (∀ p, p < k → 1 ≤ f p ∧ f p ≤ 8) → 0 ≤ kyF f k ∧ kyF f k < ((8 ^ k : Nat) : Int)
  | 0, _ => ⟨Int.le_refl _, show (0 : Int) < ((1 : Nat) : Int) by decide⟩
  | k + 1, h => by
    have a := kyF_bd k (fun p hp => h p (by omega))
    have b := h k (by omega)
    simp only [kyF]
    have : (8 ^ (k + 1) : Nat) = 8 ^ k * 8 := Nat.pow_succ ..
    omega
theorem kyF_inj {f g : Nat → Nat} : ∀ (k : Nat), (∀ p, p < k → 1 ≤ f p ∧ f p ≤ 8) → (∀ p, p < k → 1 ≤ g p ∧ g p ≤ 8) → (kyF f k = kyF g k ↔ ∀ p, p < k → f p = g p)
  | 0, _, _ => ⟨fun _ p hp => absurd hp (Nat.not_lt_zero _), fun _ => rfl⟩
  | k + 1, hf, hg => by
    have ih := kyF_inj k (fun p hp => hf p (by omega)) (fun p hp => hg p (by omega))
    have a := hf k (by omega); have b := hg k (by omega)
    simp only [kyF]
    constructor
    · intro e p hp
      have h1 : kyF f k = kyF g k := by omega
      rcases Nat.lt_or_ge p k with z | z
      · exact ih.mp h1 p z
      · rw [show p = k by omega]; omega
    · intro e
      have h1 := ih.mpr (fun p hp => e p (by omega))
      have h2 := e k (by omega)
      omega
theorem kyF_rg {f : Nat → Nat} {k : Nat} (hk : k ≤ 8) (h : ∀ p, p < k → 1 ≤ f p ∧ f p ≤ 8) : rg (kyF f k) := by
  have a := kyF_bd k h
  have : 8 ^ k ≤ 8 ^ 8 := Nat.pow_le_pow_right (by decide) hk
  have e : (8 ^ 8 : Nat) = 16777216 := by decide
  omega
theorem kyF_cong {f g : Nat → Nat} : ∀ (k : Nat), (∀ p, p < k → f p = g p) → kyF f k = kyF g k
  | 0, _ => rfl
  | k + 1, h => by simp only [kyF]; rw [kyF_cong k (fun p hp => h p (by omega)), h k (by omega)]
theorem s_keys {σ : St} {n r : Nat} {f : Nat → Nat} (h8 : n ≤ 8) (hr : r < 193) (hn : σ 1 0 = n) (hf : ∀ p, p < n → σ 3 (8 * (r : Int) + p) = f p) {post : St → Prop} (hp : post (up σ 4 r (kyF f n))) : wp_X9_keys σ r post := by
  have h : ∀ (fu k : Nat), n < k + fu → k ≤ n → wp_X9_keys_4 post fu r (kyF f k) k σ := by
    intro fu
    induction fu with
    | zero => intro k a b; omega
    | succ fu ih =>
      intro k a b
      unfold wp_X9_keys_4
      rw [hn]
      refine ⟨⟨by omega, by omega⟩, ⟨by omega, by omega⟩, fun c => ⟨by omega, by omega, ?_⟩, fun c => ⟨by omega, by omega, ?_⟩⟩
      · intro σ1 e1
        have : k = n := by omega
        rw [e1, this]; exact hp
      · rw [hf k (by omega), show ((k : Int) + 1) = ((k + 1 : Nat) : Int) by omega]
        exact ih (k + 1) (by omega) (by omega)
  exact ⟨9, h 9 0 (by omega) (Nat.zero_le _)⟩
theorem s_goes {σ : St} {n r pl : Nat} {f : Nat → Nat} (h8 : n ≤ 8) (hr : r < 192) (hpl : pl < 2147483648) (hn : σ 1 0 = n) (hg : gdF 9 n pl 0 = true) (hf : ∀ p, p < n → σ 3 (8 * (r : Int) + p) = f p) {post : St → Prop}
    (hp : ∀ σ' : St, (∀ p, p < n → σ' 3 (8 * ((r + 1 : Nat) : Int) + p) = f (PI n pl p)) → (∀ j : Int, j < 8 * ((r + 1 : Nat) : Int) → σ' 3 j = σ 3 j) → σ' 4 ((r + 1 : Nat) : Int) = kyF (fun p => f (PI n pl p)) n → (∀ j : Int, j ≠ ((r + 1 : Nat) : Int) → σ' 4 j = σ 4 j) → (∀ c, c ≠ 3 → c ≠ 4 → σ' c = σ c) → post σ') : wp_X9_goes σ r pl post := by
  have h : ∀ (fu k : Nat) (τ : St), n < k + fu → k ≤ n → gdF fu n pl k = true → (∀ q, k ≤ q → piF fu n pl k q = PI n pl q) → (∀ p, p < k → τ 3 (8 * ((r + 1 : Nat) : Int) + p) = f (PI n pl p)) → (∀ j : Int, j < 8 * ((r + 1 : Nat) : Int) → τ 3 j = σ 3 j) → (∀ c, c ≠ 3 → τ c = σ c) → wp_X9_goes_10 post fu r pl n k τ := by
    intro fu
    induction fu with
    | zero => intro k τ a b; omega
    | succ fu ih =>
      intro k τ a b hg hpi t3 tl tc
      unfold wp_X9_goes_10
      refine ⟨⟨by omega, by omega⟩, ⟨by omega, by omega⟩, fun c => ?_, fun c => ?_⟩
      · have : k = n := by omega
        subst this
        rw [show ((r : Int) + 1) = ((r + 1 : Nat) : Int) by omega]
        refine s_keys (f := fun p => f (PI k pl p)) h8 (by omega) (by rw [tc 1 (by decide)]; exact hn) t3 ?_
        refine hp _ (fun p hp2 => by rw [up_ne _ (by decide)]; exact t3 p hp2) (fun j hj => by rw [up_ne _ (by decide)]; exact tl j hj) up_same (fun j hj => ?_) (fun c c3 c4 => by rw [up_ne _ c4]; exact tc c c3)
        rw [up_cell]; simp only [hj, if_false]; rw [tc 4 (by decide)]
      · have hk : k < n := by omega
        unfold gdF at hg
        rw [if_neg (by omega)] at hg
        rw [bit_eq hpl (by omega)]
        have hpk := hpi k (Nat.le_refl _)
        cases q : pl.testBit k
        · rw [q] at hg
          simp only [Bool.false_eq_true, if_false] at hg ⊢
          have hk1 : k + 1 < n := by
            rcases Nat.lt_or_ge (k + 1) n with z | z
            · exact z
            · rw [if_pos z] at hg; cases hg
          rw [if_neg (by omega)] at hg
          have hb1 : pl.testBit (k + 1) = false := by
            cases z : pl.testBit (k + 1)
            · rfl
            · rw [z] at hg; simp at hg
          rw [hb1] at hg
          simp only [Bool.false_eq_true, if_false] at hg
          have e0 : PI n pl k = k + 1 := by rw [← hpk]; unfold piF; rw [if_neg (by omega), q]; simp
          have e1 : PI n pl (k + 1) = k := by rw [← hpi (k + 1) (by omega)]; unfold piF; rw [if_neg (by omega), q]; simp
          refine ⟨by decide, fun _ => ⟨by omega, by omega, by omega, by omega, ?_⟩, fun c2 => absurd c2 (by decide)⟩
          intro τ2 u2
          refine ⟨by omega, by omega, by omega, by omega, ?_⟩
          intro τ3 u3
          rw [show ((k : Int) + 2) = ((k + 2 : Nat) : Int) by omega]
          have g3 : ∀ j : Int, j ≠ 8 * (r : Int) + 8 + k → j ≠ 8 * (r : Int) + 9 + k → τ3 3 j = τ 3 j := fun j j1 j2 => by
            rw [u3, up_cell]; simp only [j2, if_false]; rw [u2, up_cell]; simp only [j1, if_false]
          refine ih (k + 2) τ3 (by omega) (by omega) hg (fun z hz => ?_) (fun p hp2 => ?_) (fun j hj => ?_) (fun c c3 => ?_)
          · rw [← hpi z (by omega)]
            conv => rhs; unfold piF
            rw [if_neg (by omega), q]
            simp only [Bool.false_eq_true, if_false]
            rw [if_neg (by omega), if_neg (by omega)]
          · by_cases p0 : p = k
            · subst p0
              rw [e0, u3, up_cell]
              rw [show (8 * ((r + 1 : Nat) : Int) + (p : Int)) = 8 * (r : Int) + 8 + p by omega]
              have : ¬ (8 * (r : Int) + 8 + (p : Int) = 8 * (r : Int) + 9 + p) := by omega
              simp only [this, if_false]
              rw [u2, up_cell]
              simp only [if_true]
              rw [tl _ (by omega), show (8 * (r : Int) + p + 1) = 8 * (r : Int) + ((p + 1 : Nat) : Int) by omega]
              exact hf (p + 1) (by omega)
            · by_cases p1 : p = k + 1
              · subst p1
                rw [e1, u3, up_cell]
                rw [show (8 * ((r + 1 : Nat) : Int) + ((k + 1 : Nat) : Int)) = 8 * (r : Int) + 9 + k by omega]
                simp only [if_true]
                rw [u2, up_cell]
                have : ¬ (8 * (r : Int) + (k : Int) = 8 * (r : Int) + 8 + k) := by omega
                simp only [this, if_false]
                rw [tl _ (by omega)]
                exact hf k (by omega)
              · rw [g3 _ (by omega) (by omega)]
                exact t3 p (by omega)
          · rw [g3 _ (by omega) (by omega)]; exact tl j hj
          · rw [u3, u2, up_ne _ c3, up_ne _ c3]; exact tc c c3
        · rw [q] at hg
          simp only [if_true] at hg ⊢
          have e0 : PI n pl k = k := by rw [← hpk]; unfold piF; rw [if_neg (by omega), q]; simp
          refine ⟨by decide, fun c2 => absurd trivial c2, fun _ => ⟨by omega, by omega, by omega, by omega, ?_⟩⟩
          intro τ2 u2
          rw [show ((k : Int) + 1) = ((k + 1 : Nat) : Int) by omega]
          refine ih (k + 1) τ2 (by omega) (by omega) hg (fun z hz => ?_) (fun p hp2 => ?_) (fun j hj => ?_) (fun c c3 => ?_)
          · rw [← hpi z (by omega)]
            conv => rhs; unfold piF
            rw [if_neg (by omega), q]
            simp only [if_true]
            rw [if_neg (by omega)]
          · rw [u2, up_cell]
            by_cases p0 : p = k
            · subst p0
              rw [e0, show (8 * ((r + 1 : Nat) : Int) + (p : Int)) = 8 * (r : Int) + 8 + p by omega]
              simp only [if_true]
              rw [tl _ (by omega)]
              exact hf p (by omega)
            · have : ¬ (8 * ((r + 1 : Nat) : Int) + (p : Int) = 8 * (r : Int) + 8 + k) := by omega
              simp only [this, if_false]
              exact t3 p (by omega)
          · rw [u2, up_cell]
            have : ¬ (j = 8 * (r : Int) + 8 + k) := by omega
            simp only [this, if_false]
            exact tl j hj
          · rw [u2, up_ne _ c3]; exact tc c c3
  unfold wp_X9_goes
  rw [hn]
  exact ⟨9, h 9 0 σ (by omega) (Nat.zero_le _) hg (fun q _ => rfl) (fun p hp2 => absurd hp2 (Nat.not_lt_zero _)) (fun _ _ => rfl) (fun _ _ => rfl)⟩
/-- the reference's rows 0 .. r -/
def mrOK (σ : St) (n : Nat) (P : Nat → Nat) (r : Nat) : Prop := ∀ q, q ≤ r → (∀ p, p < n → σ 3 (8 * (q : Int) + p) = RF n P q p) ∧ σ 4 (q : Int) = kyF (RF n P q) n
theorem GD_gdF {n pl : Nat} (h : GD n pl = true) : gdF 9 n pl 0 = true := by
  simp only [GD, Bool.and_eq_true] at h; exact h.2
theorem s_rings {σ : St} {c : Cf} (hm : mcOK (σ 1) c) (hw : wfC c) {post : St → Prop} (hp : ∀ σ' : St, mrOK σ' (cN c) (stp c) (lastC c) → σ' 0 3 = lastC c → (∀ j : Int, j ≠ 3 → σ' 0 j = σ 0 j) → (∀ d, d ≠ 0 → d ≠ 3 → d ≠ 4 → σ' d = σ d) → post σ') : wp_X9_rings σ post := by
  obtain ⟨m0, m1, m2, m3, m4, mh, mc⟩ := hm
  obtain ⟨h4, h8, h16, hh, hB, hS, hcal, hl1, hl12⟩ := id hw
  have hL := lastC_le hw
  have hgP := stp_ok hw (Nat.le_refl (lastC c))
  -- the rows behind 0
  have l2 : ∀ (fu r : Nat) (τ : St), r ≤ lastC c → lastC c < r + fu → mrOK τ (cN c) (stp c) r → τ 0 3 = lastC c → (∀ j : Int, j ≠ 3 → τ 0 j = σ 0 j) → (∀ d, d ≠ 0 → d ≠ 3 → d ≠ 4 → τ d = σ d) → wp_X9_rings_53 post fu (cM c) r τ := by
    intro fu
    induction fu with
    | zero => intro r τ a b; omega
    | succ fu ih =>
      intro r τ a b hr t3 t0 td
      unfold wp_X9_rings_53
      rw [t3]
      have t1 : τ 1 = σ 1 := td 1 (by decide) (by decide) (by decide)
      refine ⟨⟨by omega, by omega⟩, ⟨by omega, by omega⟩, fun cc => ?_, fun cc => ?_⟩
      · have : r = lastC c := by omega
        subst this
        exact hp τ hr t3 t0 td
      · have hrl : r < lastC c := by omega
        have hpos : 0 < cM c := by
          rcases Nat.eq_zero_or_pos (cM c) with e | e
          · unfold lastC at hrl; rw [e] at hrl; omega
          · exact e
        have hmod := Nat.mod_lt r hpos
        have hdiv : r / cM c < cL c := by
          rw [Nat.div_lt_iff_lt_mul hpos, Nat.mul_comm]; exact hrl
        have em : ((r : Int).tmod (cM c : Int)) = ((r % cM c : Nat) : Int) := by rw [Int.tmod_eq_emod_of_nonneg (by omega)]; rfl
        have ed : ((r : Int).tdiv (cM c : Int)) = ((r / cM c : Nat) : Int) := by rw [Int.tdiv_eq_ediv_of_nonneg (by omega)]; rfl
        have hst : stp c r = chgOf c (r % cM c) (cC c (r / cM c)) := rfl
        generalize r % cM c = md at hmod em hst
        generalize r / cM c = dv at hdiv ed hst
        rw [em, ed, t1, mh _ hmod, mc _ (by omega)]
        clear em ed
        have hcl := hcal dv (by omega)
        have hgo : ∀ x : Nat, x = stp c r → wp_X9_rings_123 (wp_X9_rings_53 post fu) post (cM c) r x τ := by
          intro x hx
          unfold wp_X9_rings_123
          have hgx := hgP r hrl
          refine s_goes (f := RF (cN c) (stp c) r) h8 (by omega) (by omega) (by rw [t1]; exact m0) (GD_gdF (by rw [hx]; exact hgx.2)) (hr r (Nat.le_refl _)).1 (fun τ' a1 a2 a3 a4 a5 => ?_)
          rw [show ((r : Int) + 1) = ((r + 1 : Nat) : Int) by omega]
          refine ih (r + 1) τ' (by omega) (by omega) (fun q hq => ?_) (by rw [a5 0 (by decide) (by decide)]; exact t3) (fun j hj => by rw [a5 0 (by decide) (by decide)]; exact t0 j hj) (fun d d0 d3 d4 => by rw [a5 d d3 d4]; exact td d d0 d3 d4)
          by_cases z : q = r + 1
          · subst z
            rw [hx] at a1 a3
            exact ⟨a1, a3⟩
          · have hq2 := hr q (by omega)
            refine ⟨fun p hp2 => ?_, ?_⟩
            · rw [a2 _ (by omega)]; exact hq2.1 p hp2
            · rw [a4 _ (by omega)]; exact hq2.2
        have hs1 : ∀ z : Prop, (calledI c (cC c dv) = -1 ∨ ¬ (md + 1 = cM c)) → cH c md = stp c r := by
          intro _ hz
          rw [hst]; unfold chgOf
          rw [if_neg (fun y => by rcases hz with e | e; exact y.2 e; exact e y.1)]
        refine ⟨⟨by omega, by omega⟩, ⟨by omega, by omega⟩, by omega, by omega, by omega, ⟨by omega, by omega⟩, ⟨by omega, by omega⟩, by omega, by omega, by omega, ⟨by omega, by omega⟩, ⟨by omega, by omega⟩, by omega, ⟨by omega, by omega⟩, ⟨by omega, by omega⟩, fun c1 => ?_, fun c1 => ⟨⟨by omega, by omega⟩, fun c2 => ?_, fun c2 => ⟨by omega, by omega, ?_⟩⟩⟩
        · exact hgo _ (hs1 True (Or.inr (by omega)))
        · refine hgo _ (hs1 True (Or.inl ?_))
          unfold calledI
          rw [if_neg (by omega), if_neg (by omega)]
        · have hcd : σ 1 (1 + ((cC c dv : Nat) : Int)) = calledI c (cC c dv) := by
            unfold calledI
            by_cases z1 : cC c dv = 1
            · rw [if_pos z1, z1]; exact m2
            · have z2 : cC c dv = 2 := by omega
              rw [if_neg z1, if_pos z2, z2]; exact m3
          rw [hcd]
          have hck := calledI_ok hw (cC c dv)
          refine ⟨?_, fun c3 => hgo _ (hs1 True (Or.inl c3)), fun c3 => ⟨by omega, by omega, ?_⟩⟩
          · rcases hck with e | ⟨b, e, hb, -⟩ <;> rw [e] <;> constructor <;> omega
          · rcases hck with e | ⟨b, e, hb, hb2⟩
            · exact absurd e c3
            · rw [e]
              refine hgo b ?_
              rw [hst]; unfold chgOf
              rw [if_pos ⟨by omega, c3⟩, e]; rfl
  have l1 : ∀ (fu k : Nat) (τ : St), k ≤ cN c → cN c < k + fu → (∀ p, p < k → τ 3 (p : Int) = ((p + 1 : Nat) : Int)) → (∀ d, d ≠ 3 → τ d = σ d) → wp_X9_rings_2 post fu k τ := by
    intro fu
    induction fu with
    | zero => intro k τ a b; omega
    | succ fu ih =>
      intro k τ a b t3 td
      unfold wp_X9_rings_2
      have t1 : τ 1 = σ 1 := td 1 (by decide)
      rw [t1, m0]
      refine ⟨⟨by omega, by omega⟩, ⟨by omega, by omega⟩, fun cc => ?_, fun cc => ⟨by omega, by omega, ?_⟩⟩
      · have hkn : k = cN c := by omega
        have := s_keys (σ := τ) (n := cN c) (r := 0) (f := fun p => p + 1) h8 (by decide) (by rw [t1]; exact m0) (fun p hp2 => by rw [show (8 * ((0 : Nat) : Int) + (p : Int)) = p by omega]; exact t3 p (by omega)) (post := fun σ1 => (∀ σ2 : St, σ2 = up σ1 0 3 ((σ1 1 1) * (σ1 1 4)) → (∃ n : Nat, wp_X9_rings_53 post n (σ1 1 1) 0 σ2))) ?_
        · exact this
        · intro σ2 e2
          have g1 : (up τ 4 ((0 : Nat) : Int) (kyF (fun p => p + 1) (cN c))) 1 = σ 1 := by rw [up_ne _ (by decide)]; exact t1
          rw [g1, m1, m4] at e2
          rw [g1, m1]
          refine ⟨lastC c + 1, ?_⟩
          refine l2 (lastC c + 1) 0 σ2 (Nat.zero_le _) (by omega) (fun q hq => ?_) ?_ (fun j hj => ?_) (fun d d0 d3 d4 => ?_)
          · have : q = 0 := by omega
            subst this
            refine ⟨fun p hp2 => ?_, ?_⟩
            · rw [e2, up_ne _ (by decide), up_ne _ (by decide), show (8 * ((0 : Nat) : Int) + (p : Int)) = p by omega]; exact t3 p (by omega)
            · rw [e2, up_ne _ (by decide), up_same]; rfl
          · rw [e2, up_same]; unfold lastC; push_cast; rfl
          · rw [e2, up_cell]; simp only [hj, if_false]; rw [up_ne _ (by decide), td 0 (by decide)]
          · rw [e2, up_ne _ d0, up_ne _ d4]; exact td d d3
      · intro τ2 u2
        rw [show ((k : Int) + 1) = ((k + 1 : Nat) : Int) by omega]
        refine ih (k + 1) τ2 (by omega) (by omega) (fun p hp2 => ?_) (fun d d3 => by rw [u2, up_ne _ d3]; exact td d d3)
        rw [u2, up_cell]
        by_cases z : (p : Int) = k
        · simp only [z, if_true]; omega
        · simp only [z, if_false]; exact t3 p (by omega)
  exact ⟨10, l1 10 0 σ (Nat.zero_le _) (by omega) (fun p hp2 => absurd hp2 (Nat.not_lt_zero _)) (fun _ _ => rfl)⟩
