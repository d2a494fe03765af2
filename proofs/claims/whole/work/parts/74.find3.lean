/-! the search -/
def np (s : Nat × Int) : Int := if s.2 = -5 then -5 else (s.1 : Int)
def flg (c : Cf) (k : Nat) : Int := if k ≠ 0 ∧ calledI c k = -1 then 0 else 1
def SH (c : Cf) (L : Nat) (s : Nat × Int) (σ : St) : Prop := σ 0 0 = s.2 ∧ σ 0 1 = np s ∧ σ 0 5 = (L : Int) ∧ σ 0 6 = (s.1 : Int) ∧ ∀ k : Nat, k ≤ 2 → σ 10 (k : Int) = flg c k
def SB (c : Cf) (L v x : Nat) (s : Nat × Int) (σ : St) : Prop := SQ c (stp (cfx c v x)) (v * cM c) σ ∧ SH c L s σ
theorem SH_fr {c : Cf} {L : Nat} {s : Nat × Int} {σ0 σ : St} (h : SH c L s σ0) (hf : fr1 σ0 σ) : SH c L s σ := by
  have e0 := hf.1 0 (by decide) (by decide) (by decide)
  have e10 := hf.1 10 (by decide) (by decide) (by decide)
  unfold SH at *
  rw [e0, e10]; exact h
theorem stp_c {c : Cf} {v x k q : Nat} (hk : k < 3) (hq : q < v * cM c) : stp (cfx c (v + 1) (3 * x + k)) q = stp (cfx c v x) q := by
  have := stp_sub (c := c) (v := v) (d := 1) (x := x) (z := k) (q := q) (by rw [Nat.pow_one]; exact hk) hq
  rw [Nat.pow_one, Nat.mul_comm x 3] at this; exact this
theorem stp_last {c : Cf} {v x k j : Nat} (hk : k < 3) (hj : j < cM c) : stp (cfx c (v + 1) (3 * x + k)) (v * cM c + j) = chgOf c j k := by
  show chgOf c ((v * cM c + j) % cM c) (if (v * cM c + j) / cM c < v + 1 then dgt (v + 1) (3 * x + k) ((v * cM c + j) / cM c) else cC c ((v * cM c + j) / cM c)) = _
  have e1 : (v * cM c + j) % cM c = j := by rw [Nat.mul_comm, Nat.mul_add_mod, Nat.mod_eq_of_lt hj]
  have e2 : (v * cM c + j) / cM c = v := by
    rw [Nat.mul_comm, Nat.mul_add_div (by omega), Nat.div_eq_of_lt hj]; omega
  rw [e1, e2, if_pos (by omega), dgt_c2 hk]
theorem SQ_0 {c : Cf} {P : Nat → Nat} {w : Nat} {σ σ' : St} (h : SQ c P w σ) (e : ∀ d, d ≠ 0 → σ' d = σ d) : SQ c P w σ' := by
  obtain ⟨⟨a1, a2, T, a3, a4⟩, a5⟩ := h
  have e1 := e 1 (by decide); have e2 := e 2 (by decide); have e9 := e 9 (by decide)
  refine ⟨⟨tm1_cong a1 (by rw [e1]) (e 3 (by decide)) (e 4 (by decide)), by rw [e2]; exact a2, T, by rw [e2]; exact a3, by rw [e9]; exact a4⟩, by rw [e1]; exact a5⟩
theorem t_call {c : Cf} (hw : wfC c) (hM : 0 < cM c) {L v d x k cnt : Nat} (hL : L ≤ 5) (hv : v + 1 + d = L) (hk : k ≤ 2) {s : Nat × Int} (hs1 : s.1 ≤ 1000) (hcnt : cnt ≤ 1000) {σ : St} (hD : DZ (cN c) (stp (cfx c v x)) (v * cM c + 1)) (hB : SB c L v x s σ) {rec : St → Int → Int → Int → (St → Prop) → Prop} {k12 : Int → Int → Int → Int → St → Prop} {post : St → Prop} {v3 : Int}
    (hun : k ≠ 0 → calledI c k = -1 → Fo (trX c L) d (3 * x + k) cnt s = s)
    (hrec : ∀ (σ1 : St) (Q : St → Prop), DZ (cN c) (stp (cfx c (v + 1) (3 * x + k))) ((v + 1) * cM c + 1) → SB c L (v + 1) (3 * x + k) s σ1 → (∀ σ' : St, SB c L (v + 1) (3 * x + k) (Fo (trX c L) d (3 * x + k) cnt s) σ' → Q σ') → rec σ1 ((v : Int) + 1) (3 * (x : Int) + (k : Int)) cnt Q)
    (hk12 : ∀ σ' : St, SB c L v x (Fo (trX c L) d (3 * x + k) cnt s) σ' → k12 v x v3 ((k : Int) + 1) σ') : wp_X0_search_30 rec k12 post v x v3 k cnt σ := by
  subst hv
  have h16 := hw.2.2.1
  have hvM1 : (v + 1) * cM c = v * cM c + cM c := by rw [Nat.add_mul, Nat.one_mul]
  have hvM : v * cM c + cM c ≤ 80 := by
    have : (v + 1) * cM c ≤ 5 * 16 := Nat.mul_le_mul (by omega) h16
    omega
  have hLM : (v + 1 + d) * cM c ≤ 80 := by
    have : (v + 1 + d) * cM c ≤ 5 * 16 := Nat.mul_le_mul (by omega) h16
    omega
  obtain ⟨hQ, hH⟩ := id hB
  obtain ⟨b0, b1, b5, b6, b10⟩ := id hH
  have bk : ∀ (w : Nat) (s' : Nat × Int) (σ1 : St), v * cM c ≤ w → w ≤ 192 → SQ c (stp (cfx c (v + 1) (3 * x + k))) w σ1 → SH c (v + 1 + d) s' σ1 → s' = Fo (trX c (v + 1 + d)) d (3 * x + k) cnt s → wp_X0_search_124 rec k12 post v x v3 k (σ 1 1) σ1 := by
    intro w s' σ1 h1 h2 h3 h4 h5
    subst h5
    unfold wp_X0_search_124
    rw [hQ.2]
    exact t_backTo h3 h1 h2 (fun σ2 p1 p2 => hk12 σ2 ⟨⟨RQ_P p1.1 (fun z hz => (stp_c (by omega) hz).symm), p1.2⟩, SH_fr h4 p2⟩)
  have hsk : Fo (trX c (v + 1 + d)) d (3 * x + k) cnt s = s → wp_X0_search_130 rec k12 post v x v3 k σ := fun e => hk12 σ (by rw [e]; exact hB)
  unfold wp_X0_search_30
  rw [b10 k hk, b6]
  refine ⟨by omega, by omega, ?_, fun c0 => ?_, fun c0 => ⟨rgn hcnt, rgn hs1, fun c1 => ?_, fun c1 => ?_⟩⟩
  · unfold flg; split <;> decide
  · unfold flg at c0
    by_cases z : k ≠ 0 ∧ calledI c k = -1
    · exact hsk (hun z.1 z.2)
    · rw [if_neg z] at c0; exact absurd c0 (by decide)
  · exact hsk (Fo_id _ _ _ _ _ (Bd_prune _ _ _ _ _ (by omega)))
  · unfold wp_X0_ringTillAgain
    refine ⟨cM c + 1, t_rta hw (P := stp (cfx c (v + 1) (3 * x + k))) (r := v * cM c) (σ0 := σ) (by omega) hk (fun j hj => stp_last (by omega) hj) (fun w => cfx_gd hw hM _ _ w) (fun σ1 p1 p2 p3 => ?_) (fun w q σ1 w1 w2 p1 p2 p4 p5 p3 => ?_) (cM c + 1) 0 σ (Nat.zero_le _) (by omega) ⟨RQ_P hQ.1 (fun z hz => stp_c (by omega) hz), hQ.2⟩ (DZ_cong (fun z hz => stp_c (by omega) (by omega)) hD) (fr1_refl σ)⟩
    · refine ⟨by decide, fun z => absurd rfl z, fun _ => hrec σ1 _ (by rw [hvM1]; exact p2) ⟨by rw [hvM1]; exact p1, SH_fr hH p3⟩ (fun σ6 h6 => ?_)⟩
      exact bk ((v + 1) * cM c) _ σ6 (by omega) (by omega) h6.1 h6.2 rfl
    · have f0 : σ1 0 = σ 0 := p3.1 0 (by decide) (by decide) (by decide)
      have h02 : σ1 1 2 = cM c := p1.1.1.1
      have hX := p1.1.2.1
      have zz : σ1 2 (w : Int) = σ1 2 0 ↔ ZZ (cN c) (stp (cfx c (v + 1) (3 * x + k))) w = ZZ (cN c) (stp (cfx c (v + 1) (3 * x + k))) 0 := ZZ_eq hw (cfx_gd hw hM _ _ _) (X := fun q => σ1 2 (q : Int)) hX (Nat.le_refl _) (Nat.zero_le _)
      refine ⟨rgn (by omega), fun _ => ?_, fun z => by omega⟩
      unfold wp_X0_isEnd
      rw [f0, b5, h02, show ((v + 1 + d : Nat) : Int) * (cM c : Int) = (((v + 1 + d) * cM c : Nat) : Int) from (Int.natCast_mul _ _).symm]
      have stay : ¬ (w = (v + 1 + d) * cM c ∧ ZZ (cN c) (stp (cfx c (v + 1) (3 * x + k))) w = ZZ (cN c) (stp (cfx c (v + 1) (3 * x + k))) 0) → wp_X0_search_124 rec k12 post v x v3 k (σ 1 1) σ1 := fun hn =>
        bk w s σ1 (by omega) (by omega) p1 (SH_fr hH p3) (Fo_id _ _ _ _ _ (Bd_false _ _ _ _ _ (trX_no (by omega) p4 p5 hn))).symm
      refine ⟨rgn (by omega), rgn (by omega), fun c2 => ⟨by decide, fun _ => stay (fun z => c2 (by rw [z.1])), fun z => absurd rfl z⟩, fun c2 => ⟨by omega, by omega, (hX w (Nat.le_refl _)).1, (hX 0 (Nat.zero_le _)).1, fun c3 => ⟨by decide, fun _ => stay (fun z => c3 (zz.mpr z.2)), fun z => absurd rfl z⟩, fun c3 => ⟨by decide, fun z => absurd z (by decide), fun _ => ?_⟩⟩⟩
      intro σ3 e3 σ4 e4 σ5 e5
      have hwe : w = (v + 1 + d) * cM c := by omega
      have hd : d = 0 := by
        rcases Nat.eq_zero_or_pos d with e | e
        · exact e
        · have a1 : (v + 1 + d) * cM c = (v + 1) * cM c + d * cM c := Nat.add_mul _ _ _
          have a2 : 1 * cM c ≤ d * cM c := Nat.mul_le_mul_right _ e
          omega
      subst hd
      have ht : trX c (v + 1 + 0) (3 * x + k) = true := trF_iff.mpr (by
        have hl : lastC (cfx c (v + 1 + 0) (3 * x + k)) = w := by
          show cM c * (v + 1 + 0) = w
          rw [hwe, Nat.mul_comm]
        rw [hl]
        exact ⟨by omega, zz.mp c3, fun q' r' h1 h2 => p2 q' r' h1 h2⟩)
      have u0 : ∀ d, d ≠ 0 → σ5 d = σ1 d := fun d hd => by rw [e5, up_ne _ hd, e4, up_ne _ hd, e3, up_ne _ hd]
      have n10 := p3.1 10 (by decide) (by decide) (by decide)
      refine bk w (cnt, ((3 * x + k : Nat) : Int)) σ5 (by omega) (by omega) (SQ_0 p1 u0) ⟨?_, ?_, ?_, ?_, fun i hi => ?_⟩ ?_
      · rw [e5, up_j _ (by decide), e4, up_j _ (by decide), e3, up_same]
        show 3 * (x : Int) + (k : Int) = ((3 * x + k : Nat) : Int); omega
      · rw [e5, up_j _ (by decide), e4, up_same]
        unfold np
        rw [if_neg (show ¬ ((3 * x + k : Nat) : Int) = -5 by omega)]
      · rw [e5, up_j _ (by decide), e4, up_j _ (by decide), e3, up_j _ (by decide), f0]; exact b5
      · rw [e5, up_same]
      · rw [u0 10 (by decide), n10]; exact b10 i hi
      · show (cnt, ((3 * x + k : Nat) : Int)) = if trX c (v + 1 + 0) (3 * x + k) && decide (cnt < s.1) then (cnt, ((3 * x + k : Nat) : Int)) else s
        rw [ht, Bool.true_and, if_pos (decide_eq_true (by omega))]
theorem t_search {c : Cf} (hw : wfC c) (hM : 0 < cM c) {L : Nat} (hL1 : 1 ≤ L) (hL : L ≤ 5) : ∀ (d fu v x cnt : Nat) (s : Nat × Int) (σ : St) (post : St → Prop), v + d = L → d < fu → s.1 ≤ 1000 → cnt ≤ v → DZ (cN c) (stp (cfx c v x)) (v * cM c + 1) → SB c L v x s σ → (∀ σ' : St, SB c L v x (Fo (trX c L) d x cnt s) σ' → post σ') → wp_X0_search fu σ v x cnt post := by
  intro d
  induction d with
  | zero =>
    intro fu v x cnt s σ post hv hf hs hc hD hB hp
    obtain ⟨fu, rfl⟩ : ∃ f, fu = f + 1 := ⟨fu - 1, by omega⟩
    obtain rfl : v = L := by omega
    show wp_X0_search_0 (wp_X0_search fu) σ v x cnt post
    unfold wp_X0_search_0
    rw [hB.2.2.2.1]
    have hid : Fo (trX c v) 0 x cnt s = s := Fo_id _ _ _ _ _ (fun z => by
      exfalso
      obtain ⟨h1, h2, -⟩ := trF_iff.mp z
      have hl : lastC (cfx c v x) = v * cM c := Nat.mul_comm _ _
      rw [hl] at h1 h2
      exact hD 0 (v * cM c) h1 (by omega) h2.symm)
    exact ⟨rgn (by omega), rgn (by omega), fun z => by omega, fun _ => hp σ (by rw [hid]; exact hB)⟩
  | succ d ih =>
    intro fu v x cnt s σ post hv hf hs hc hD hB hp
    obtain ⟨fu, rfl⟩ : ∃ f, fu = f + 1 := ⟨fu - 1, by omega⟩
    have hv' : v + 1 + d = L := by omega
    show wp_X0_search_0 (wp_X0_search fu) σ v x cnt post
    unfold wp_X0_search_0
    rw [hB.2.2.2.1]
    refine ⟨rgn (by omega), rgn (by omega), fun _ => ⟨3 + 1, ?_⟩, fun z => by omega⟩
    have hrec : ∀ (k cnt' : Nat) (s' : Nat × Int), k ≤ 2 → cnt' ≤ v + 1 → s'.1 ≤ 1000 → ∀ (σ1 : St) (Q : St → Prop), DZ (cN c) (stp (cfx c (v + 1) (3 * x + k))) ((v + 1) * cM c + 1) → SB c L (v + 1) (3 * x + k) s' σ1 → (∀ σ' : St, SB c L (v + 1) (3 * x + k) (Fo (trX c L) d (3 * x + k) cnt' s') σ' → Q σ') → wp_X0_search fu σ1 ((v : Int) + 1) (3 * (x : Int) + (k : Int)) cnt' Q := by
      intro k cnt' s' h1 h2 h3 σ1 Q h4 h5 h6
      have := ih fu (v + 1) (3 * x + k) cnt' s' σ1 Q hv' (by omega) h3 h2 h4 h5 h6
      rwa [show ((v + 1 : Nat) : Int) = (v : Int) + 1 by omega, show ((3 * x + k : Nat) : Int) = 3 * (x : Int) + (k : Int) by omega] at this
    have g0 := Fo_mono (trX c L) d (3 * x) cnt s
    have g1 := Fo_mono (trX c L) d (3 * x + 1) (cnt + 1) (Fo (trX c L) d (3 * x) cnt s)
    have A3 : ∀ σ' : St, SB c L v x (Fo (trX c L) (d + 1) x cnt s) σ' → wp_X0_search_12 (wp_X0_search fu) post (0 + 1) v x cnt 3 σ' := fun σ' h => by
      unfold wp_X0_search_12
      exact ⟨by decide, fun _ => hp σ' h, fun z => absurd (by decide) z⟩
    have A2 : ∀ σ' : St, SB c L v x (Fo (trX c L) d (3 * x + 1) (cnt + 1) (Fo (trX c L) d (3 * x) cnt s)) σ' → wp_X0_search_12 (wp_X0_search fu) post (1 + 1) v x cnt 2 σ' := fun σ' h => by
      unfold wp_X0_search_12
      refine ⟨by decide, fun z => absurd z (by decide), fun _ => ⟨by decide, fun _ => ?_, fun z => absurd z (by decide)⟩⟩
      rw [show (cnt : Int) + 1 = ((cnt + 1 : Nat) : Int) by omega]
      refine t_call hw hM hL hv' (k := 2) (Nat.le_refl _) (by omega) (by omega) hD h (fun _ hn => ?_) (hrec 2 (cnt + 1) _ (Nat.le_refl _) (by omega) (by omega)) A3
      refine Fo_id _ _ _ _ _ (Bd_tr _ _ (3 * x) _ _ _ (fun z hz e => ?_) (Bd_mono _ _ _ _ _ _ _ (Nat.le_succ _) g1 (Fo_bd _ _ _ _ _)))
      subst hv'
      rw [trX_untold hn (by decide) hz] at e; exact e
    have A1 : ∀ σ' : St, SB c L v x (Fo (trX c L) d (3 * x) cnt s) σ' → wp_X0_search_12 (wp_X0_search fu) post (2 + 1) v x cnt 1 σ' := fun σ' h => by
      unfold wp_X0_search_12
      refine ⟨by decide, fun z => absurd z (by decide), fun _ => ⟨by decide, fun _ => ?_, fun z => absurd z (by decide)⟩⟩
      rw [show (cnt : Int) + 1 = ((cnt + 1 : Nat) : Int) by omega]
      refine t_call hw hM hL hv' (k := 1) (by decide) (by omega) (by omega) hD h (fun _ hn => ?_) (hrec 1 (cnt + 1) _ (by decide) (by omega) (by omega)) A2
      refine Fo_id _ _ _ _ _ (Bd_tr _ _ (3 * x) _ _ _ (fun z hz e => ?_) (Bd_mono _ _ _ _ _ _ _ (Nat.le_succ _) (Nat.le_refl _) (Fo_bd _ _ _ _ _)))
      subst hv'
      rw [trX_untold hn (by decide) hz] at e; exact e
    unfold wp_X0_search_12
    refine ⟨by decide, fun z => absurd z (by decide), fun _ => ⟨by decide, fun z => absurd rfl z, fun _ => ?_⟩⟩
    exact t_call hw hM hL hv' (k := 0) (by decide) hs (by omega) hD hB (fun z _ => absurd rfl z) (hrec 0 cnt s (by decide) (by omega) hs) A1
