/-! after -/
def hapC (c : Cf) (k v : Nat) : Cf :=
  if k = 0 then (cN c, cM c, cH c, cB c, cS c, (fun i => if i = v then 0 else cC c i), cL c)
  else if k = 1 then (cN c, cM c, cH c, cB c, cS c, (fun i => if i = v then 1 else cC c i), cL c)
  else if k = 2 then (cN c, cM c - v, cH c, cB c, cS c, cC c, cL c)
  else (cN c, cM c, cH c, cB c, cS c, cC c, v)
def hapL (s : Su) : Nat → Nat → Cf → Cf
  | 0, _, c => c
  | k + 1, i, c => hapL s k (i + 1) (hapC c ((sEv s).2.1 i) ((sEv s).2.2.1 i))
theorem hap_wf {c : Cf} (hw : wfC c) {k v : Nat} (h3 : k = 3 → 1 ≤ v ∧ v ≤ 12) (hk : k ≤ 3) : wfC (hapC c k v) ∧ cN (hapC c k v) = cN c := by
  obtain ⟨h4, h8, h16, hh, hB, hS, hcal, hl1, hl12⟩ := hw
  unfold hapC
  by_cases k0 : k = 0
  · rw [if_pos k0]
    refine ⟨⟨h4, h8, h16, hh, hB, hS, fun i hi => ?_, hl1, hl12⟩, rfl⟩
    show (if i = v then 0 else cC c i) ≤ 2
    by_cases z : i = v
    · rw [if_pos z]; omega
    · rw [if_neg z]; exact hcal i hi
  · rw [if_neg k0]
    by_cases k1 : k = 1
    · rw [if_pos k1]
      refine ⟨⟨h4, h8, h16, hh, hB, hS, fun i hi => ?_, hl1, hl12⟩, rfl⟩
      show (if i = v then 1 else cC c i) ≤ 2
      by_cases z : i = v
      · rw [if_pos z]; omega
      · rw [if_neg z]; exact hcal i hi
    · rw [if_neg k1]
      by_cases k2 : k = 2
      · rw [if_pos k2]
        exact ⟨⟨h4, h8, by show cM c - v ≤ 16; omega, fun i hi => hh i (by have : i < cM c - v := hi; omega), hB, hS, hcal, hl1, hl12⟩, rfl⟩
      · rw [if_neg k2]
        exact ⟨⟨h4, h8, h16, hh, hB, hS, hcal, (h3 (by omega)).1, (h3 (by omega)).2⟩, rfl⟩
theorem s_happen {s : Su} {σ : St} {post : St → Prop} (hwS : wfS s) (hev : hrOK σ 8 (sEv s)) : ∀ (k fu v : Nat) (c : Cf) (σ1 : St), v + k = (sEv s).1 → k < fu → wfC c → cN c = cN s.1 → cfOK σ1 0 c → (∀ d, d = 1 ∨ 3 ≤ d → σ1 d = σ d) → (∀ (c' : Cf) (σ' : St), c' = hapL s k v c → wfC c' → cN c' = cN s.1 → cfOK σ' 0 c' → (∀ d, d = 1 ∨ 3 ≤ d → σ' d = σ d) → post σ') → wp_X4_happen_2 post fu v σ1 := by
  obtain ⟨hsz, hs2⟩ := hwS.2.2.2.1
  intro k
  induction k with
  | zero =>
    intro fu v c σ1 e hf hw hn hc hd hp
    obtain ⟨fu, rfl⟩ : ∃ f, fu = f + 1 := ⟨fu - 1, by omega⟩
    unfold wp_X4_happen_2
    rw [show σ1 8 3 = ((sEv s).1 : Int) by rw [hd 8 (by omega)]; exact hev.1]
    exact ⟨rgn (by omega), rgn (by omega), fun _ => hp c σ1 rfl hw hn hc hd, fun z => by omega⟩
  | succ k ih =>
    intro fu v c σ1 e hf hw hn hc hd hp
    obtain ⟨fu, rfl⟩ : ∃ f, fu = f + 1 := ⟨fu - 1, by omega⟩
    obtain ⟨w1, w2, w3, w4⟩ := hs2 v (by omega)
    obtain ⟨y1, y2, -⟩ := hev.2 v (by omega)
    have y1' : σ1 9 (v : Int) = (sEv s).2.1 v := by rw [hd 9 (by omega)]; exact y1
    have y2' : σ1 10 (v : Int) = (sEv s).2.2.1 v := by rw [hd 10 (by omega)]; exact y2
    obtain ⟨hw', hn'⟩ := hap_wf hw (k := (sEv s).2.1 v) (v := (sEv s).2.2.1 v) w4 w1
    have h16 := hw.2.2.1
    have nx : ∀ σ2 : St, cfOK σ2 0 (hapC c ((sEv s).2.1 v) ((sEv s).2.2.1 v)) → (∀ d, d = 1 ∨ 3 ≤ d → σ2 d = σ d) → wp_X4_happen_102 (wp_X4_happen_2 post fu) post v σ2 := fun σ2 h1 h2 => by
      show wp_X4_happen_2 post fu ((v : Int) + 1) σ2
      rw [show (v : Int) + 1 = ((v + 1 : Nat) : Int) by omega]
      exact ih fu (v + 1) _ σ2 (by omega) (by omega) hw' (hn'.trans hn) h1 h2 hp
    obtain ⟨a0, a2, a3, a4, a6, a7, a8⟩ := id hc
    unfold wp_X4_happen_2
    rw [show σ1 8 3 = ((sEv s).1 : Int) by rw [hd 8 (by omega)]; exact hev.1, y1', y2']
    refine ⟨rgn (by omega), rgn (by omega), fun z => by omega, fun _ => ⟨by omega, by omega, by omega, by omega, rgn (by omega), fun c0 => ?_, fun c0 => ?_, fun c0 => ?_, fun c0 => ?_⟩⟩
    · have z0 : (sEv s).2.1 v = 0 := by omega
      have := w2 (by omega)
      refine ⟨by omega, by omega, ?_⟩
      intro σ2 e2
      refine nx σ2 ?_ (fun d hd2 => by rw [e2, up_ne _ (by omega)]; exact hd d hd2)
      rw [z0]
      refine ⟨by rw [e2, up_c _ _ (by decide)]; exact a0, by rw [e2, up_c _ _ (by decide)]; exact a2, by rw [e2, up_c _ _ (by decide)]; exact a3, by rw [e2, up_c _ _ (by decide)]; exact a4, by rw [e2, up_c _ _ (by decide)]; exact a6, fun i hi => by rw [e2, up_c _ _ (by decide)]; exact a7 i hi, fun i hi => ?_⟩
      show σ2 2 (i : Int) = ((if i = (sEv s).2.2.1 v then 0 else cC c i : Nat) : Int)
      rw [e2]
      by_cases z : i = (sEv s).2.2.1 v
      · rw [if_pos z, z, up_same]; rfl
      · rw [if_neg z, up_j _ (by omega)]; exact a8 i hi
    · have z0 : (sEv s).2.1 v = 1 := by omega
      have := w2 (by omega)
      refine ⟨by omega, by omega, ?_⟩
      intro σ2 e2
      refine nx σ2 ?_ (fun d hd2 => by rw [e2, up_ne _ (by omega)]; exact hd d hd2)
      rw [z0]
      refine ⟨by rw [e2, up_c _ _ (by decide)]; exact a0, by rw [e2, up_c _ _ (by decide)]; exact a2, by rw [e2, up_c _ _ (by decide)]; exact a3, by rw [e2, up_c _ _ (by decide)]; exact a4, by rw [e2, up_c _ _ (by decide)]; exact a6, fun i hi => by rw [e2, up_c _ _ (by decide)]; exact a7 i hi, fun i hi => ?_⟩
      show σ2 2 (i : Int) = ((if i = (sEv s).2.2.1 v then 1 else cC c i : Nat) : Int)
      rw [e2]
      by_cases z : i = (sEv s).2.2.1 v
      · rw [if_pos z, z, up_same]; rfl
      · rw [if_neg z, up_j _ (by omega)]; exact a8 i hi
    · have z0 : (sEv s).2.1 v = 2 := by omega
      have := w3 z0
      rw [show σ1 0 2 = (cM c : Int) from a2]
      refine ⟨⟨by omega, by omega⟩, ?_⟩
      intro σ2 e2
      refine nx σ2 ?_ (fun d hd2 => by rw [e2, up_ne _ (by omega)]; exact hd d hd2)
      rw [z0]
      refine ⟨by rw [e2, up_j _ (by decide)]; exact a0, ?_, by rw [e2, up_j _ (by decide)]; exact a3, by rw [e2, up_j _ (by decide)]; exact a4, by rw [e2, up_j _ (by decide)]; exact a6, fun i hi => by rw [e2, up_c _ _ (by omega)]; exact a7 i (by have : i < cM c - (sEv s).2.2.1 v := hi; omega), fun i hi => by rw [e2, up_c _ _ (by omega)]; exact a8 i hi⟩
      show σ2 0 2 = ((cM c - (sEv s).2.2.1 v : Nat) : Int)
      rw [e2, up_same]
      by_cases g : 0 < (cM c : Int) - ((sEv s).2.2.1 v : Int)
      · rw [if_pos g]; omega
      · rw [if_neg g]; omega
    · have z0 : (sEv s).2.1 v = 3 := by omega
      intro σ2 e2
      refine nx σ2 ?_ (fun d hd2 => by rw [e2, up_ne _ (by omega)]; exact hd d hd2)
      rw [z0]
      exact ⟨by rw [e2, up_j _ (by decide)]; exact a0, by rw [e2, up_j _ (by decide)]; exact a2, by rw [e2, up_j _ (by decide)]; exact a3, by rw [e2, up_j _ (by decide)]; exact a4, by rw [e2, up_same]; rfl, fun i hi => by rw [e2, up_c _ _ (by omega)]; exact a7 i hi, fun i hi => by rw [e2, up_c _ _ (by omega)]; exact a8 i hi⟩
def EF (f : Nat → Nat) : Nat → Nat → Nat
  | 0, _ => 0
  | k + 1, i => 3 * EF f k (i + 1) + f i
theorem EF_lt {f : Nat → Nat} : ∀ k i, (∀ j, i ≤ j → j < i + k → f j ≤ 2) → EF f k i < 3 ^ k
  | 0, _, _ => by show 0 < 1; decide
  | k + 1, i, h => by
    have h1 := EF_lt k (i + 1) (fun j a b => h j (by omega) (by omega))
    have h2 := h i (Nat.le_refl _) (by omega)
    show 3 * EF f k (i + 1) + f i < 3 ^ (k + 1)
    rw [Nat.pow_succ]
    generalize 3 ^ k = z at *
    omega
theorem EF_le {f : Nat → Nat} {k i : Nat} (hk : k ≤ 12) (h : ∀ j, i ≤ j → j < i + k → f j ≤ 2) : EF f k i < 531441 := by
  have h1 := EF_lt k i h
  have h2 : 3 ^ k ≤ 3 ^ 12 := Nat.pow_le_pow_right (by decide) hk
  have h3 : (3 : Nat) ^ 12 = 531441 := by decide
  omega
theorem RR_trial2 {s : Su} {σ τ σ' : St} (h : RR s σ τ) (e : ∀ k, ¬ (33 ≤ k ∧ k < 49) → ¬ (56 ≤ k ∧ k < 63) → σ' k = σ k) (e62 : ∀ j : Nat, j < 512 → σ' 62 (j : Int) = 0) : RR s σ' τ := by
  obtain ⟨a1, a2, a3, a4, a5, a6, a7, a8, a9⟩ := h
  refine ⟨a1, suOK_cong a2 (fun k hk => e _ (by omega) (by omega)), a3, imOK_cong a4 (by rw [e 0 (by decide) (by decide)]) (fun k h1 h2 => e k (by omega) (by omega)) rfl rfl, ⟨?_, fun j hj => by rw [e 55 (by decide) (by decide)]; exact a5.2 j hj⟩, e62, fun j hj => by rw [e 72 (by decide) (by decide)]; exact a7 j hj, txOK_cong a8 (e 74 (by decide) (by decide)) (e 75 (by decide) (by decide)) rfl rfl, tpOK_cong a9 (fun k hk => e k (by omega) (by omega)) rfl rfl rfl⟩
  rw [e 0 (by decide) (by decide)]
  rcases a5.1 with z | ⟨z1, z2, z3⟩
  · exact Or.inl z
  · exact Or.inr ⟨z1, touOK_cong z2 (fun j _ => by rw [e 49 (by decide) (by decide)]) (fun k h1 h2 => e _ (by omega) (by omega)), cmOK_cong z3 (by rw [e 49 (by decide) (by decide)]) (e _ (by decide) (by decide)) (e _ (by decide) (by decide))⟩
theorem mc_hap {f f' : Int → Int} {c : Cf} {k v : Nat} (h : mcOK f c) (h16 : cM c ≤ 16) (hk : k ≤ 3) (hv : k ≤ 1 → v < 12) (j : Int) (x : Int) (hj : f' = fun j' => if j' = j then x else f j') (h0 : k ≤ 1 → j = 24 + (v : Int) ∧ x = (k : Int)) (h2 : k = 2 → j = 1 ∧ x = ((cM c - v : Nat) : Int)) (h3 : k = 3 → j = 4 ∧ x = (v : Int)) : mcOK f' (hapC c k v) := by
  obtain ⟨a0, a1, a2, a3, a4, a5, a6⟩ := h
  have ne : ∀ j' : Int, j' ≠ j → f' j' = f j' := fun j' hj' => by rw [hj]; simp only [if_neg hj']
  have eq : f' j = x := by rw [hj]; simp
  unfold hapC
  by_cases k0 : k = 0
  · rw [if_pos k0]
    obtain ⟨q1, q2⟩ := h0 (by omega)
    refine ⟨by rw [ne _ (by omega)]; exact a0, by rw [ne _ (by omega)]; exact a1, by rw [ne _ (by omega)]; exact a2, by rw [ne _ (by omega)]; exact a3, by rw [ne _ (by omega)]; exact a4, fun i hi => by rw [ne _ (by have : i < cM c := hi; omega)]; exact a5 i hi, fun i hi => ?_⟩
    show f' (24 + (i : Int)) = ((if i = v then 0 else cC c i : Nat) : Int)
    by_cases z : i = v
    · rw [if_pos z, z, ← q1, eq, q2, k0]
    · rw [if_neg z, ne _ (by omega)]; exact a6 i hi
  · rw [if_neg k0]
    by_cases k1 : k = 1
    · rw [if_pos k1]
      obtain ⟨q1, q2⟩ := h0 (by omega)
      refine ⟨by rw [ne _ (by omega)]; exact a0, by rw [ne _ (by omega)]; exact a1, by rw [ne _ (by omega)]; exact a2, by rw [ne _ (by omega)]; exact a3, by rw [ne _ (by omega)]; exact a4, fun i hi => by rw [ne _ (by have : i < cM c := hi; omega)]; exact a5 i hi, fun i hi => ?_⟩
      show f' (24 + (i : Int)) = ((if i = v then 1 else cC c i : Nat) : Int)
      by_cases z : i = v
      · rw [if_pos z, z, ← q1, eq, q2, k1]
      · rw [if_neg z, ne _ (by omega)]; exact a6 i hi
    · rw [if_neg k1]
      by_cases k2 : k = 2
      · rw [if_pos k2]
        obtain ⟨q1, q2⟩ := h2 k2
        exact ⟨by rw [ne _ (by omega)]; exact a0, by rw [← q1, eq]; exact q2, by rw [ne _ (by omega)]; exact a2, by rw [ne _ (by omega)]; exact a3, by rw [ne _ (by omega)]; exact a4, fun i hi => by rw [ne _ (by omega)]; exact a5 i (by have : i < cM c - v := hi; omega), fun i hi => by rw [ne _ (by omega)]; exact a6 i hi⟩
      · rw [if_neg k2]
        obtain ⟨q1, q2⟩ := h3 (by omega)
        exact ⟨by rw [ne _ (by omega)]; exact a0, by rw [ne _ (by omega)]; exact a1, by rw [ne _ (by omega)]; exact a2, by rw [ne _ (by omega)]; exact a3, by rw [← q1, eq]; exact q2, fun i hi => by rw [ne _ (by have : i < cM c := hi; omega)]; exact a5 i hi, fun i hi => by rw [ne _ (by omega)]; exact a6 i hi⟩
theorem m_after {s : Su} {σ τ : St} (h : RR s σ τ) {v : Nat} (hv2 : v ≤ 2) {y : Int} (hyr : rg y) {P : Int → St → Prop} (hy : ∀ τ' : St, mrOK τ' (cN (hapL s (sEv s).1 0 s.1)) (stp (hapL s (sEv s).1 0 s.1)) (lastC (hapL s (sEv s).1 0 s.1)) → (v = 0 → rdF (rwX τ' 3) (lastC (hapL s (sEv s).1 0 s.1)) = y) ∧ (v = 1 → flF (rwX τ' 3) (lastC (hapL s (sEv s).1 0 s.1)) = y) ∧ (v = 2 → (if trF (rwX τ' 3) (lastC (hapL s (sEv s).1 0 s.1)) = true then (1 : Int) else 0) = y)) (hK : ∀ τ' : St, RR s σ τ' → P y τ') : wp_X9_after τ v P := by
  have hw := h.1.1
  have h16 := hw.2.2.1
  obtain ⟨m0, m1, m2, m3, m4, mch, mcal⟩ := id h.2.2.1.1
  obtain ⟨-, m5, m6, m7, mp, mse, mev, mbk⟩ := id h.2.2.1
  have hcal := hw.2.2.2.2.2.2.1
  obtain ⟨hsz, hs2⟩ := h.1.2.2.2.1
  have hcb : ∀ i k, i + k ≤ 12 → EF (cC s.1) k i < 531441 := fun i k hik => EF_le (by omega) (fun j a b => hcal j (by omega))
  -- the calls come back
  have back : ∀ (k fu i : Nat) (τ1 : St), i + k = 12 → k < fu → (∀ j : Int, ¬ (24 + (i : Int) ≤ j ∧ j < 36) → τ1 1 j = τ 1 j) → (∀ j : Int, j ≠ 3 → τ1 0 j = τ 0 j) → (∀ d, d ≠ 0 → d ≠ 1 → d ≠ 3 → d ≠ 4 → τ1 d = τ d) → wp_X9_after_242 P fu (EF (cC s.1) k i) y i τ1 := by
    intro k
    induction k with
    | zero =>
      intro fu i τ1 e hf q1 q2 q3
      obtain ⟨fu, rfl⟩ : ∃ f, fu = f + 1 := ⟨fu - 1, by omega⟩
      unfold wp_X9_after_242
      refine ⟨rgn (by omega), fun _ => hK τ1 (RR_scr h ?_ (fun j hj => q2 j (by omega)) (fun d hd => q3 d (by omega) (by omega) (by omega) (by omega))), fun z => by omega⟩
      funext j; exact q1 j (by omega)
    | succ k ih =>
      intro fu i τ1 e hf q1 q2 q3
      obtain ⟨fu, rfl⟩ : ∃ f, fu = f + 1 := ⟨fu - 1, by omega⟩
      have b1 := hcb i (k + 1) (by omega)
      have ef : EF (cC s.1) (k + 1) i = 3 * EF (cC s.1) k (i + 1) + cC s.1 i := rfl
      have hci := hcal i (by omega)
      unfold wp_X9_after_242
      refine ⟨rgn (by omega), fun z => by omega, fun _ => ⟨⟨by omega, by omega⟩, by omega, by omega, ?_⟩⟩
      intro τ2 u2
      have e1 : ((EF (cC s.1) (k + 1) i : Nat) : Int).tmod 3 = (cC s.1 i : Int) := by
        have := nat_tmod (EF (cC s.1) (k + 1) i) 3
        rw [show ((3 : Nat) : Int) = 3 from rfl] at this
        rw [this]; omega
      have e2 : ((EF (cC s.1) (k + 1) i : Nat) : Int).tdiv 3 = ((EF (cC s.1) k (i + 1) : Nat) : Int) := by
        have := nat_tdiv (EF (cC s.1) (k + 1) i) 3
        rw [show ((3 : Nat) : Int) = 3 from rfl] at this
        rw [this]; omega
      rw [e1] at u2
      rw [e2, show (i : Int) + 1 = ((i + 1 : Nat) : Int) by omega]
      refine ⟨⟨by omega, by omega⟩, ih fu (i + 1) τ2 (by omega) (by omega) (fun j hj => ?_) (fun j hj => by rw [u2, up_c _ _ (by decide)]; exact q2 j hj) (fun d d0 d1 d3 d4 => by rw [u2, up_ne _ d1]; exact q3 d d0 d1 d3 d4)⟩
      rw [u2]
      by_cases z : j = 24 + (i : Int)
      · rw [z, up_same]; exact (mcal i (by omega)).symm
      · rw [up_j _ z]; exact q1 j (by omega)
  have k223 : ∀ (τ1 : St), (∀ j : Int, j ≠ 1 → j ≠ 4 → ¬ (24 ≤ j ∧ j < 36) → τ1 1 j = τ 1 j) → (∀ j : Int, j ≠ 3 → τ1 0 j = τ 0 j) → (∀ d, d ≠ 0 → d ≠ 1 → d ≠ 3 → d ≠ 4 → τ1 d = τ d) → wp_X9_after_223 P (cL s.1) (cM s.1) (EF (cC s.1) 12 0) y τ1 := by
    intro τ1 q1 q2 q3
    intro τ2 u2 τ3 u3
    refine ⟨13, back 12 13 0 τ3 (by omega) (by omega) (fun j hj => ?_) (fun j hj => by rw [u3, up_c _ _ (by decide), u2, up_c _ _ (by decide)]; exact q2 j hj) (fun d d0 d1 d3 d4 => by rw [u3, up_ne _ d1, u2, up_ne _ d1]; exact q3 d d0 d1 d3 d4)⟩
    rw [u3]
    by_cases z : j = 1
    · rw [z, up_same]; exact m1.symm
    · rw [up_j _ z, u2]
      by_cases z2 : j = 4
      · rw [z2, up_same]; exact m4.symm
      · rw [up_j _ z2]; exact q1 j z z2 (by omega)
  have hvr : rg ((v : Nat) : Int) := rgn (by omega)
  have evs : ∀ (k fu i : Nat) (c : Cf) (τ1 : St), i + k = (sEv s).1 → k < fu → wfC c → cN c = cN s.1 → hapL s k i c = hapL s (sEv s).1 0 s.1 → mcOK (τ1 1) c → (∀ j : Int, j ≠ 1 → j ≠ 4 → ¬ (24 ≤ j ∧ j < 36) → τ1 1 j = τ 1 j) → (∀ d, d ≠ 1 → τ1 d = τ d) → wp_X9_after_63 P fu v (cL s.1) (cM s.1) (EF (cC s.1) 12 0) i τ1 := by
    intro k
    induction k with
    | zero =>
      intro fu i c τ1 e hf hwc hn hap hmc q1 q3
      obtain ⟨fu, rfl⟩ : ∃ f, fu = f + 1 := ⟨fu - 1, by omega⟩
      have hap' : c = hapL s (sEv s).1 0 s.1 := hap
      unfold wp_X9_after_63
      rw [show τ1 1 6 = ((sEv s).1 : Int) by rw [q1 6 (by decide) (by decide) (by decide)]; exact m6]
      refine ⟨rgn (by omega), rgn (by omega), fun _ => ?_, fun z => by omega⟩
      refine s_rings hmc hwc (fun τ4 r1 r2 r3 r4 => ?_)
      rw [hap'] at r1 r2 hwc
      obtain ⟨y0, y1, y2⟩ := hy τ4 r1
      have hmk := mr_mk hwc r1 r2
      have f1 : τ4 1 = τ1 1 := r4 1 (by decide) (by decide) (by decide)
      have K2 := k223 τ4 (fun j j1 j2 j3 => by rw [f1]; exact q1 j j1 j2 j3) (fun j hj => by rw [r3 j hj, q3 0 (by decide)]) (fun d d0 d1 d3 d4 => by rw [r4 d d0 d3 d4]; exact q3 d d1)
      refine ⟨hvr, fun c0 => ⟨hvr, fun c1 => s_misTrue hmk ?_, fun c1 => s_wrongRow hmk ?_⟩, fun c0 => s_mround hmk ?_⟩
      · rw [y2 (by omega)]; exact K2
      · rw [y1 (by omega)]; exact K2
      · rw [y0 (by omega)]; exact K2
    | succ k ih =>
      intro fu i c τ1 e hf hwc hn hap hmc q1 q3
      obtain ⟨fu, rfl⟩ : ∃ f, fu = f + 1 := ⟨fu - 1, by omega⟩
      obtain ⟨w1, w2, w3, w4⟩ := hs2 i (by omega)
      obtain ⟨y1, y2⟩ := mev i (by omega)
      obtain ⟨hw', hn'⟩ := hap_wf hwc (k := (sEv s).2.1 i) (v := (sEv s).2.2.1 i) w4 w1
      have h16c := hwc.2.2.1
      have n1 : τ1 1 (59 + 2 * (i : Int)) = (sEv s).2.1 i := by rw [q1 _ (by omega) (by omega) (by omega)]; exact y1
      have n2 : τ1 1 (59 + 2 * (i : Int) + 1) = (sEv s).2.2.1 i := by rw [q1 _ (by omega) (by omega) (by omega)]; exact y2
      have c1 : τ1 1 1 = (cM c : Int) := hmc.2.1
      unfold wp_X9_after_63
      rw [show τ1 1 6 = ((sEv s).1 : Int) by rw [q1 6 (by decide) (by decide) (by decide)]; exact m6, n1, n2, c1]
      have nx : ∀ (j x : Int) (τ2 : St), τ2 = up τ1 1 j x → (j = 1 ∨ j = 4 ∨ (24 ≤ j ∧ j < 36)) → mcOK (τ2 1) (hapC c ((sEv s).2.1 i) ((sEv s).2.2.1 i)) → wp_X9_after_186 (wp_X9_after_63 P fu) P v (cL s.1) (cM s.1) (EF (cC s.1) 12 0) i τ2 := by
        intro j x τ2 u2 hj hm2
        show wp_X9_after_63 P fu v (cL s.1) (cM s.1) (EF (cC s.1) 12 0) ((i : Int) + 1) τ2
        rw [show (i : Int) + 1 = ((i + 1 : Nat) : Int) by omega]
        exact ih fu (i + 1) _ τ2 (by omega) (by omega) hw' (hn'.trans hn) hap hm2 (fun j' a1 a2 a3 => by rw [u2, up_j _ (by omega)]; exact q1 j' a1 a2 a3) (fun d hd => by rw [u2, up_ne _ hd]; exact q3 d hd)
      refine ⟨rgn (by omega), rgn (by omega), fun z => by omega, fun _ => ⟨by omega, by omega, by omega, by omega, rgn (by omega), fun c0 => ?_, fun c0 => ?_, fun c0 => ?_, fun c0 => ?_⟩⟩
      · have z0 : (sEv s).2.1 i = 0 := by omega
        have := w2 (by omega)
        refine ⟨by omega, by omega, ?_⟩
        intro τ2 u2
        exact nx _ _ τ2 u2 (by omega) (mc_hap hmc h16c w1 w2 _ _ (by rw [u2, up_cell]) (fun _ => ⟨rfl, by rw [z0]; rfl⟩) (fun z => by omega) (fun z => by omega))
      · have z0 : (sEv s).2.1 i = 1 := by omega
        have := w2 (by omega)
        refine ⟨by omega, by omega, ?_⟩
        intro τ2 u2
        exact nx _ _ τ2 u2 (by omega) (mc_hap hmc h16c w1 w2 _ _ (by rw [u2, up_cell]) (fun _ => ⟨rfl, by rw [z0]; rfl⟩) (fun z => by omega) (fun z => by omega))
      · have z0 : (sEv s).2.1 i = 2 := by omega
        have := w3 z0
        refine ⟨⟨by omega, by omega⟩, ?_⟩
        intro τ2 u2
        refine nx _ _ τ2 u2 (by omega) (mc_hap hmc h16c w1 w2 _ _ (by rw [u2, up_cell]) (fun z => by omega) (fun _ => ⟨rfl, ?_⟩) (fun z => by omega))
        by_cases g : 0 < (cM c : Int) - ((sEv s).2.2.1 i : Int)
        · rw [if_pos g]; omega
        · rw [if_neg g]; omega
      · have z0 : (sEv s).2.1 i = 3 := by omega
        intro τ2 u2
        exact nx _ _ τ2 u2 (by omega) (mc_hap hmc h16c w1 w2 _ _ (by rw [u2, up_cell]) (fun z => by omega) (fun z => by omega) (fun _ => ⟨rfl, rfl⟩))
  have enc : ∀ (i fu : Nat), i ≤ 12 → i < fu → wp_X9_after_32 P fu v (cL s.1) (cM s.1) (EF (cC s.1) (12 - i) i) ((i : Int) - 1) τ := by
    intro i
    induction i with
    | zero =>
      intro fu a b
      obtain ⟨fu, rfl⟩ : ∃ f, fu = f + 1 := ⟨fu - 1, by omega⟩
      unfold wp_X9_after_32
      exact ⟨by decide, fun _ => ⟨(sEv s).1 + 1, evs (sEv s).1 ((sEv s).1 + 1) 0 s.1 τ (by omega) (by omega) hw rfl rfl h.2.2.1.1 (fun _ _ _ _ => rfl) (fun _ _ => rfl)⟩, fun z => by omega⟩
    | succ i ih =>
      intro fu a b
      obtain ⟨fu, rfl⟩ : ∃ f, fu = f + 1 := ⟨fu - 1, by omega⟩
      unfold wp_X9_after_32
      rw [show ((i + 1 : Nat) : Int) - 1 = (i : Int) by omega, mcal i (by omega)]
      refine ⟨rgn (by omega), fun z => by omega, fun _ => ⟨by omega, by omega, ?_⟩⟩
      have := ih fu (by omega) (by omega)
      have e : EF (cC s.1) (12 - i) i = 3 * EF (cC s.1) (12 - (i + 1)) (i + 1) + cC s.1 i := by
        rw [show 12 - i = (12 - (i + 1)) + 1 by omega]; rfl
      rw [e] at this
      rw [show 3 * ((EF (cC s.1) (12 - (i + 1)) (i + 1) : Nat) : Int) + (cC s.1 i : Int) = ((3 * EF (cC s.1) (12 - (i + 1)) (i + 1) + cC s.1 i : Nat) : Int) by omega]
      exact this
  unfold wp_X9_after
  refine s_within hvr (by decide) (by decide) (ibr (fun _ => ⟨13, ?_⟩) (fun z => by omega))
  rw [m4, m1]
  have := enc 12 13 (by omega) (by omega)
  exact this
theorem op_after {s : Su} {σ τ : St} (h : RR s σ τ) {v : Int} (hv : rg v) {K : Kt} (hk : ∀ s' σ' τ', RR s' σ' τ' → K σ' τ') : wp_X8_after σ v (fun r1 σ1 => wp_X9_after τ v (fun r2 τ1 => An K r1 r2 σ1 τ1)) := by
  have hw := h.1.1
  have bad : ¬ (0 ≤ v ∧ v ≤ 2) → wp_X9_after τ v (fun r2 τ1 => An K (-1) r2 σ τ1) := fun c => by
    unfold wp_X9_after
    exact s_within hv (by decide) (by decide) (ibr (fun z => absurd z c) (fun _ => An_same (by decide) (hk s _ _ h)))
  unfold wp_X8_after
  refine ⟨hv, fun c => bad (by omega), fun c => ⟨hv, fun c2 => ?_, fun c2 => bad (by omega)⟩⟩
  obtain ⟨w, rfl, -, hw2⟩ := natOf (v := v) (a := 0) (b := 2) (by omega) (by omega)
  refine s_scopy (s := s) (suOK_cong h.2.1 (fun k hk => ?_)) h.1 (fun ρ t1 t2 => ?_)
  · show pk σ (blk 33 16 ++ blk 1 16) (16 + k) = _
    rw [pk_b2 (by omega), if_neg (by omega)]; congr 1; omega
  intro σ1 e1
  have e1' : σ1 = mrg σ (blk 33 16 ++ blk 1 16) ρ := e1
  have f1 : ∀ k, ¬ (33 ≤ k ∧ k < 49) → σ1 k = σ k := fun k z1 => by
    rw [e1', mrg_b2, if_neg (by omega)]
    by_cases z : 1 ≤ k ∧ k < 1 + 16
    · rw [if_pos z, t2 _ (by omega)]
      show pk σ (blk 33 16 ++ blk 1 16) (16 + (k - 1)) = _
      rw [pk_b2 (by omega), if_neg (by omega)]; congr 1; omega
    · rw [if_neg z]
  have hs1 : suOK σ1 33 s := suOK_cong t1 (fun k hk => by rw [e1', mrg_b2, if_pos (by omega)]; congr 1; omega)
  have hp0 : cfOK (pk σ1 (blk 33 16)) 0 s.1 := cfOK_cong hs1.1 (fun k hk => by rw [Nat.zero_add, pk_blk (by omega)])
  have hp8 : hrOK (pk σ1 (blk 33 16)) 8 (sEv s) := hrOK_cong hs1.2.2.2.1 (fun k hk => by rw [pk_blk (by omega)]; congr 1; omega)
  refine ⟨(sEv s).1 + 1, s_happen h.1 hp8 (sEv s).1 ((sEv s).1 + 1) 0 s.1 _ (by omega) (by omega) hw rfl hp0 (fun _ _ => rfl) (fun c' ρ2 hc' hwc hnc hcf hrest => ?_)⟩
  intro σ2 e2
  have e2' : σ2 = mrg σ1 (blk 33 16) ρ2 := e2
  have hc2 : cfOK σ2 33 c' := cfOK_cong hcf (fun k hk => by rw [e2', mrg_blk, if_pos (by omega)]; congr 1; omega)
  have f2 : ∀ k, ¬ (33 ≤ k ∧ k < 49) → σ2 k = σ k := fun k z1 => by rw [e2', mrg_blk, if_neg (by omega)]; exact f1 k z1
  refine s_ring (c := c') (cfOK_cong hc2 (fun k hk => ?_)) hwc (fun ρ3 u1 u2 u3 => ?_)
  · show pk σ2 (blk 56 7 ++ blk 33 16) (7 + k) = _
    rw [pk_b2 (by omega), if_neg (by omega)]; congr 1; omega
  intro σ3 e3
  have e3' : σ3 = mrg σ2 (blk 56 7 ++ blk 33 16) ρ3 := e3
  have g : ∀ k, k < 7 → σ3 (56 + k) = ρ3 k := fun k hk => by rw [e3', mrg_b2, if_pos (by omega)]; congr 1; omega
  have g0 := g 0 (by decide)
  have f3 : ∀ k, ¬ (33 ≤ k ∧ k < 49) → ¬ (56 ≤ k ∧ k < 63) → σ3 k = σ k := fun k z1 z2 => by
    rw [e3', mrg_b2, if_neg (by omega), if_neg (by omega)]; exact f2 k z1
  have h62 : ∀ j : Nat, j < 512 → σ3 62 (j : Int) = 0 := fun j hj => by
    rw [show (62 : Nat) = 56 + 6 from rfl, g 6 (by decide), u3 6 (by decide)]
    show pk σ2 (blk 56 7 ++ blk 33 16) 6 _ = _
    rw [pk_b2 (by decide), if_pos (by decide), f2 _ (by decide)]
    exact h.2.2.2.2.2.1 j hj
  have hto : touOK σ3 56 c' := touOK_cong u1 (fun j _ => by rw [g0]) (fun k h1 h2 => by rw [Nat.zero_add]; exact g k (by omega))
  have hcm : cmOK σ3 56 (lastC c') := Or.inl (by rw [g0]; exact u2)
  have htc : tcOK (pk σ3 (blk 56 7)) (lastC c') := tou_tc hwc (touOK_cong hto (fun j _ => by rw [pk_blk (by decide)]) (fun k h1 h2 => by rw [Nat.zero_add, pk_blk (by omega)])) (fun j hj => by rw [pk_blk (by decide)]; exact h62 j hj) (cmOK_cong hcm (by rw [pk_blk (by decide)]) (by rw [Nat.zero_add, pk_blk (by decide)]) (by rw [Nat.zero_add, pk_blk (by decide)]))
  have hrw : rwX (pk σ3 (blk 56 7)) 0 = rwX σ3 56 := by funext q; unfold rwX; rw [Nat.zero_add, pk_blk (by decide)]
  have hR : ∀ τ4 : St, cpd0 (pk σ3 (blk 56 7)) τ4 (lastC c') → RR s (mrg σ3 (blk 56 7) τ4) τ := fun τ4 hc => by
    rcases hc with hc | ⟨-, hc, -⟩
    · rw [hc, mrg_bpk]; exact RR_trial2 h f3 h62
    · refine RR_trial2 h (fun k z1 z2 => by rw [mrg_blk, if_neg (by omega)]; exact f3 k z1 z2) (fun j hj => ?_)
      rw [mrg_blk, if_pos (by decide)]; exact hc j hj
  have KQ : ∀ τ' : St, mrOK τ' (cN c') (stp c') (lastC c') → ∀ q r, q ≤ lastC c' → r ≤ lastC c' → (rwX (pk σ3 (blk 56 7)) 0 q = rwX (pk σ3 (blk 56 7)) 0 r ↔ rwX τ' 3 q = rwX τ' 3 r) := fun τ' hm q r hq hr => by
    rw [hrw]; exact (tou_K hwc hto q r hq hr).trans (mr_K hm q r hq hr).symm
  have hl' := lastC_le hwc
  subst hc'
  refine ⟨hv, fun c0 => s_roundRow htc (fun τ4 t4 => ?_), fun c0 => s_falseRow htc (fun τ4 t4 => ?_), fun c0 => s_isTrue htc (fun τ4 t4 => ?_)⟩
  · intro σ4 e4
    have h4 : RR s σ4 τ := by rw [e4]; exact hR τ4 (Or.inr t4)
    exact m_after h4 hw2 (sch_rg _ _ (by omega)) (fun τ' hm => ⟨fun _ => (rdF_eq (KQ τ' hm)).symm, fun z => by omega, fun z => by omega⟩) (fun τ' h' => An_same (sch_rg _ _ (by omega)) (hk s _ _ h'))
  · intro σ4 e4
    have h4 : RR s σ4 τ := by rw [e4]; exact hR τ4 (Or.inr t4)
    exact m_after h4 hw2 (sch_rg _ _ (by omega)) (fun τ' hm => ⟨fun z => by omega, fun _ => (flF_eq (KQ τ' hm)).symm, fun z => by omega⟩) (fun τ' h' => An_same (sch_rg _ _ (by omega)) (hk s _ _ h'))
  · intro σ4 e4
    have h4 : RR s σ4 τ := by rw [e4]; exact hR τ4 t4
    refine ibs (fun z => ?_) (fun z => ?_)
    · exact m_after h4 hw2 (by decide) (fun τ' hm => ⟨fun z => by omega, fun z => by omega, fun _ => by rw [← trF_eq (KQ τ' hm), if_pos z]⟩) (fun τ' h' => An_same (by decide) (hk s _ _ h'))
    · exact m_after h4 hw2 (by decide) (fun τ' hm => ⟨fun z => by omega, fun z => by omega, fun _ => by rw [← trF_eq (KQ τ' hm), if_neg z]⟩) (fun τ' h' => An_same (by decide) (hk s _ _ h'))
