/-! items, shifts -/
def newV (so v : Int) : Int := if so = 0 then i2b v else if so = 1 then i2s v else if so = 2 then l2w v else if so = 3 then v else if v = 0 then 0 else 1
theorem rg_i2b (a : Int) : rg (i2b a) := by
  have h1 := Int8.le_toInt (Int32.ofInt a).toInt8
  have h2 := Int8.toInt_lt (Int32.ofInt a).toInt8
  unfold i2b
  constructor <;> omega
theorem rg_i2s (a : Int) : rg (i2s a) := by
  have h1 := Int16.le_toInt (Int32.ofInt a).toInt16
  have h2 := Int16.toInt_lt (Int32.ofInt a).toInt16
  unfold i2s
  constructor <;> omega
theorem newV_rl {so v : Int} (hv : rl v) : rl (newV so v) := by
  unfold newV
  by_cases a : so = 0
  · rw [if_pos a]; exact rl_rg (rg_i2b v)
  · rw [if_neg a]
    by_cases b : so = 1
    · rw [if_pos b]; exact rl_rg (rg_i2s v)
    · rw [if_neg b]
      by_cases c : so = 2
      · rw [if_pos c]; exact rl_rg (rg_l2w v)
      · rw [if_neg c]
        by_cases d : so = 3
        · rw [if_pos d]; exact hv
        · rw [if_neg d]
          by_cases e : v = 0
          · rw [if_pos e]; constructor <;> decide
          · rw [if_neg e]; constructor <;> decide
theorem lcp_0 {a b : Int} : lcp a b = 0 ↔ a = b := by
  unfold lcp
  by_cases h : b < a
  · rw [if_pos h]; constructor
    · intro z; exact absurd z (by decide)
    · intro z; omega
  · rw [if_neg h]
    by_cases g : a = b
    · rw [if_pos g]; exact ⟨fun _ => g, fun _ => rfl⟩
    · rw [if_neg g]; constructor
      · intro z; exact absurd z (by decide)
      · intro z; exact absurd z g
theorem lcp_n {a b : Int} : lcp a b < 0 ↔ a < b := by
  unfold lcp
  by_cases h : b < a
  · rw [if_pos h]; constructor
    · intro z; exact absurd z (by decide)
    · intro z; omega
  · rw [if_neg h]
    by_cases g : a = b
    · rw [if_pos g]; constructor
      · intro z; exact absurd z (by decide)
      · intro z; omega
    · rw [if_neg g]; exact ⟨fun _ => by omega, fun _ => by decide⟩
theorem lcp_rg2 (a b : Int) : rg (lcp a b) := lcp_rg a b
theorem rl0 : rl 0 := by constructor <;> decide
theorem s_narrowed {so v : Int} (h1 : 0 ≤ so) (h2 : so ≤ 4) (hv : rl v) {post : Int → Prop} (hp : post (newV so v)) : wq_X6_narrowed so v post := by
  unfold newV at hp
  refine ⟨⟨by omega, by omega⟩, fun c => ⟨rg_i2b v, ?_⟩, fun c => ⟨rg_i2s v, ?_⟩, fun c => ?_, fun c => ?_, fun c => ⟨hv, rl0, lcp_rg v 0, fun c2 => ?_, fun c2 => ?_⟩⟩
  · rwa [if_pos c] at hp
  · rwa [if_neg (by omega), if_pos c] at hp
  · rwa [if_neg (by omega), if_neg (by omega), if_pos c] at hp
  · rwa [if_neg (by omega), if_neg (by omega), if_neg (by omega), if_pos c] at hp
  · rwa [if_neg (by omega), if_neg (by omega), if_neg (by omega), if_neg (by omega), if_pos (lcp_0.mp c2)] at hp
  · rwa [if_neg (by omega), if_neg (by omega), if_neg (by omega), if_neg (by omega), if_neg (fun z => c2 (lcp_0.mpr z))] at hp
theorem op_item {s : Su} {σ τ : St} (h : RR s σ τ) {v w x : Int} (hv : rg v) (hw : rg w) (hx : rl x) {K : Kt} (hk : ∀ s' σ' τ', RR s' σ' τ' → K σ' τ') : wq_X8_item σ v w x (fun r1 σ1 => wq_X9_item τ v w x (fun r2 τ1 => An K r1 r2 σ1 τ1)) := by
  have hK := hk s σ τ h
  unfold wq_X8_item
  refine s_isTape8 hv (ibr (fun c => ⟨by omega, by omega, ?_⟩) (fun c => ?_))
  · obtain ⟨t, rfl, -, ht⟩ := natOf (v := v) (a := 0) (b := 5) (by omega) (by omega)
    obtain ⟨so, ln, b1, b2, b3, b4, b5, b6, b7, b8, b9⟩ := tp_get h (t := t) (by omega)
    rw [show σ (80 + 2 * ((t : Nat) : Int).toNat) 0 = so from b5]
    refine ⟨⟨by omega, by omega⟩, fun c1 => ?_, fun c1 => ?_⟩
    · refine s_has b3 (show σ (80 + 2 * t) 1 = ln from b6) hw (by decide) (ibr (fun c2 => ?_) (fun c2 => ?_))
      · refine s_narrowed (by omega) b2 hx ⟨by omega, by omega, ?_⟩
        intro σ4 e4
        obtain ⟨i, rfl, -, hi⟩ := natOf (v := w) (a := 0) (b := 59) (by omega) (by omega)
        have k117 : ∀ y : Int, y = newV so x → wp_X9_item_117 (fun r2 τ1 => An K 1 r2 σ4 τ1) (60 * (t : Int) + i) y τ := by
          intro y hy
          refine ⟨by omega, by omega, ?_⟩
          intro τ1 u1
          have e4' : σ4 = up σ (81 + 2 * t) (i : Int) (newV so x) := e4
          refine An_same (by decide) (hk s σ4 τ1 (RR_tape h (t := t) (so := so) (ln := ln) (fun k h1 h2 => by rw [e4', up_ne _ h2]) (fun d d1 d2 d3 d4 => by rw [u1, up_ne _ d3]) (fun t' h1 h2 => ⟨by rw [u1, up_c _ _ (by decide)], by rw [u1, up_c _ _ (by decide)], fun q hq => by rw [u1, up_j _ (by omega)]⟩) ⟨b1, b2, b3, b4, ?_, ?_, ?_, ?_, fun q hq => ?_⟩))
          · rw [e4', up_c _ _ (by omega)]; exact b5
          · rw [e4', up_c _ _ (by omega)]; exact b6
          · rw [u1, up_c _ _ (by decide)]; exact b7
          · rw [u1, up_c _ _ (by decide)]; exact b8
          · rw [e4', u1]
            by_cases z : q = i
            · rw [z, up_same, up_same, hy]; exact ⟨rfl, newV_rl hx⟩
            · rw [up_j _ (by omega), up_j _ (by omega)]; exact b9 q hq
        unfold wq_X9_item
        refine s_isTape9 hv (ibr (fun _ => ⟨by omega, by omega, ?_⟩) (fun z => absurd c z))
        rw [b7]
        refine ⟨⟨by omega, by omega⟩, fun _ => ⟨by omega, by omega, ?_⟩, fun z => by omega⟩
        rw [b8]
        refine s_within hw (by decide) ⟨by omega, by omega⟩ (ibr (fun _ => ⟨by omega, by omega, ?_⟩) (fun z => absurd (by omega) z))
        unfold newV at k117
        refine ⟨⟨by omega, by omega⟩, fun a1 => ⟨⟨by omega, by omega⟩, fun a2 => ⟨⟨by omega, by omega⟩, fun a3 => ⟨⟨by omega, by omega⟩, fun a4 => ⟨hx, rl0, lcp_rg x 0, fun a5 => k117 0 ?_, fun a5 => k117 1 ?_⟩, fun a4 => k117 x ?_⟩, fun a3 => k117 (l2w x) ?_⟩, fun a2 => ⟨rg_i2s x, k117 (i2s x) ?_⟩⟩, fun a1 => ⟨rg_i2b x, k117 (i2b x) ?_⟩⟩
        · rw [if_neg (by omega), if_neg (by omega), if_neg (by omega), if_neg (by omega), if_pos (lcp_0.mp a5)]
        · rw [if_neg (by omega), if_neg (by omega), if_neg (by omega), if_neg (by omega), if_neg (fun z => a5 (lcp_0.mpr z))]
        · rw [if_neg (by omega), if_neg (by omega), if_neg (by omega), if_pos (by omega)]
        · rw [if_neg (by omega), if_neg (by omega), if_pos (by omega)]
        · rw [if_neg (by omega), if_pos (by omega)]
        · rw [if_pos (by omega)]
      · unfold wq_X9_item
        refine s_isTape9 hv (ibr (fun _ => ⟨by omega, by omega, ?_⟩) (fun z => absurd c z))
        rw [b7]
        refine ⟨⟨by omega, by omega⟩, fun _ => ⟨by omega, by omega, ?_⟩, fun z => by omega⟩
        rw [b8]
        exact s_within hw (by decide) ⟨by omega, by omega⟩ (ibr (fun z => absurd (show 0 ≤ w ∧ (0 : Int) ≤ 1 ∧ w + 1 ≤ (ln : Int) by omega) c2) (fun _ => An_same (by decide) hK))
    · unfold wq_X9_item
      refine s_isTape9 hv (ibr (fun _ => ⟨by omega, by omega, ?_⟩) (fun z => absurd c z))
      rw [b7]
      exact ⟨⟨by omega, by omega⟩, fun z => by omega, fun _ => An_same (by decide) hK⟩
  · unfold wq_X9_item
    exact s_isTape9 hv (ibr (fun z => absurd z c) (fun _ => An_same (by decide) hK))
theorem op_shift {s : Su} {σ τ : St} (h : RR s σ τ) {v w x y z : Int} (hv : rg v) (hw : rg w) (hx : rg x) (hy : rg y) (hz : rg z) {K : Kt} (hk : ∀ s' σ' τ', RR s' σ' τ' → K σ' τ') : wp_X8_shift σ v w x y z (fun r1 σ1 => wp_X9_shift τ v w x y z (fun r2 τ1 => An K r1 r2 σ1 τ1)) := by
  have hK := hk s σ τ h
  unfold wp_X8_shift
  refine s_isTape8 hv (ibs (fun c => ?_) (fun c => ?_))
  · refine s_isTape8 hx (ibr (fun c2 => ⟨by omega, by omega, by omega, by omega, ?_⟩) (fun c2 => ?_))
    · obtain ⟨t, rfl, -, ht⟩ := natOf (v := v) (a := 0) (b := 5) (by omega) (by omega)
      obtain ⟨u, rfl, -, hu⟩ := natOf (v := x) (a := 0) (b := 5) (by omega) (by omega)
      obtain ⟨so, ln, b1, b2, b3, b4, b5, b6, b7, b8, b9⟩ := tp_get h (t := t) (by omega)
      obtain ⟨so', ln', d1, d2, d3, d4, d5, d6, d7, d8, d9⟩ := tp_get h (t := u) (by omega)
      have st : ∀ {P : Int → St → Prop}, (rg (so + 1) ∧ ((so + 1) = 0 → P (-11) τ) ∧ (¬ (so + 1) = 0 → 0 ≤ (u : Int) ∧ (u : Int) < 6 ∧ (rg (τ 10 (u : Int)) ∧ (¬ (τ 10 (u : Int)) = 0 → (0 ≤ (t : Int) ∧ (t : Int) < 6 ∧ (0 ≤ (u : Int) ∧ (u : Int) < 6 ∧ (rg (τ 10 (t : Int)) ∧ rg (τ 10 (u : Int)) ∧ ((τ 10 (t : Int)) = (τ 10 (u : Int)) → (rg z ∧ (z < 0 → (P (-13) τ)) ∧ (¬ z < 0 → (rg w ∧ (w < 0 → (P (-13) τ)) ∧ (¬ w < 0 → (rg y ∧ (y < 0 → (P (-13) τ)) ∧ (¬ y < 0 → (rg w ∧ (rg z ∧ (0 ≤ (t : Int) ∧ (t : Int) < 6 ∧ (rg (τ 11 (t : Int)) ∧ (rl (w + z) ∧ rl (τ 11 (t : Int)) ∧ (rg (lcp (w + z) (τ 11 (t : Int))) ∧ (0 < (lcp (w + z) (τ 11 (t : Int))) → (P (-13) τ)) ∧ (¬ 0 < (lcp (w + z) (τ 11 (t : Int))) → (rg y ∧ (rg z ∧ (0 ≤ (u : Int) ∧ (u : Int) < 6 ∧ (rg (τ 11 (u : Int)) ∧ (rl (y + z) ∧ rl (τ 11 (u : Int)) ∧ (rg (lcp (y + z) (τ 11 (u : Int))) ∧ ((lcp (y + z) (τ 11 (u : Int))) ≤ 0 → (∃ n : Nat, wp_X9_shift_110 P n t w u y z 0 τ)) ∧ (¬ (lcp (y + z) (τ 11 (u : Int))) ≤ 0 → (P (-13) τ)))))))))))))))))))))) ∧ (¬ (τ 10 (t : Int)) = (τ 10 (u : Int)) → (P (-12) τ)))))) ∧ ((τ 10 (u : Int)) = 0 → (P (-11) τ))))) → wp_X9_shift τ t w u y z P := by
        intro P hP
        unfold wp_X9_shift
        refine s_isTape9 hv (ibs (fun _ => ?_) (fun q => absurd c q))
        refine s_isTape9 hx (ibr (fun _ => ⟨by omega, by omega, ?_⟩) (fun q => absurd c2 q))
        rw [b7]; rw [b7] at hP; exact hP
      rw [show σ (80 + 2 * ((t : Nat) : Int).toNat) 0 = so from b5, show σ (80 + 2 * ((u : Nat) : Int).toNat) 0 = so' from d5]
      rw [b7, d7, b8, d8] at st
      refine ⟨⟨by omega, by omega⟩, fun a1 => st ⟨⟨by omega, by omega⟩, fun _ => An_same (by decide) hK, fun q => by omega⟩, fun a1 => ⟨⟨by omega, by omega⟩, fun a2 => ⟨⟨by omega, by omega⟩, ⟨by omega, by omega⟩, fun a3 => ?_, fun a3 => st ⟨⟨by omega, by omega⟩, fun q => by omega, fun _ => ⟨by omega, by omega, ⟨by omega, by omega⟩, fun _ => ⟨by omega, by omega, by omega, by omega, ⟨by omega, by omega⟩, ⟨by omega, by omega⟩, fun q => by omega, fun _ => An_same (by decide) hK⟩, fun q => by omega⟩⟩⟩, fun a2 => st ⟨⟨by omega, by omega⟩, fun q => by omega, fun _ => ⟨by omega, by omega, ⟨by omega, by omega⟩, fun q => by omega, fun _ => An_same (by decide) hK⟩⟩⟩⟩
      have hwz : rl (w + z) := by obtain ⟨_, _⟩ := hw; obtain ⟨_, _⟩ := hz; constructor <;> omega
      have hyz : rl (y + z) := by obtain ⟨_, _⟩ := hy; obtain ⟨_, _⟩ := hz; constructor <;> omega
      have lp : ∀ a b : Int, 0 < lcp a b ↔ b < a := fun a b => by
        unfold lcp
        by_cases g : b < a
        · rw [if_pos g]; exact ⟨fun _ => g, fun _ => by decide⟩
        · rw [if_neg g]; constructor
          · intro q; split at q <;> exact absurd q (by decide)
          · intro q; exact absurd q g
      have st2 : ∀ {P : Int → St → Prop}, ((¬ (0 ≤ w ∧ 0 ≤ z ∧ w + z ≤ (ln : Int)) ∨ ¬ (0 ≤ y ∧ 0 ≤ z ∧ y + z ≤ (ln' : Int))) → P (-13) τ) → ((0 ≤ w ∧ 0 ≤ z ∧ w + z ≤ (ln : Int)) → (0 ≤ y ∧ 0 ≤ z ∧ y + z ≤ (ln' : Int)) → ∃ n : Nat, wp_X9_shift_110 P n t w u y z 0 τ) → wp_X9_shift τ t w u y z P := by
        intro P h1 h2
        refine st ⟨⟨by omega, by omega⟩, fun q => by omega, fun _ => ⟨by omega, by omega, ⟨by omega, by omega⟩, fun _ => ⟨by omega, by omega, by omega, by omega, ⟨by omega, by omega⟩, ⟨by omega, by omega⟩, fun _ => ?_, fun q => by omega⟩, fun q => by omega⟩⟩
        refine ⟨hz, fun e1 => h1 (by omega), fun e1 => ⟨hw, fun e2 => h1 (by omega), fun e2 => ⟨hy, fun e3 => h1 (by omega), fun e3 => ⟨hw, hz, by omega, by omega, rgn (by omega), hwz, rln (by omega), lcp_rg _ _, fun e4 => h1 (by have := (lp _ _).mp e4; omega), fun e4 => ?_⟩⟩⟩⟩
        have e4' : ¬ ((ln : Int) < w + z) := fun q => e4 ((lp _ _).mpr q)
        refine ⟨hy, hz, by omega, by omega, rgn (by omega), hyz, rln (by omega), lcp_rg _ _, fun e5 => h2 (by omega) ?_, fun e5 => h1 ?_⟩
        · have : ¬ ((ln' : Int) < y + z) := fun q => by have := (lp _ _).mpr q; omega
          omega
        · have : (ln' : Int) < y + z := (lp _ _).mp (by omega)
          omega
      refine s_has b3 (show σ (80 + 2 * t) 1 = ln from b6) hw hz (ibs (fun c3 => ?_) (fun c3 => st2 (fun _ => An_same (by decide) hK) (fun q => absurd q c3)))
      refine s_has d3 (show σ (80 + 2 * u) 1 = ln' from d6) hy hz (ibr (fun c4 => ⟨by omega, by omega, by omega, by omega, by omega, ?_⟩) (fun c4 => st2 (fun _ => An_same (by decide) hK) (fun _ q => absurd q c4)))
      intro σ5 e5
      have e5' : σ5 = cpy σ (81 + 2 * t) w (81 + 2 * u) y z := e5
      refine st2 (fun q => by omega) (fun _ _ => ?_)
      obtain ⟨a, rfl, -, ha⟩ := natOf (v := w) (a := 0) (b := 60) (by omega) (by omega)
      obtain ⟨b, rfl, -, hb⟩ := natOf (v := y) (a := 0) (b := 60) (by omega) (by omega)
      obtain ⟨n, rfl, -, hn⟩ := natOf (v := z) (a := 0) (b := 60) (by omega) (by omega)
      have l2 : ∀ (fu k : Nat) (τ1 : St), k ≤ n → n < k + fu → (∀ i : Nat, i < n → τ1 13 (i : Int) = τ 12 (60 * (t : Int) + a + i)) → (∀ i : Nat, i < k → τ1 12 (60 * (u : Int) + b + i) = τ 12 (60 * (t : Int) + a + i)) → (∀ j : Int, ¬ (60 * (u : Int) + b ≤ j ∧ j < 60 * (u : Int) + b + n) → τ1 12 j = τ 12 j) → (∀ d, d ≠ 12 → d ≠ 13 → τ1 d = τ d) → wp_X9_shift_147 (fun r2 τ1 => An K n r2 σ5 τ1) fu u b n k τ1 := by
        intro fu
        induction fu with
        | zero => intro k τ1 q1 q2; omega
        | succ fu ih =>
          intro k τ1 q1 q2 q3 q4 q5 q6
          unfold wp_X9_shift_147
          refine ⟨rgn (by omega), rgn (by omega), fun e => ?_, fun e => ⟨by omega, by omega, by omega, by omega, ?_⟩⟩
          · refine An_same (rgn (by omega)) (hk s σ5 τ1 (RR_tape h (t := u) (so := so') (ln := ln') (fun k h1 h2 => by rw [e5', cpy_ne _ h2]) (fun d r1 r2 r3 r4 => q6 d r3 r4) (fun t' h1 h2 => ⟨by rw [q6 10 (by decide) (by decide)], by rw [q6 11 (by decide) (by decide)], fun i hi => q5 _ (by omega)⟩) ⟨d1, d2, d3, d4, ?_, ?_, ?_, ?_, fun i hi => ?_⟩))
            · rw [e5', cpy_ne _ (by omega)]; exact d5
            · rw [e5', cpy_ne _ (by omega)]; exact d6
            · rw [q6 10 (by decide) (by decide)]; exact d7
            · rw [q6 11 (by decide) (by decide)]; exact d8
            · rw [e5']
              simp only [cpy]
              by_cases g : b ≤ i ∧ i < b + n
              · rw [if_pos ⟨trivial, by omega, by omega⟩]
                have := q4 (i - b) (by omega)
                rw [show 60 * (u : Int) + b + ((i - b : Nat) : Int) = 60 * (u : Int) + i by omega] at this
                rw [this, show (a : Int) + ((i : Int) - b) = ((a + (i - b) : Nat) : Int) by omega, show 60 * (t : Int) + (a : Int) + ((i - b : Nat) : Int) = 60 * (t : Int) + ((a + (i - b) : Nat) : Int) by omega]
                exact b9 _ (by omega)
              · rw [if_neg (by omega), q5 _ (by omega)]; exact d9 i hi
          · intro τ2 u2
            rw [show (k : Int) + 1 = ((k + 1 : Nat) : Int) by omega]
            refine ih (k + 1) τ2 (by omega) (by omega) (fun i hi => by rw [u2, up_c _ _ (by decide)]; exact q3 i hi) (fun i hi => ?_) (fun j hj => by rw [u2, up_j _ (by omega)]; exact q5 j hj) (fun d r1 r2 => by rw [u2, up_ne _ r1]; exact q6 d r1 r2)
            rw [u2]
            by_cases g : i = k
            · rw [g, up_same]; exact q3 k (by omega)
            · rw [up_j _ (by omega)]; exact q4 i (by omega)
      have l1 : ∀ (fu k : Nat) (τ1 : St), k ≤ n → n < k + fu → (∀ i : Nat, i < k → τ1 13 (i : Int) = τ 12 (60 * (t : Int) + a + i)) → (∀ d, d ≠ 13 → τ1 d = τ d) → wp_X9_shift_110 (fun r2 τ1 => An K n r2 σ5 τ1) fu t a u b n k τ1 := by
        intro fu
        induction fu with
        | zero => intro k τ1 q1 q2; omega
        | succ fu ih =>
          intro k τ1 q1 q2 q3 q6
          unfold wp_X9_shift_110
          refine ⟨rgn (by omega), rgn (by omega), fun e => ⟨n + 1, l2 (n + 1) 0 τ1 (by omega) (by omega) (fun i hi => q3 i (by omega)) (fun i hi => absurd hi (Nat.not_lt_zero _)) (fun j _ => by rw [q6 12 (by decide)]) (fun d _ r2 => q6 d r2)⟩, fun e => ⟨by omega, by omega, by omega, by omega, ?_⟩⟩
          intro τ2 u2
          rw [show (k : Int) + 1 = ((k + 1 : Nat) : Int) by omega]
          refine ih (k + 1) τ2 (by omega) (by omega) (fun i hi => ?_) (fun d r => by rw [u2, up_ne _ r]; exact q6 d r)
          rw [u2]
          by_cases g : i = k
          · rw [g, up_same, q6 12 (by decide)]
          · rw [up_j _ (by omega)]; exact q3 i (by omega)
      exact ⟨n + 1, l1 (n + 1) 0 τ (by omega) (by omega) (fun i hi => absurd hi (Nat.not_lt_zero _)) (fun _ _ => rfl)⟩
    · unfold wp_X9_shift
      refine s_isTape9 hv (ibs (fun _ => ?_) (fun q => absurd c q))
      exact s_isTape9 hx (ibr (fun q => absurd q c2) (fun _ => An_same (by decide) hK))
  · unfold wp_X9_shift
    exact s_isTape9 hv (ibs (fun q => absurd q c) (fun _ => An_same (by decide) hK))
