/-! the reference's least -/
def dgt (L x i : Nat) : Nat := x / 3 ^ (L - 1 - i) % 3
def cfx (c : Cf) (L x : Nat) : Cf := (cN c, cM c, cH c, cB c, cS c, (fun i => if i < L then dgt L x i else cC c i), L)
theorem cfx_wf {c : Cf} (hw : wfC c) {L : Nat} (h1 : 1 ≤ L) (h2 : L ≤ 5) (x : Nat) : wfC (cfx c L x) := by
  obtain ⟨h4, h8, h16, hh, hB, hS, hcal, hl1, hl12⟩ := hw
  refine ⟨h4, h8, h16, hh, hB, hS, fun i hi => ?_, h1, by show L ≤ 12; omega⟩
  show (if i < L then dgt L x i else cC c i) ≤ 2
  by_cases z : i < L
  · rw [if_pos z]; have := Nat.mod_lt (x / 3 ^ (L - 1 - i)) (show 3 > 0 by decide); unfold dgt; omega
  · rw [if_neg z]; exact hcal i hi
/-- is the touch with these calls true -/
def trX (c : Cf) (L x : Nat) : Bool := trF (KK (cfx c L x)) (lastC (cfx c L x))
/-- the digits are written, from the last to the first -/
theorem m_digits {τ0 : St} {L x : Nat} (hL : L ≤ 5) (hx : x < 1000) {k117 : Int → Int → Int → Int → Int → Int → Int → Int → Int → Int → Int → Int → St → Prop} {post : Int → St → Prop} {v1 v2 v3 v4 v5 v6 v7 v8 v9 v10 v11 : Int} (hk : ∀ τ' : St, (∀ i, i < L → τ' 1 (24 + (i : Int)) = dgt L x i) → (∀ j : Int, ¬ (24 ≤ j ∧ j < 24 + (L : Int)) → τ' 1 j = τ0 1 j) → (∀ d, d ≠ 1 → τ' d = τ0 d) → (rg v10 ∧ (v10 = (-5) → (wp_X9_least_201 k117 post v1 v2 v3 v4 v5 v6 v7 v8 v9 v10 v11 x (nzF L x : Nat) τ')) ∧ (¬ v10 = (-5) → (rg ((nzF L x : Nat) : Int) ∧ rg v11 ∧ (((nzF L x : Nat) : Int) < v11 → (wp_X9_least_201 k117 post v1 v2 v3 v4 v5 v6 v7 v8 v9 v10 v11 x (nzF L x : Nat) τ')) ∧ (¬ ((nzF L x : Nat) : Int) < v11 → (wp_X9_least_223 k117 post v1 v2 v3 v4 v5 v6 v7 v8 v9 v10 v11 x τ')))))) : ∀ (j fu m : Nat) (τ : St), j ≤ L → j < fu → nzF j (x / 3 ^ (L - j)) + m = nzF L x → (∀ i, j ≤ i → i < L → τ 1 (24 + (i : Int)) = dgt L x i) → (∀ q : Int, ¬ (24 ≤ q ∧ q < 24 + (L : Int)) → τ 1 q = τ0 1 q) → (∀ d, d ≠ 1 → τ d = τ0 d) → wp_X9_least_136 k117 post fu v1 v2 v3 v4 v5 v6 v7 v8 v9 v10 v11 x ((x / 3 ^ (L - j) : Nat) : Int) m ((j : Int) - 1) τ := by
  intro j
  induction j with
  | zero =>
    intro fu m τ a b hm q1 q2 q3
    obtain ⟨fu, rfl⟩ : ∃ f, fu = f + 1 := ⟨fu - 1, by omega⟩
    have hm' : m = nzF L x := by
      have : nzF 0 (x / 3 ^ (L - 0)) = 0 := rfl
      omega
    subst hm'
    unfold wp_X9_least_136
    exact ⟨by decide, fun _ => hk τ (fun i hi => q1 i (Nat.zero_le _) hi) q2 q3, fun z => by omega⟩
  | succ j ih =>
    intro fu m τ a b hm q1 q2 q3
    obtain ⟨fu, rfl⟩ : ∃ f, fu = f + 1 := ⟨fu - 1, by omega⟩
    have hdl : x / 3 ^ (L - (j + 1)) ≤ x := Nat.div_le_self _ _
    have hdd : x / 3 ^ (L - (j + 1)) / 3 = x / 3 ^ (L - j) := by
      rw [show L - j = (L - (j + 1)) + 1 by omega, Nat.pow_succ, Nat.div_div_eq_div_mul]
    have hnz : nzF (j + 1) (x / 3 ^ (L - (j + 1))) = nzF j (x / 3 ^ (L - j)) + (if x / 3 ^ (L - (j + 1)) % 3 = 0 then 0 else 1) := by
      rw [← hdd]; rfl
    have hdg : dgt L x j = x / 3 ^ (L - (j + 1)) % 3 := by unfold dgt; rw [show L - 1 - j = L - (j + 1) by omega]
    unfold wp_X9_least_136
    rw [show ((j + 1 : Nat) : Int) - 1 = (j : Int) by omega]
    have e1 : ((x / 3 ^ (L - (j + 1)) : Nat) : Int).tmod 3 = ((x / 3 ^ (L - (j + 1)) % 3 : Nat) : Int) := nat_tmod _ 3
    have e2 : ((x / 3 ^ (L - (j + 1)) : Nat) : Int).tdiv 3 = ((x / 3 ^ (L - j) : Nat) : Int) := by rw [← hdd]; exact nat_tdiv _ 3
    have hm3 := Nat.mod_lt (x / 3 ^ (L - (j + 1))) (show 3 > 0 by decide)
    refine ⟨rgn (by omega), fun z => by omega, fun _ => ⟨rgn (by omega), by omega, by omega, ?_⟩⟩
    intro τ2 u2
    rw [e1] at u2 ⊢
    have w1 : ∀ i, j ≤ i → i < L → τ2 1 (24 + (i : Int)) = dgt L x i := fun i hi1 hi2 => by
      rw [u2]
      by_cases z : i = j
      · rw [z, up_same, hdg]
      · rw [up_j _ (by omega)]; exact q1 i (by omega) hi2
    have w2 : ∀ q : Int, ¬ (24 ≤ q ∧ q < 24 + (L : Int)) → τ2 1 q = τ0 1 q := fun q hq => by rw [u2, up_j _ (by omega)]; exact q2 q hq
    have w3 : ∀ d, d ≠ 1 → τ2 d = τ0 d := fun d hd => by rw [u2, up_ne _ hd]; exact q3 d hd
    refine ⟨rgn (by omega), rgn (by omega), fun c => ?_, fun c => ?_⟩
    · refine ⟨rgn (by omega), ?_⟩
      rw [e2, show (m : Int) + 1 = ((m + 1 : Nat) : Int) by omega]
      refine ih fu (m + 1) τ2 (by omega) (by omega) ?_ w1 w2 w3
      rw [hnz, if_neg (by omega)] at hm; omega
    · refine ⟨rgn (by omega), ?_⟩
      rw [e2, show (m : Int) + 0 = (m : Int) by omega]
      refine ih fu m τ2 (by omega) (by omega) ?_ w1 w2 w3
      rw [hnz, if_pos (by omega)] at hm; omega
