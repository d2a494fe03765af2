/-- the answer of least, from the best of all calls -/
def lsA (c : Cf) (L : Nat) (v2 : Int) : Int := if v2 = 0 then (lpR (trX c L) L (3 ^ L) 0 (L + 1, -5)).2 else if (lpR (trX c L) L (3 ^ L) 0 (L + 1, -5)).2 = -5 then -5 else ((lpR (trX c L) L (3 ^ L) 0 (L + 1, -5)).1 : Int)
theorem m_least {s : Su} {σ τ : St} (h : RR s σ τ) {L : Nat} (h1 : 1 ≤ L) (h5 : L ≤ 5) {v2 : Int} (hv2 : v2 = 0 ∨ v2 = 1) {post : Int → St → Prop} (hp : ∀ τ' : St, RR s σ τ' → post (lsA s.1 L v2) τ') : wp_X9_least τ L v2 post := by
  have hv2r : rg v2 := by rcases hv2 with e | e <;> rw [e] <;> decide
  have fin : ∀ (st : Nat × Int) (v10 v11 : Int) (τ' : St), st = lpR (trX s.1 L) L (3 ^ L) 0 (L + 1, -5) → bOK L st v10 v11 → RR s σ τ' → post (if v2 = 0 then v10 else v11) τ' := by
    intro st v10 v11 τ' hst hb hR
    have := hp τ' hR
    unfold lsA at this
    rw [← hst] at this
    obtain ⟨b1, b2⟩ := hb
    by_cases c : v2 = 0
    · rw [if_pos c] at this ⊢; rw [b1]; exact this
    · rw [if_neg c] at this ⊢
      rcases b2 with b2 | b2
      · rw [if_pos b2.1] at this; rw [b2.2.2]; exact this
      · rw [if_neg (by omega)] at this; rw [b2.2.2.2]; exact this
  unfold wp_X9_least
  refine s_within (rgn (by omega)) (by decide) (by decide) (ibr (fun _ => ?_) (fun z => by omega))
  refine s_within hv2r (by decide) (by decide) (ibr (fun _ => ?_) (fun z => by omega))
  intro τ3 u3
  have pw : ∀ (d fu i : Nat), i + d = L → d < fu → wp_X9_least_88 post fu L v2 (τ 1 4) (τ 1 24) (τ 1 25) (τ 1 26) (τ 1 27) (τ 1 28) ((3 ^ i : Nat) : Int) i τ3 := by
    intro d
    induction d with
    | zero =>
      intro fu i e hf
      obtain ⟨fu, rfl⟩ : ∃ f, fu = f + 1 := ⟨fu - 1, by omega⟩
      have hi : i = L := by omega
      subst hi
      unfold wp_X9_least_88
      refine ⟨rgn (by omega), rgn (by omega), fun _ => ⟨3 ^ i + 1, ?_⟩, fun z => by omega⟩
      exact m_best h h1 h5 hv2r fin (3 ^ i) (3 ^ i + 1) 0 (i + 1, -5) (-5) (-5) τ3 (by omega) (by omega) ⟨rfl, Or.inl ⟨rfl, rfl, rfl⟩⟩ rfl (by rw [u3, up_same]) (fun q q1 _ => by rw [u3, up_j _ q1]) (fun j _ => by rw [u3, up_c _ _ (by decide)]) (fun d _ d1 _ _ => by rw [u3, up_ne _ d1])
    | succ d ih =>
      intro fu i e hf
      obtain ⟨fu, rfl⟩ : ∃ f, fu = f + 1 := ⟨fu - 1, by omega⟩
      unfold wp_X9_least_88
      refine ⟨rgn (by omega), rgn (by omega), fun z => by omega, fun _ => ?_⟩
      have := ih fu (i + 1) (by omega) (by omega)
      rw [show ((3 ^ (i + 1) : Nat) : Int) = ((3 ^ i : Nat) : Int) * 3 by rw [Nat.pow_succ]; exact Int.natCast_mul _ 3, show ((i + 1 : Nat) : Int) = (i : Int) + 1 by omega] at this
      exact this
  have := pw L (L + 1) 0 (by omega) (by omega)
  exact ⟨L + 1, this⟩
theorem m_least_bad {s : Su} {σ τ : St} (h : RR s σ τ) {v w : Int} (hv : rg v) (hw : rg w) {post : Int → St → Prop} (h1 : ¬ (1 ≤ v ∧ v ≤ 5) → post (-2) τ) (h2 : (1 ≤ v ∧ v ≤ 5) → ¬ (0 ≤ w ∧ w ≤ 1) → post (-1) τ) (hb : ¬ (1 ≤ v ∧ v ≤ 5) ∨ ¬ (0 ≤ w ∧ w ≤ 1)) : wp_X9_least τ v w post := by
  unfold wp_X9_least
  refine s_within hv (by decide) (by decide) (ibr (fun c => ?_) (fun c => h1 c))
  exact s_within hw (by decide) (by decide) (ibr (fun c2 => by omega) (fun c2 => h2 c c2))
