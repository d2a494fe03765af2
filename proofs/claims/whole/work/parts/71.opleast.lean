/-! least, from the class's find -/
theorem lp_inv (tr : Nat → Bool) (L : Nat) : ∀ (k y : Nat) (st : Nat × Int), y + k ≤ 1000 → ((st.2 = -5 ∧ st.1 = L + 1) ∨ (0 ≤ st.2 ∧ st.2 < 1000 ∧ st.1 ≤ L)) → (((lpR tr L k y st).2 = -5 ∧ (lpR tr L k y st).1 = L + 1) ∨ (0 ≤ (lpR tr L k y st).2 ∧ (lpR tr L k y st).2 < 1000 ∧ (lpR tr L k y st).1 ≤ L))
  | 0, _, _, _, h => h
  | k + 1, y, st, hy, h => by
    refine lp_inv tr L k (y + 1) (stR tr L y st) (by omega) ?_
    unfold stR
    by_cases z : (tr y && decide (nzF L y < st.1)) = true
    · rw [if_pos z]
      exact Or.inr ⟨by show (0 : Int) ≤ (y : Int); omega, by show (y : Int) < 1000; omega, nzF_le L y⟩
    · rw [if_neg z]; exact h
theorem lsA_rg {c : Cf} {L : Nat} (h5 : L ≤ 5) (w : Int) : rg (lsA c L w) := by
  have h3L : 3 ^ L ≤ 243 := by
    have : 3 ^ L ≤ 3 ^ 5 := Nat.pow_le_pow_right (by decide) h5
    have e : (3 : Nat) ^ 5 = 243 := by decide
    omega
  have := lp_inv (trX c L) L (3 ^ L) 0 (L + 1, -5) (by omega) (Or.inl ⟨rfl, rfl⟩)
  unfold lsA
  by_cases a : w = 0
  · rw [if_pos a]; rcases this with t | t
    · rw [t.1]; decide
    · exact ⟨by omega, by omega⟩
  · rw [if_neg a]
    by_cases b : (lpR (trX c L) L (3 ^ L) 0 (L + 1, -5)).2 = -5
    · rw [if_pos b]; decide
    · rw [if_neg b]; exact rgn (by rcases this with t | t <;> omega)
def TFind : Prop := ∀ {s : Su} {σ τ : St}, RR s σ τ → ∀ {L : Nat}, 1 ≤ L → L ≤ 5 → ∀ {post : St → Prop}, (∀ σ' : St, RR s σ' τ → σ' 63 0 = lsA s.1 L 0 → σ' 63 1 = lsA s.1 L 1 → post σ') → wp_X0_find (pk σ [63, 64, 65, 66, 67, 68, 69, 70, 71, 72, 73, 1, 2, 3, 4, 5, 6, 7, 8, 9, 10, 11, 12, 13, 14, 15, 16]) (L : Int) (fun τ1 => ∀ σ1 : St, σ1 = mrg σ [63, 64, 65, 66, 67, 68, 69, 70, 71, 72, 73, 1, 2, 3, 4, 5, 6, 7, 8, 9, 10, 11, 12, 13, 14, 15, 16] τ1 → post σ1)
theorem op_least (hf : TFind) : OpLeast := by
  intro s σ τ h v w hv hw K hk
  have hK := hk s σ τ h
  have key : (1 ≤ v ∧ v ≤ 5) → (w = 0 ∨ w = 1) → wp_X8_least_24 (fun r1 σ1 => wp_X9_least τ v w (fun r2 τ1 => An K r1 r2 σ1 τ1)) v w σ := by
    intro c1 c2
    obtain ⟨L, rfl, hL1, hL5⟩ := natOf (v := v) (a := 1) (b := 5) (by omega) (by omega)
    refine hf h hL1 hL5 (post := fun σ1 => (rg w ∧ (¬ w = 0 → wp_X9_least τ L w (fun r2 τ1 => An K (σ1 63 1) r2 σ1 τ1)) ∧ (w = 0 → wp_X9_least τ L w (fun r2 τ1 => An K (σ1 63 0) r2 σ1 τ1)))) (fun σ' h' e0 e1 => ⟨hw, fun c => ?_, fun c => ?_⟩)
    · obtain rfl : w = 1 := by omega
      rw [e1]
      exact m_least h' hL1 hL5 c2 (fun τ' hR => An_same (lsA_rg hL5 _) (hk s σ' τ' hR))
    · subst c
      rw [e0]
      exact m_least h' hL1 hL5 c2 (fun τ' hR => An_same (lsA_rg hL5 _) (hk s σ' τ' hR))
  unfold wp_X8_least
  refine ⟨hv, fun c => ?_, fun c => ⟨hv, fun c2 => ⟨hw, fun c3 => key (by omega) (Or.inl c3), fun c3 => ⟨hw, fun c4 => key (by omega) (Or.inr c4), fun c4 => ?_⟩⟩, fun c2 => ?_⟩⟩
  · exact m_least_bad h hv hw (fun _ => An_same (by decide) hK) (fun z => by omega) (Or.inl (by omega))
  · exact m_least_bad h hv hw (fun z => by omega) (fun _ _ => An_same (by decide) hK) (Or.inr (by omega))
  · exact m_least_bad h hv hw (fun _ => An_same (by decide) hK) (fun z => by omega) (Or.inl (by omega))
