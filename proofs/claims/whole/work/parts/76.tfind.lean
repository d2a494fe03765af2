/-! least -/
theorem RR_63 {s : Su} {σ σ' τ : St} (h : RR s σ τ) (hd : ∀ d, (d < 63 ∨ 74 ≤ d) → σ' d = σ d) (h72 : ∀ j : Nat, j < 512 → σ' 72 (j : Int) = 0) : RR s σ' τ := by
  obtain ⟨a1, a2, a3, a4, a5, a6, a7, a8, a9⟩ := h
  have e0 := hd 0 (by omega)
  refine ⟨a1, suOK_cong a2 (fun k hk => hd _ (by omega)), a3, imOK_cong a4 (by rw [e0]) (fun k hk hk2 => hd k (by omega)) rfl rfl, ⟨?_, fun j hj => by rw [hd 55 (by omega)]; exact a5.2 j hj⟩, fun j hj => by rw [hd 62 (by omega)]; exact a6 j hj, h72, txOK_cong a8 (hd 74 (by omega)) (hd 75 (by omega)) rfl rfl, tpOK_cong a9 (fun k hk => hd k (by omega)) rfl rfl rfl⟩
  rw [e0]
  rcases a5.1 with z | ⟨z1, z2, z3⟩
  · exact Or.inl z
  · refine Or.inr ⟨z1, ?_, ?_⟩
    · unfold touOK tmOK twOK at *
      rw [hd 49 (by omega), hd (49 + 1) (by omega), hd (49 + 2) (by omega), hd (49 + 3) (by omega)]; exact z2
    · unfold cmOK rwX at *
      rw [hd 49 (by omega), hd (49 + 1) (by omega), hd (49 + 4) (by omega)]; exact z3
theorem tfind : TFind := by
  intro s σ τ h L hL1 hL5 post hp
  have hz := h.2.2.2.2.2.2.1
  rw [BF3]
  have p1 : ∀ d, d < 11 → pk σ (blk 63 11 ++ blk 1 16) d = σ (63 + d) := fun d hd => by rw [pk_b2 (by omega), if_pos hd]
  have p2 : ∀ k, k < 16 → pk σ (blk 63 11 ++ blk 1 16) (11 + k) = σ (1 + k) := fun k hk => by rw [pk_b2 (by omega), if_neg (by omega), show 1 + (11 + k - 11) = 1 + k by omega]
  refine t_find h.1.1 hL1 hL5 (cfOK_cong h.2.1.1 (fun k hk => p2 k hk)) (fun j hj => by rw [p1 9 (by decide)]; exact hz j hj) (fun τ1 t0 t1 t9 td => ?_)
  intro σ1 e1
  have g1 : ∀ d, d < 11 → σ1 (63 + d) = τ1 d := fun d hd => by rw [e1, mrg_b2, if_pos ⟨by omega, by omega⟩, show 63 + d - 63 = d by omega]
  have g2 : ∀ d, (d < 63 ∨ 74 ≤ d) → σ1 d = σ d := fun d hd => by
    rw [e1, mrg_b2, if_neg (by omega)]
    by_cases z : 1 ≤ d ∧ d < 1 + 16
    · rw [if_pos z, td _ (by omega), p2 (d - 1) (by omega), show 1 + (d - 1) = d by omega]
    · rw [if_neg z]
  have g63 : σ1 63 = τ1 0 := g1 0 (by decide)
  have g72 : σ1 72 = τ1 9 := g1 9 (by decide)
  exact hp σ1 (RR_63 h g2 (fun j hj => by rw [g72]; exact t9 j hj)) (by rw [g63]; exact t0) (by rw [g63]; exact t1)
theorem opleast : OpLeast := op_least tfind
