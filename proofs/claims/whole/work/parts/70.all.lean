/-! every script -/
def OpLeast : Prop := ∀ {s : Su} {σ τ : St}, RR s σ τ → ∀ {v w : Int}, rg v → rg w → ∀ {K : Kt}, (∀ s' σ' τ', RR s' σ' τ' → K σ' τ') → wp_X8_least σ v w (fun r1 σ1 => wp_X9_least τ v w (fun r2 τ1 => An K r1 r2 σ1 τ1))
def OpRead : Prop := ∀ {s : Su} {σ τ : St}, RR s σ τ → ∀ {K : Kt}, (∀ s' σ' τ', RR s' σ' τ' → K σ' τ') → wp_X8_read σ (fun r1 σ1 => wp_X9_read τ (fun r2 τ1 => An K r1 r2 σ1 τ1))
theorem lor_rl (a b : Int) : rl (lor a b) := by
  unfold lor
  exact ⟨Int64.le_toInt _, Int64.toInt_lt _⟩
theorem law_all (hleast : OpLeast) (hread : OpRead) {L : Nat} (hL : L ≤ 3072) (xs : Nat → Int32) : ∀ (n i : Nat), i ≤ L + 6 → L + 6 < i + n → ∀ (s : Su) (σ τ : St), RR s σ τ → wp_law (L : Int) xs n i σ τ := by
  intro n
  induction n with
  | zero => intro i a b; omega
  | succ n ih =>
    intro i a b s σ τ h
    unfold wp_law
    refine ⟨⟨by omega, by omega⟩, fun hi => ?_⟩
    have hk : ∀ s' σ' τ', RR s' σ' τ' → wp_law (L : Int) xs n ((i : Int) + 6) σ' τ' := fun s' σ' τ' h' => by
      rw [show (i : Int) + 6 = ((i + 6 : Nat) : Int) by omega]
      exact ih (i + 6) (by omega) (by omega) s' σ' τ' h'
    have g : ∀ j : Int, rg (sc xs j) := fun j => sc_rg _ _
    refine ⟨by omega, fun _ => ?_, fun _ => ?_, fun _ => ?_, fun _ => ?_, fun _ => ?_, fun _ => ?_, fun _ => ?_, fun _ => ?_, fun _ => ?_, fun _ => ?_, fun _ => ?_, fun _ => ?_, fun _ => ?_, fun _ => ?_, fun _ => ?_, fun _ => ?_, fun _ => ?_, fun _ => ?_, fun _ => ?_, fun _ => ?_, fun _ => ?_, fun _ => ?_, fun _ => ?_, fun _ => ?_, fun _ => ?_, fun _ => ?_, fun _ => ?_, fun _ => ?_, fun _ => ?_, fun _ => ?_, fun _ => ?_, fun _ => ?_, fun _ => ?_, fun _ => ?_, fun _ => hk s σ τ h⟩
    · exact op_bells h (g _) (K := fun σ' τ' => wp_law (L : Int) xs n ((i : Int) + 6) σ' τ') hk
    · exact op_change h (g _) (K := fun σ' τ' => wp_law (L : Int) xs n ((i : Int) + 6) σ' τ') hk
    · exact op_calls h (g _) (g _) (K := fun σ' τ' => wp_law (L : Int) xs n ((i : Int) + 6) σ' τ') hk
    · exact op_call h (g _) (g _) (K := fun σ' τ' => wp_law (L : Int) xs n ((i : Int) + 6) σ' τ') hk
    · exact op_leads h (g _) (K := fun σ' τ' => wp_law (L : Int) xs n ((i : Int) + 6) σ' τ') hk
    · exact op_pattern h (g _) (g _) (K := fun σ' τ' => wp_law (L : Int) xs n ((i : Int) + 6) σ' τ') hk
    · exact op_feed h (g _) (K := fun σ' τ' => wp_law (L : Int) xs n ((i : Int) + 6) σ' τ') hk
    · exact hread h (K := fun σ' τ' => wp_law (L : Int) xs n ((i : Int) + 6) σ' τ') hk
    · exact op_of h (g _) (g _) (K := fun σ' τ' => wp_law (L : Int) xs n ((i : Int) + 6) σ' τ') (hk s σ τ h)
    · exact op_toldc h (g _) (K := fun σ' τ' => wp_law (L : Int) xs n ((i : Int) + 6) σ' τ') hk
    · exact op_at h (g _) (g _) (K := fun σ' τ' => wp_law (L : Int) xs n ((i : Int) + 6) σ' τ') hk
    · exact op_where h (g _) (g _) (K := fun σ' τ' => wp_law (L : Int) xs n ((i : Int) + 6) σ' τ') hk
    · exact op_same h (g _) (K := fun σ' τ' => wp_law (L : Int) xs n ((i : Int) + 6) σ' τ') hk
    · exact op_good h (g _) (K := fun σ' τ' => wp_law (L : Int) xs n ((i : Int) + 6) σ' τ') (hk s σ τ h)
    · exact op_music h (g _) (K := fun σ' τ' => wp_law (L : Int) xs n ((i : Int) + 6) σ' τ') hk
    · exact hleast h (g _) (g _) (K := fun σ' τ' => wp_law (L : Int) xs n ((i : Int) + 6) σ' τ') hk
    · exact op_still h (g _) (K := fun σ' τ' => wp_law (L : Int) xs n ((i : Int) + 6) σ' τ') hk
    · exact op_ahead h (g _) (g _) (K := fun σ' τ' => wp_law (L : Int) xs n ((i : Int) + 6) σ' τ') hk
    · exact op_see h (g _) (g _) (g _) (K := fun σ' τ' => wp_law (L : Int) xs n ((i : Int) + 6) σ' τ') hk
    · exact op_fits h (g _) (K := fun σ' τ' => wp_law (L : Int) xs n ((i : Int) + 6) σ' τ') hk
    · exact op_odds h (g _) (g _) (g _) (K := fun σ' τ' => wp_law (L : Int) xs n ((i : Int) + 6) σ' τ') hk
    · exact op_mean h (g _) (K := fun σ' τ' => wp_law (L : Int) xs n ((i : Int) + 6) σ' τ') hk
    · exact op_event h (g _) (g _) (K := fun σ' τ' => wp_law (L : Int) xs n ((i : Int) + 6) σ' τ') hk
    · exact op_after h (g _) (K := fun σ' τ' => wp_law (L : Int) xs n ((i : Int) + 6) σ' τ') hk
    · exact op_book h (g _) (g _) (K := fun σ' τ' => wp_law (L : Int) xs n ((i : Int) + 6) σ' τ') hk
    · exact op_looked h (K := fun σ' τ' => wp_law (L : Int) xs n ((i : Int) + 6) σ' τ') hk
    · exact op_judge h (g _) (g _) (g _) (K := fun σ' τ' => wp_law (L : Int) xs n ((i : Int) + 6) σ' τ') hk
    · exact op_image h (K := fun σ' τ' => wp_law (L : Int) xs n ((i : Int) + 6) σ' τ') hk
    · exact op_undo h (K := fun σ' τ' => wp_law (L : Int) xs n ((i : Int) + 6) σ' τ') hk
    · exact op_count h (g _) (K := fun σ' τ' => wp_law (L : Int) xs n ((i : Int) + 6) σ' τ') (hk s σ τ h)
    · exact op_tape h (g _) (g _) (g _) (K := fun σ' τ' => wp_law (L : Int) xs n ((i : Int) + 6) σ' τ') hk
    · exact op_item h (g _) (g _) (lor_rl _ _) (K := fun σ' τ' => wp_law (L : Int) xs n ((i : Int) + 6) σ' τ') hk
    · exact op_peek h (g _) (g _) (K := fun σ' τ' => wp_law (L : Int) xs n ((i : Int) + 6) σ' τ') (hk s σ τ h)
    · exact op_shift h (g _) (g _) (g _) (g _) (g _) (K := fun σ' τ' => wp_law (L : Int) xs n ((i : Int) + 6) σ' τ') hk
