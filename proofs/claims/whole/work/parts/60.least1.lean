/-! facts for least -/
theorem TI_zero {T : Nat → Nat} {X : Nat → Int} (h : TI T X 0) : ∀ j : Nat, j < 512 → T j = 0 := fun j hj => by
  rcases h.1 j hj with e | ⟨e, -⟩
  · exact e
  · omega
theorem sch_no {p : Nat → Bool} : ∀ (k r : Nat), sch p k r = -5 ↔ ∀ z, r ≤ z → z < r + k → p z = false
  | 0, r => ⟨fun _ z h1 h2 => by omega, fun _ => rfl⟩
  | k + 1, r => by
    by_cases h : p r = true
    · rw [sch_t h]
      constructor
      · intro e; omega
      · intro e; rw [e r (Nat.le_refl _) (by omega)] at h; exact absurd h (by decide)
    · have h' : p r = false := by simpa using h
      rw [sch_f h', sch_no k (r + 1)]
      constructor
      · intro e z h1 h2
        rcases Nat.lt_or_ge r z with g | g
        · exact e z g (by omega)
        · rw [show z = r by omega]; exact h'
      · intro e z h1 h2; exact e z (by omega) (by omega)
theorem fst_self {X : Nat → Int} {r : Nat} : fst X r = r ↔ ∀ q, q < r → X q ≠ X r := by
  obtain ⟨a, b, c⟩ := fst_spec X r
  constructor
  · intro e q hq; exact c q (by omega)
  · intro e
    rcases Nat.lt_or_ge (fst X r) r with z | z
    · exact absurd b (e _ z)
    · omega
/-- a touch is true when its rows before the last are all different and the last is rounds -/
theorem trF_iff {X : Nat → Int} {last : Nat} : trF X last = true ↔ 0 < last ∧ X last = X 0 ∧ ∀ q r, q < r → r < last → X q ≠ X r := by
  unfold trF flF
  rw [Bool.and_eq_true, Bool.and_eq_true, decide_eq_true_eq, decide_eq_true_eq, decide_eq_true_eq, sch_no]
  constructor
  · rintro ⟨h1, h2, h3⟩
    refine ⟨h1, h2, fun q r hq hr => ?_⟩
    have := h3 r (by omega) (by omega)
    have e : fst X r = r := by
      apply Classical.byContradiction
      intro z
      rw [Bool.and_eq_false_iff] at this
      rcases this with t | t
      · exact z (by simpa using t)
      · have : ¬ r = last := by omega
        simp [this] at t
    exact fst_self.mp e q hq
  · rintro ⟨h1, h2, h3⟩
    refine ⟨h1, h2, fun z hz1 hz2 => ?_⟩
    rw [Bool.and_eq_false_iff]
    rcases Nat.lt_or_ge z last with g | g
    · left
      have : fst X z = z := fst_self.mpr (fun q hq => h3 q z hq g)
      simp [this]
    · right
      have hz : z = last := by omega
      subst hz
      have : fst X z = 0 := fst_0.mpr h2
      simp [this]
