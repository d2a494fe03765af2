/-! the order of a lead is at most 15 -/
def itf (L : Nat → Nat) : Nat → Nat → Nat
  | 0, p => p
  | k + 1, p => itf L k (L p)
theorem itf_add (L : Nat → Nat) : ∀ a b p, itf L (a + b) p = itf L b (itf L a p)
  | 0, b, p => by rw [Nat.zero_add]; rfl
  | a + 1, b, p => by
    rw [show a + 1 + b = (a + b) + 1 by omega]
    exact itf_add L a b (L p)
section
variable {L : Nat → Nat} {n : Nat}
theorem itf_lt (hL : ∀ p, p < n → L p < n) : ∀ k p, p < n → itf L k p < n
  | 0, _, h => h
  | k + 1, p, h => itf_lt hL k (L p) (hL p h)
theorem itf_inj (hL : ∀ p, p < n → L p < n) (hI : ∀ p q, p < n → q < n → L p = L q → p = q) : ∀ k p q, p < n → q < n → itf L k p = itf L k q → p = q
  | 0, _, _, _, _, e => e
  | k + 1, p, q, hp, hq, e => hI p q hp hq (itf_inj hL hI k (L p) (L q) (hL p hp) (hL q hq) e)
theorem itf_sub (hL : ∀ p, p < n → L p < n) (hI : ∀ p q, p < n → q < n → L p = L q → p = q) {p i j : Nat} (hp : p < n) (hij : i < j) (e : itf L i p = itf L j p) : itf L (j - i) p = p := by
  have h1 := itf_add L (j - i) i p
  rw [show j - i + i = j by omega] at h1
  rw [h1] at e
  exact (itf_inj hL hI i p _ hp (itf_lt hL _ p hp) e).symm
theorem ord_ex (hL : ∀ p, p < n → L p < n) (hI : ∀ p q, p < n → q < n → L p = L q → p = q) (h8 : n ≤ 8) (p : Nat) : ∃ o, p < n → (1 ≤ o ∧ o ≤ 8 ∧ itf L o p = p ∧ ∀ k, 1 ≤ k → k < o → itf L k p ≠ p) := by
  by_cases hp : p < n
  · have ex : ∃ k, 1 ≤ k ∧ k ≤ 8 ∧ itf L k p = p := by
      apply Classical.byContradiction
      intro hne
      have := fb_holes n 9 (fun i => itf L i p) (fun i _ => itf_lt hL i p hp) (fun i j hij hj e => hne ⟨j - i, by omega, by omega, itf_sub hL hI hp hij e⟩)
      omega
    have least : ∀ m, (∃ k, 1 ≤ k ∧ k ≤ m ∧ itf L k p = p) → ∃ o, 1 ≤ o ∧ o ≤ m ∧ itf L o p = p ∧ ∀ k, 1 ≤ k → k < o → itf L k p ≠ p := by
      intro m
      induction m with
      | zero => rintro ⟨k, h1, h2, _⟩; omega
      | succ m ih =>
        rintro ⟨k, h1, h2, h3⟩
        by_cases hm : ∃ k, 1 ≤ k ∧ k ≤ m ∧ itf L k p = p
        · obtain ⟨o, a, b, c, d⟩ := ih hm
          exact ⟨o, a, by omega, c, d⟩
        · have : k = m + 1 := by
            apply Classical.byContradiction
            intro z; exact hm ⟨k, h1, by omega, h3⟩
          subst this
          exact ⟨m + 1, h1, Nat.le_refl _, h3, fun k' a b e => hm ⟨k', a, by omega, e⟩⟩
    obtain ⟨o, a, b, c, d⟩ := least 8 ex
    exact ⟨o, fun _ => ⟨a, b, c, d⟩⟩
  · exact ⟨0, fun z => absurd z hp⟩
end
theorem cntF_split (p : Nat → Bool) : ∀ a b r x, cntF p (a + b) r x = cntF p b (r + a) (cntF p a r x)
  | 0, b, r, x => by rw [Nat.zero_add]; rfl
  | a + 1, b, r, x => by
    rw [show a + 1 + b = (a + b) + 1 by omega]
    show cntF p (a + b) (r + 1) (if p r then x + 1 else x) = cntF p b (r + (a + 1)) (cntF p a (r + 1) (if p r then x + 1 else x))
    rw [cntF_split p a b, show r + 1 + a = r + (a + 1) by omega]
theorem cntF_ge (p : Nat → Bool) (k r x : Nat) : x ≤ cntF p k r x := by rw [cntF_add]; omega
theorem rank_lt {p : Nat → Bool} {q q' : Nat} (h : p q = true) (hq : q < q') : cntF p q 0 0 < cntF p q' 0 0 := by
  have e := cntF_split p q (q' - q) 0 0
  rw [show q + (q' - q) = q' by omega, Nat.zero_add] at e
  rw [e]
  obtain ⟨d, hd⟩ : ∃ d, q' - q = d + 1 := ⟨q' - q - 1, by omega⟩
  rw [hd, cntF_t h]
  have := cntF_ge p d (q + 1) (cntF p q 0 0 + 1)
  omega
theorem cnt_inj {p : Nat → Bool} {n o : Nat} {f : Nat → Nat} (h1 : ∀ i, i < o → f i < n ∧ p (f i) = true) (h2 : ∀ i j, i < j → j < o → f i ≠ f j) : o ≤ cntF p n 0 0 := by
  refine fb_holes (cntF p n 0 0) o (fun i => cntF p (f i) 0 0) (fun i hi => rank_lt (h1 i hi).2 (h1 i hi).1) (fun i j hij hj e => ?_)
  rcases Nat.lt_or_ge (f i) (f j) with z | z
  · have := rank_lt (h1 i (by omega)).2 z; omega
  · rcases Nat.lt_or_ge (f j) (f i) with z2 | z2
    · have := rank_lt (h1 j hj).2 z2; omega
    · exact h2 i j hij hj (by omega)
theorem sum1 : ∀ v, v < 9 → (if v == 1 then 1 else 0) + (if v == 2 then 1 else 0) + (if v == 3 then 1 else 0) + (if v == 4 then 1 else 0) + (if v == 5 then 1 else 0) + (if v == 6 then 1 else 0) + (if v == 7 then 1 else 0) + (if v == 8 then 1 else 0) ≤ 1 := by decide
theorem cntF_s {p : Nat → Bool} {k r : Nat} : cntF p (k + 1) r 0 = (if p r then 1 else 0) + cntF p k (r + 1) 0 := by
  by_cases h : p r = true
  · rw [cntF_t h, if_pos h, cntF_add p k (r + 1) (0 + 1)]
  · rw [if_neg h, cntF_f (by simpa using h), Nat.zero_add]
theorem sum_cnt {od : Nat → Nat} : ∀ k r, (∀ q, r ≤ q → q < r + k → od q < 9) → cntF (fun q => od q == 1) k r 0 + cntF (fun q => od q == 2) k r 0 + cntF (fun q => od q == 3) k r 0 + cntF (fun q => od q == 4) k r 0 + cntF (fun q => od q == 5) k r 0 + cntF (fun q => od q == 6) k r 0 + cntF (fun q => od q == 7) k r 0 + cntF (fun q => od q == 8) k r 0 ≤ k
  | 0, _, _ => Nat.le_refl _
  | k + 1, r, h => by
    have h1 := sum_cnt k (r + 1) (fun q a b => h q (by omega) (by omega))
    have h2 := sum1 (od r) (h r (Nat.le_refl _) (by omega))
    rw [cntF_s, cntF_s, cntF_s, cntF_s, cntF_s, cntF_s, cntF_s, cntF_s]
    omega
theorem fin_chk (b1 b2 b3 b4 b5 b6 b7 b8 : Bool) : (if b1 then 1 else 0) + (if b2 then 2 else 0) + (if b3 then 3 else 0) + (if b4 then 4 else 0) + (if b5 then 5 else 0) + (if b6 then 6 else 0) + (if b7 then 7 else 0) + (if b8 then 8 else 0) ≤ 8 → (List.range 16).any (fun k => decide (1 ≤ k) && ((!b1 || k % 1 == 0) && (!b2 || k % 2 == 0) && (!b3 || k % 3 == 0) && (!b4 || k % 4 == 0) && (!b5 || k % 5 == 0) && (!b6 || k % 6 == 0) && (!b7 || k % 7 == 0) && (!b8 || k % 8 == 0))) = true := by
  cases b1 <;> cases b2 <;> cases b3 <;> cases b4 <;> cases b5 <;> cases b6 <;> cases b7 <;> cases b8 <;> decide
theorem lead_order {L : Nat → Nat} {n : Nat} (hL : ∀ p, p < n → L p < n) (hI : ∀ p q, p < n → q < n → L p = L q → p = q) (h8 : n ≤ 8) : ∃ k, k < 16 ∧ 1 ≤ k ∧ ∀ p, p < n → itf L k p = p := by
  obtain ⟨od, hod⟩ := Classical.axiomOfChoice (ord_ex hL hI h8)
  have same : ∀ p i, p < n → od (itf L i p) = od p := by
    intro p i hp
    have hq := itf_lt hL i p hp
    obtain ⟨a1, a2, a3, a4⟩ := hod p hp
    obtain ⟨b1, b2, b3, b4⟩ := hod _ hq
    have sw : ∀ k, itf L k (itf L i p) = itf L i p ↔ itf L k p = p := by
      intro k
      rw [← itf_add, Nat.add_comm, itf_add]
      constructor
      · intro e; exact itf_inj hL hI i _ _ (itf_lt hL k p hp) hp e
      · intro e; rw [e]
    rcases Nat.lt_or_ge (od (itf L i p)) (od p) with z | z
    · exact absurd ((sw _).mp b3) (a4 _ b1 z)
    · rcases Nat.lt_or_ge (od p) (od (itf L i p)) with z2 | z2
      · exact absurd ((sw _).mpr a3) (b4 _ a1 z2)
      · omega
  have cn : ∀ o, (∃ p, p < n ∧ od p = o) → o ≤ cntF (fun q => od q == o) n 0 0 := by
    rintro o ⟨p, hp, rfl⟩
    obtain ⟨a1, a2, a3, a4⟩ := hod p hp
    exact cnt_inj (f := fun i => itf L i p) (fun i _ => ⟨itf_lt hL i p hp, by rw [beq_iff_eq]; exact same p i hp⟩) (fun i j hij hj e => a4 (j - i) (by omega) (by omega) (itf_sub hL hI hp hij e))
  have sm := sum_cnt (od := od) n 0 (fun q _ hq => by have := (hod q (by omega)).2.1; omega)
  have dec : ∀ P : Prop, ∃ b : Bool, b = true ↔ P := fun P => by
    by_cases h : P
    · exact ⟨true, fun _ => h, fun _ => rfl⟩
    · exact ⟨false, fun z => absurd z (by decide), fun z => absurd z h⟩
  have le : ∀ (o : Nat) (b : Bool), (b = true ↔ ∃ p, p < n ∧ od p = o) → (if b then o else 0) ≤ cntF (fun q => od q == o) n 0 0 := fun o b hb => by
    by_cases z : b = true
    · rw [if_pos z]; exact cn o (hb.mp z)
    · rw [if_neg z]; exact Nat.zero_le _
  obtain ⟨b1, h1⟩ := dec (∃ p, p < n ∧ od p = 1)
  obtain ⟨b2, h2⟩ := dec (∃ p, p < n ∧ od p = 2)
  obtain ⟨b3, h3⟩ := dec (∃ p, p < n ∧ od p = 3)
  obtain ⟨b4, h4⟩ := dec (∃ p, p < n ∧ od p = 4)
  obtain ⟨b5, h5⟩ := dec (∃ p, p < n ∧ od p = 5)
  obtain ⟨b6, h6⟩ := dec (∃ p, p < n ∧ od p = 6)
  obtain ⟨b7, h7⟩ := dec (∃ p, p < n ∧ od p = 7)
  obtain ⟨b8, h8'⟩ := dec (∃ p, p < n ∧ od p = 8)
  have l1 := le 1 b1 h1; have l2 := le 2 b2 h2; have l3 := le 3 b3 h3; have l4 := le 4 b4 h4
  have l5 := le 5 b5 h5; have l6 := le 6 b6 h6; have l7 := le 7 b7 h7; have l8 := le 8 b8 h8'
  obtain ⟨k, k1, hk⟩ := List.any_eq_true.mp (fin_chk b1 b2 b3 b4 b5 b6 b7 b8 (by omega))
  replace k1 := List.mem_range.mp k1
  rw [Bool.and_eq_true, decide_eq_true_eq] at hk
  obtain ⟨k2, hk⟩ := hk
  have tk : ∀ (b : Bool) (o : Nat), (!b || k % o == 0) = true → b = true → k % o = 0 := fun b o z zb => by
    rw [zb] at z; simpa using z
  simp only [Bool.and_eq_true] at hk
  obtain ⟨⟨⟨⟨⟨⟨⟨q1, q2⟩, q3⟩, q4⟩, q5⟩, q6⟩, q7⟩, q8⟩ := hk
  replace q1 := tk b1 1 q1; replace q2 := tk b2 2 q2; replace q3 := tk b3 3 q3; replace q4 := tk b4 4 q4
  replace q5 := tk b5 5 q5; replace q6 := tk b6 6 q6; replace q7 := tk b7 7 q7; replace q8 := tk b8 8 q8
  refine ⟨k, k1, k2, fun p hp => ?_⟩
  obtain ⟨a1, a2, a3, a4⟩ := hod p hp
  have hm : k % od p = 0 := by
    have : od p = 1 ∨ od p = 2 ∨ od p = 3 ∨ od p = 4 ∨ od p = 5 ∨ od p = 6 ∨ od p = 7 ∨ od p = 8 := by omega
    rcases this with e | e | e | e | e | e | e | e
    · rw [e]; exact q1 (h1.mpr ⟨p, hp, e⟩)
    · rw [e]; exact q2 (h2.mpr ⟨p, hp, e⟩)
    · rw [e]; exact q3 (h3.mpr ⟨p, hp, e⟩)
    · rw [e]; exact q4 (h4.mpr ⟨p, hp, e⟩)
    · rw [e]; exact q5 (h5.mpr ⟨p, hp, e⟩)
    · rw [e]; exact q6 (h6.mpr ⟨p, hp, e⟩)
    · rw [e]; exact q7 (h7.mpr ⟨p, hp, e⟩)
    · rw [e]; exact q8 (h8'.mpr ⟨p, hp, e⟩)
  obtain ⟨m, hm2⟩ : ∃ m, k = od p * m := ⟨k / od p, by have := Nat.div_add_mod k (od p); omega⟩
  have mul : ∀ m, itf L (od p * m) p = p := by
    intro m
    induction m with
    | zero => rw [Nat.mul_zero]; rfl
    | succ m ih => rw [Nat.mul_succ, itf_add, ih]; exact a3
  rw [hm2]; exact mul m
