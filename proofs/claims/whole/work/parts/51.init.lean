/-! the two fresh objects -/
theorem zr_same (σ : St) (n : Nat) : zr σ n n = fun _ => 0 := by unfold zr; rw [if_pos rfl]
theorem zr_ne (σ : St) {n c : Nat} (h : c ≠ n) : zr σ n c = σ c := by unfold zr; rw [if_neg h]
theorem sj_lt (σ τ : St) {n c : Nat} (h : c < n) : sj σ n τ c = σ c := by unfold sj; rw [if_pos h]
theorem sj_ge (σ τ : St) (n i : Nat) : sj σ n τ (n + i) = τ i := by unfold sj; rw [if_neg (by omega)]; congr 1; omega
theorem zs2 {σ σ1 σ2 τ : St} {n : Nat} (e1 : σ1 = zr σ n) (e2 : σ2 = sj σ1 n τ) : (∀ c, c < n → σ2 c = σ c) ∧ ∀ i, σ2 (n + i) = τ i :=
  ⟨fun c hc => by rw [e2, sj_lt _ _ hc, e1, zr_ne _ (by omega)], fun i => by rw [e2, sj_ge]⟩
theorem s_i1 {N : Nat} {σ : St} {post : St → Prop} (hp : ∀ σ' : St, σ' 0 3 = 0 → post σ') : wp_X1_init N σ post := by
  intro σ1 e1 σ2 e2 σ3 e3 σ4 e4
  exact hp σ4 (by rw [e4, zr_ne _ (by decide), e3, zr_ne _ (by decide), e2, zr_ne _ (by decide), e1, up_same])
theorem s_i4 {σ : St} {post : St → Prop} (hp : ∀ σ' : St, suOK σ' 0 (frS 6) → post σ') : wp_X4_init σ post := by
  intro σ1 e1 σ2 e2 σ3 e3 σ4 e4 σ5 e5 σ6 e6 σ7 e7 σ8 e8 σ9 e9
  refine s_i1 (fun τ10 t10 => ?_)
  intro σ10 e10 σ11 e11
  refine s_i1 (fun τ12 t12 => ?_)
  intro σ12 e12 σ13 e13
  refine s_i1 (fun τ14 t14 => ?_)
  intro σ14 e14
  have z1 := zs2 e9 e10
  have z2 := zs2 e11 e12
  have z3 := zs2 e13 e14
  have f : ∀ c, c < 4 → σ14 c = σ8 c := fun c hc => by rw [z3.1 c (by omega), z2.1 c (by omega), z1.1 c hc]
  have f0 : σ14 0 = σ7 0 := by rw [f 0 (by decide), e8, zr_ne _ (by decide)]
  have f2 : σ14 2 = fun _ => 0 := by rw [f 2 (by decide), e8, zr_ne _ (by decide), e7, up_ne _ (by decide), e6, zr_same]
  have f3 : σ14 3 = fun _ => 0 := by rw [f 3 (by decide), e8, zr_same]
  have g4 : σ14 4 3 = 0 := by
    rw [z3.1 4 (by decide), z2.1 4 (by decide)]
    have := z1.2 0
    rw [show σ10 4 = τ10 0 from this]; exact t10
  have g8 : σ14 8 3 = 0 := by
    rw [z3.1 8 (by decide)]
    have := z2.2 0
    rw [show σ12 8 = τ12 0 from this]; exact t12
  have g12 : σ14 12 3 = 0 := by
    have := z3.2 0
    rw [show σ14 12 = τ14 0 from this]; exact t14
  refine hp σ14 ⟨⟨?_, ?_, ?_, ?_, ?_, fun i hi => absurd hi (Nat.not_lt_zero _), fun i hi => ?_⟩, fun i hi => ?_, ⟨g4, fun i hi => absurd hi (Nat.not_lt_zero _)⟩, ⟨g8, fun i hi => absurd hi (Nat.not_lt_zero _)⟩, ⟨g12, fun i hi => absurd hi (Nat.not_lt_zero _)⟩⟩
  · rw [f0, e7, up_j _ (by decide), e6, zr_ne _ (by decide), e5, up_j _ (by decide), e4, up_j _ (by decide), e3, up_j _ (by decide), e2, zr_ne _ (by decide), e1, up_same]; rfl
  · rw [f0, e7, up_j _ (by decide), e6, zr_ne _ (by decide), e5, up_j _ (by decide), e4, up_j _ (by decide), e3, up_same]; rfl
  · rw [f0, e7, up_j _ (by decide), e6, zr_ne _ (by decide), e5, up_j _ (by decide), e4, up_same]; rfl
  · rw [f0, e7, up_j _ (by decide), e6, zr_ne _ (by decide), e5, up_same]; rfl
  · rw [f0, e7, up_same]; rfl
  · rw [Nat.zero_add, f2]; rfl
  · rw [Nat.zero_add, f3]; rfl
theorem s_i3 {σ : St} {post : St → Prop} (hp : ∀ σ' : St, (∀ j : Int, σ' 1 j = 0) → post σ') : wp_X3_init σ post := by
  intro σ1 e1
  exact hp σ1 (fun j => by rw [e1, zr_same])
theorem s_i7 {σ : St} {post : St → Prop} (hp : ∀ σ' : St, (∀ j : Int, σ' 6 j = 0) → post σ') : wp_X7_init σ post := by
  intro σ1 e1 σ2 e2 σ3 e3 σ4 e4 σ5 e5 σ6 e6 σ7 e7
  refine s_i3 (fun τ8 t8 => ?_)
  intro σ8 e8 σ9 e9
  refine hp σ9 (fun j => ?_)
  rw [e9, up_c _ _ (by decide), show (6 : Nat) = 5 + 1 from rfl, (zs2 e7 e8).2 1]; exact t8 j
theorem s_i0 {σ : St} {post : St → Prop} (hp : ∀ σ' : St, (∀ j : Int, σ' 9 j = 0) → post σ') : wp_X0_init σ post := by
  intro σ1 e1 σ2 e2 σ3 e3
  refine s_i7 (fun τ4 t4 => ?_)
  intro σ4 e4 σ5 e5
  refine s_i3 (fun τ6 t6 => ?_)
  intro σ6 e6 σ7 e7 σ8 e8 σ9 e9
  refine hp σ9 (fun j => ?_)
  rw [e9, up_c _ _ (by decide), e8, up_c _ _ (by decide), e7, zr_ne _ (by decide), show (9 : Nat) = 8 + 1 from rfl, (zs2 e5 e6).2 1]; exact t6 j
theorem s_i5 {σ : St} {post : St → Prop} (hp : ∀ σ' : St, σ' 0 0 = 0 → post σ') : wp_X5_init σ post := by
  intro σ1 e1 σ2 e2 σ3 e3 σ4 e4 σ5 e5 σ6 e6 σ7 e7 σ8 e8
  refine hp σ8 ?_
  rw [e8, up_j _ (by decide), e7, zr_ne _ (by decide), e6, up_j _ (by decide), e5, zr_ne _ (by decide), e4, zr_ne _ (by decide), e3, up_j _ (by decide), e2, zr_ne _ (by decide), e1, up_same]
theorem s_i6 {σ : St} {post : St → Prop} (hp : ∀ σ' : St, σ' 0 0 = -1 → σ' 0 1 = 0 → (∀ j : Int, σ' 1 j = 0) → post σ') : wp_X6_init σ post := by
  intro σ1 e1 σ2 e2 σ3 e3
  refine hp σ3 ?_ ?_ (fun j => by rw [e3, zr_same])
  · rw [e3, zr_ne _ (by decide), e2, up_j _ (by decide), e1, up_same]
  · rw [e3, zr_ne _ (by decide), e2, up_same]
def ini8 (σ : St) : Prop := suOK σ 1 (frS 6) ∧ σ 0 8 = 0 ∧ σ 0 9 = 1 ∧ (∀ j : Int, σ 55 j = 0) ∧ (∀ j : Int, σ 62 j = 0) ∧ (∀ j : Int, σ 72 j = 0) ∧ σ 74 0 = 0 ∧ ∀ t : Nat, t < 6 → σ (80 + 2 * t) 0 = -1 ∧ σ (80 + 2 * t) 1 = 0 ∧ ∀ j : Int, σ (81 + 2 * t) j = 0
theorem s_i8 {σ : St} {post : St → Prop} (hp : ∀ σ' : St, ini8 σ' → post σ') : wp_X8_init σ post := by
  intro σ1 e1
  refine s_i4 (fun τ2 t2 => ?_)
  intro σ2 e2 σ3 e3
  refine s_i4 (fun τ4 t4 => ?_)
  intro σ4 e4 σ5 e5
  refine s_i4 (fun τ6 t6 => ?_)
  intro σ6 e6 σ7 e7
  refine s_i7 (fun τ8 t8 => ?_)
  intro σ8 e8 σ9 e9
  refine s_i7 (fun τ10 t10 => ?_)
  intro σ10 e10 σ11 e11
  refine s_i0 (fun τ12 t12 => ?_)
  intro σ12 e12 σ13 e13
  refine s_i5 (fun τ14 t14 => ?_)
  intro σ14 e14 σ15 e15 σ16 e16 σ17 e17 σ18 e18
  refine s_i6 (fun τ19 a19 b19 c19 => ?_)
  intro σ19 e19 σ20 e20
  refine s_i6 (fun τ21 a21 b21 c21 => ?_)
  intro σ21 e21 σ22 e22
  refine s_i6 (fun τ23 a23 b23 c23 => ?_)
  intro σ23 e23 σ24 e24
  refine s_i6 (fun τ25 a25 b25 c25 => ?_)
  intro σ25 e25 σ26 e26
  refine s_i6 (fun τ27 a27 b27 c27 => ?_)
  intro σ27 e27 σ28 e28
  refine s_i6 (fun τ29 a29 b29 c29 => ?_)
  intro σ29 e29
  have y1 := zs2 e1 e2; have y3 := zs2 e3 e4; have y5 := zs2 e5 e6; have y7 := zs2 e7 e8; have y9 := zs2 e9 e10; have y11 := zs2 e11 e12; have y13 := zs2 e13 e14
  have y18 := zs2 e18 e19; have y20 := zs2 e20 e21; have y22 := zs2 e22 e23; have y24 := zs2 e24 e25; have y26 := zs2 e26 e27; have y28 := zs2 e28 e29
  have F90 : ∀ c, c < 90 → σ29 c = σ27 c := fun c h => y28.1 c h
  have F88 : ∀ c, c < 88 → σ29 c = σ25 c := fun c h => (F90 c (by omega)).trans (y26.1 c h)
  have F86 : ∀ c, c < 86 → σ29 c = σ23 c := fun c h => (F88 c (by omega)).trans (y24.1 c h)
  have F84 : ∀ c, c < 84 → σ29 c = σ21 c := fun c h => (F86 c (by omega)).trans (y22.1 c h)
  have F82 : ∀ c, c < 82 → σ29 c = σ19 c := fun c h => (F84 c (by omega)).trans (y20.1 c h)
  have F80 : ∀ c, c < 80 → σ29 c = σ17 c := fun c h => (F82 c (by omega)).trans (y18.1 c h)
  have F79 : ∀ c, c ≠ 0 → c < 79 → σ29 c = σ14 c := fun c h0 h => by rw [F80 c (by omega), e17, up_ne _ h0, e16, up_ne _ h0, e15, zr_ne _ (by omega)]
  have F74 : ∀ c, c ≠ 0 → c < 74 → σ29 c = σ12 c := fun c h0 h => (F79 c h0 (by omega)).trans (y13.1 c h)
  have F63 : ∀ c, c ≠ 0 → c < 63 → σ29 c = σ10 c := fun c h0 h => (F74 c h0 (by omega)).trans (y11.1 c h)
  have F56 : ∀ c, c ≠ 0 → c < 56 → σ29 c = σ8 c := fun c h0 h => (F63 c h0 (by omega)).trans (y9.1 c h)
  have F49 : ∀ c, c ≠ 0 → c < 49 → σ29 c = σ6 c := fun c h0 h => (F56 c h0 (by omega)).trans (y7.1 c h)
  have F17 : ∀ c, c ≠ 0 → c < 17 → σ29 c = σ2 c := fun c h0 h => (F49 c h0 (by omega)).trans ((y5.1 c (by omega)).trans (y3.1 c h))
  refine hp σ29 ⟨suOK_cong t2 (fun k hk => ?_), ?_, ?_, fun j => ?_, fun j => ?_, fun j => ?_, ?_, fun t ht => ?_⟩
  · rw [F17 _ (by omega) (by omega), y1.2 k, Nat.zero_add]
  · rw [F80 0 (by decide), e17, up_j _ (by decide), e16, up_same]
  · rw [F80 0 (by decide), e17, up_same]
  · rw [F56 55 (by decide) (by decide), show (55 : Nat) = 49 + 6 from rfl, y7.2 6]; exact t8 j
  · rw [F63 62 (by decide) (by decide), show (62 : Nat) = 56 + 6 from rfl, y9.2 6]; exact t10 j
  · rw [F74 72 (by decide) (by decide), show (72 : Nat) = 63 + 9 from rfl, y11.2 9]; exact t12 j
  · rw [F79 74 (by decide) (by decide), show (74 : Nat) = 74 + 0 from rfl, y13.2 0]; exact t14
  · match t, ht with
    | 0, _ =>
      have q0 : σ29 80 = τ19 0 := (F82 80 (by decide)).trans (y18.2 0)
      have q1 : σ29 81 = τ19 1 := (F82 81 (by decide)).trans (y18.2 1)
      exact ⟨by show σ29 80 0 = _; rw [q0]; exact a19, by show σ29 80 1 = _; rw [q0]; exact b19, fun j => by show σ29 81 j = _; rw [q1]; exact c19 j⟩
    | 1, _ =>
      have q0 : σ29 82 = τ21 0 := (F84 82 (by decide)).trans (y20.2 0)
      have q1 : σ29 83 = τ21 1 := (F84 83 (by decide)).trans (y20.2 1)
      exact ⟨by show σ29 82 0 = _; rw [q0]; exact a21, by show σ29 82 1 = _; rw [q0]; exact b21, fun j => by show σ29 83 j = _; rw [q1]; exact c21 j⟩
    | 2, _ =>
      have q0 : σ29 84 = τ23 0 := (F86 84 (by decide)).trans (y22.2 0)
      have q1 : σ29 85 = τ23 1 := (F86 85 (by decide)).trans (y22.2 1)
      exact ⟨by show σ29 84 0 = _; rw [q0]; exact a23, by show σ29 84 1 = _; rw [q0]; exact b23, fun j => by show σ29 85 j = _; rw [q1]; exact c23 j⟩
    | 3, _ =>
      have q0 : σ29 86 = τ25 0 := (F88 86 (by decide)).trans (y24.2 0)
      have q1 : σ29 87 = τ25 1 := (F88 87 (by decide)).trans (y24.2 1)
      exact ⟨by show σ29 86 0 = _; rw [q0]; exact a25, by show σ29 86 1 = _; rw [q0]; exact b25, fun j => by show σ29 87 j = _; rw [q1]; exact c25 j⟩
    | 4, _ =>
      have q0 : σ29 88 = τ27 0 := (F90 88 (by decide)).trans (y26.2 0)
      have q1 : σ29 89 = τ27 1 := (F90 89 (by decide)).trans (y26.2 1)
      exact ⟨by show σ29 88 0 = _; rw [q0]; exact a27, by show σ29 88 1 = _; rw [q0]; exact b27, fun j => by show σ29 89 j = _; rw [q1]; exact c27 j⟩
    | 5, _ =>
      have q0 : σ29 90 = τ29 0 := y28.2 0
      have q1 : σ29 91 = τ29 1 := y28.2 1
      exact ⟨by show σ29 90 0 = _; rw [q0]; exact a29, by show σ29 90 1 = _; rw [q0]; exact b29, fun j => by show σ29 91 j = _; rw [q1]; exact c29 j⟩
def ini9 (τ : St) : Prop := moOK (τ 1) (frS 6) ∧ τ 0 2 = 0 ∧ τ 0 6 = 0 ∧ (∀ j : Int, τ 10 j = 0) ∧ (∀ j : Int, τ 11 j = 0) ∧ ∀ j : Int, τ 12 j = 0
theorem s_i9 {σ : St} (h0 : ∀ j : Int, σ 0 j = 0) {post : St → Prop} (hp : ∀ σ' : St, ini9 σ' → post σ') : wp_X9_init σ post := by
  intro σ1 e1 σ2 e2 σ3 e3 σ4 e4 σ5 e5 σ6 e6 σ7 e7 σ8 e8 σ9 e9 σ10 e10 σ11 e11 σ12 e12 σ13 e13
  refine s_mbegins (n := 6) (fun σ' h1 h2 => hp σ' ⟨h1, ?_, ?_, fun j => ?_, fun j => ?_, fun j => ?_⟩)
  · rw [h2 0 (by decide), e13, zr_ne _ (by decide), e12, zr_ne _ (by decide), e11, zr_ne _ (by decide), e10, zr_ne _ (by decide), e9, zr_ne _ (by decide), e8, zr_ne _ (by decide), e7, zr_ne _ (by decide), e6, zr_ne _ (by decide), e5, zr_ne _ (by decide), e4, zr_ne _ (by decide), e3, zr_ne _ (by decide), e2, zr_ne _ (by decide), e1, zr_ne _ (by decide)]; exact h0 2
  · rw [h2 0 (by decide), e13, zr_ne _ (by decide), e12, zr_ne _ (by decide), e11, zr_ne _ (by decide), e10, zr_ne _ (by decide), e9, zr_ne _ (by decide), e8, zr_ne _ (by decide), e7, zr_ne _ (by decide), e6, zr_ne _ (by decide), e5, zr_ne _ (by decide), e4, zr_ne _ (by decide), e3, zr_ne _ (by decide), e2, zr_ne _ (by decide), e1, zr_ne _ (by decide)]; exact h0 6
  · rw [h2 10 (by decide), e13, zr_ne _ (by decide), e12, zr_ne _ (by decide), e11, zr_ne _ (by decide), e10, zr_same]
  · rw [h2 11 (by decide), e13, zr_ne _ (by decide), e12, zr_ne _ (by decide), e11, zr_same]
  · rw [h2 12 (by decide), e13, zr_ne _ (by decide), e12, zr_same]
theorem RR_ini {σ τ : St} (h : ini8 σ) (g : ini9 τ) : RR (frS 6) σ τ := by
  obtain ⟨h1, h2, h3, h4, h5, h6, h7, h8⟩ := h
  obtain ⟨g1, g2, g3, g4, g5, g6⟩ := g
  refine ⟨frS_wf (by decide) (by decide), h1, g1, Or.inl ⟨h2, g2⟩, ⟨Or.inl h3, fun j _ => h4 j⟩, fun j _ => h5 j, fun j _ => h6 j, ⟨0, by decide, h7, g3, fun i hi => absurd hi (Nat.not_lt_zero _)⟩, fun t ht => ?_⟩
  obtain ⟨q1, q2, q3⟩ := h8 t ht
  refine ⟨-1, 0, by decide, by decide, by decide, fun _ => rfl, q1, q2, ?_, ?_, fun i hi => ?_⟩
  · rw [g4]; rfl
  · rw [g5]; rfl
  · rw [q3, g6]; exact ⟨rfl, rl0⟩
