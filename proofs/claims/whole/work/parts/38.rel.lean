/-! blocks of cells -/
def blk (o l : Nat) : List Nat := (List.range l).map (fun i => o + i)
theorem blk_get {o l i : Nat} (h : i < l) : (blk o l)[i]? = some (o + i) := by simp [blk, h]
theorem blk_nm {o l c : Nat} (h : c < o ∨ o + l ≤ c) : c ∉ blk o l := by
  simp only [blk, List.mem_map, List.mem_range]
  rintro ⟨i, hi, e⟩; omega
theorem ixo_app : ∀ {a b : List Nat} {k : Nat}, ixo (a ++ b) k = match ixo a k with | some i => some i | none => (ixo b k).map (· + a.length)
  | [], b, k => by
    simp only [List.nil_append, ixo, List.length_nil, Nat.add_zero]
    cases ixo b k <;> rfl
  | x :: r, b, k => by
    simp only [List.cons_append, ixo]
    by_cases h : x = k
    · simp [h]
    · rw [if_neg h, if_neg h, ixo_app]
      cases ixo r k with
      | some i => rfl
      | none =>
        cases ixo b k with
        | none => rfl
        | some j => simp [Nat.add_assoc]
theorem blk_nd (o l : Nat) : va_nd (blk o l) = true := by
  have : ∀ (xs : List Nat), xs.Nodup → va_nd xs = true := by
    intro xs
    induction xs with
    | nil => intro _; rfl
    | cons a r ih =>
      intro h
      have h2 := List.nodup_cons.mp h
      simp only [va_nd, Bool.and_eq_true, ih h2.2, and_true]
      simpa using h2.1
  apply this
  unfold blk
  have hr := List.nodup_range (n := l)
  unfold List.Nodup at hr ⊢
  rw [List.pairwise_map]
  exact hr.imp (fun h e => h (by omega))
theorem ixo_blk {o l c : Nat} : ixo (blk o l) c = if o ≤ c ∧ c < o + l then some (c - o) else none := by
  by_cases h : o ≤ c ∧ c < o + l
  · rw [if_pos h]
    exact ixo_at c (c - o) (blk_nd o l) (by rw [blk_get (by omega)]; congr 1; omega)
  · rw [if_neg h]; exact ixo_nm (blk_nm (by omega))
theorem pk_blk {σ : St} {o l k : Nat} (h : k < l) : pk σ (blk o l) k = σ (o + k) := by
  unfold pk; rw [List.getD_eq_getElem?_getD, blk_get h]; rfl
theorem mrg_blk {σ τ : St} {o l c : Nat} : mrg σ (blk o l) τ c = if o ≤ c ∧ c < o + l then τ (c - o) else σ c := by
  unfold mrg; rw [ixo_blk]
  by_cases h : o ≤ c ∧ c < o + l
  · rw [if_pos h, if_pos h]
  · rw [if_neg h, if_neg h]
theorem blk_len (o l : Nat) : (blk o l).length = l := by simp [blk]
theorem pk_b2 {σ : St} {o l o2 l2 k : Nat} (h : k < l + l2) : pk σ (blk o l ++ blk o2 l2) k = if k < l then σ (o + k) else σ (o2 + (k - l)) := by
  unfold pk; rw [List.getD_eq_getElem?_getD]
  by_cases q : k < l
  · rw [if_pos q, List.getElem?_append_left (by rw [blk_len]; exact q), blk_get q]; rfl
  · rw [if_neg q, List.getElem?_append_right (by rw [blk_len]; omega), blk_len, blk_get (by omega)]; rfl
theorem mrg_b2 {σ τ : St} {o l o2 l2 c : Nat} : mrg σ (blk o l ++ blk o2 l2) τ c = if o ≤ c ∧ c < o + l then τ (c - o) else if o2 ≤ c ∧ c < o2 + l2 then τ (l + (c - o2)) else σ c := by
  unfold mrg; rw [ixo_app, ixo_blk, ixo_blk]
  by_cases h : o ≤ c ∧ c < o + l
  · rw [if_pos h, if_pos h]
  · rw [if_neg h, if_neg h]
    by_cases h2 : o2 ≤ c ∧ c < o2 + l2
    · rw [if_pos h2, if_pos h2]; simp only [Option.map_some, blk_len]; rw [Nat.add_comm]
    · rw [if_neg h2, if_neg h2]; rfl
/-! what both sides hold -/
def moOK (f : Int → Int) (s : Su) : Prop := mcOK f s.1 ∧ f 5 = (sSe s).1 ∧ f 6 = (sEv s).1 ∧ f 7 = (sBk s).1 ∧ (∀ i : Nat, i < 8 → f (36 + (i : Int)) = sP s i) ∧
  (∀ i, i < (sSe s).1 → f (44 + 3 * (i : Int)) = (sSe s).2.1 i ∧ f (44 + 3 * (i : Int) + 1) = (sSe s).2.2.1 i ∧ f (44 + 3 * (i : Int) + 2) = (sSe s).2.2.2 i) ∧
  (∀ i, i < (sEv s).1 → f (59 + 2 * (i : Int)) = (sEv s).2.1 i ∧ f (59 + 2 * (i : Int) + 1) = (sEv s).2.2.1 i) ∧
  (∀ i, i < (sBk s).1 → f (75 + 2 * (i : Int)) = (sBk s).2.1 i ∧ f (75 + 2 * (i : Int) + 1) = (sBk s).2.2.1 i)
def imOK (σ τ : St) : Prop := (σ 0 8 = 0 ∧ τ 0 2 = 0) ∨ (σ 0 8 = 1 ∧ τ 0 2 = 1 ∧ ∃ s, wfS s ∧ suOK σ 17 s ∧ moOK (τ 2) s)
def thOK (s : Su) (σ : St) : Prop := (σ 0 9 = 1 ∨ (σ 0 9 = 0 ∧ touOK σ 49 s.1 ∧ cmOK σ 49 (lastC s.1))) ∧ ∀ j : Nat, j < 512 → σ 55 (j : Int) = 0
def txOK (σ τ : St) : Prop := ∃ len : Nat, len ≤ 100 ∧ σ 74 0 = len ∧ τ 0 6 = len ∧ ∀ i, i < len → σ 75 (i : Int) = τ 5 (i : Int) ∧ 0 ≤ τ 5 (i : Int) ∧ τ 5 (i : Int) ≤ 127
def tpOK (σ τ : St) : Prop := ∀ t : Nat, t < 6 → ∃ (so : Int) (ln : Nat), -1 ≤ so ∧ so ≤ 4 ∧ ln ≤ 60 ∧ (so = -1 → ln = 0) ∧ σ (80 + 2 * t) 0 = so ∧ σ (80 + 2 * t) 1 = ln ∧ τ 10 (t : Int) = so + 1 ∧ τ 11 (t : Int) = ln ∧ ∀ i : Nat, i < 60 → σ (81 + 2 * t) (i : Int) = τ 12 (60 * (t : Int) + i) ∧ rl (τ 12 (60 * (t : Int) + i))
def RR (s : Su) (σ τ : St) : Prop := wfS s ∧ suOK σ 1 s ∧ moOK (τ 1) s ∧ imOK σ τ ∧ thOK s σ ∧ (∀ j : Nat, j < 512 → σ 62 (j : Int) = 0) ∧ (∀ j : Nat, j < 512 → σ 72 (j : Int) = 0) ∧ txOK σ τ ∧ tpOK σ τ
theorem imOK_cong {σ τ σ' τ' : St} (h : imOK σ τ) (a : σ' 0 8 = σ 0 8) (b : ∀ k, 17 ≤ k → k < 33 → σ' k = σ k) (c : τ' 0 2 = τ 0 2) (d : τ' 2 = τ 2) : imOK σ' τ' := by
  unfold imOK
  rw [a, c, d]
  rcases h with h | ⟨h1, h2, s, h3, h4, h5⟩
  · exact Or.inl h
  · exact Or.inr ⟨h1, h2, s, h3, suOK_cong h4 (fun k hk => b _ (by omega) (by omega)), h5⟩
theorem txOK_cong {σ τ σ' τ' : St} (h : txOK σ τ) (a : σ' 74 = σ 74) (b : σ' 75 = σ 75) (c : τ' 0 6 = τ 0 6) (d : τ' 5 = τ 5) : txOK σ' τ' := by
  unfold txOK; rw [a, b, c, d]; exact h
theorem tpOK_cong {σ τ σ' τ' : St} (h : tpOK σ τ) (a : ∀ k, 80 ≤ k → σ' k = σ k) (b : τ' 10 = τ 10) (c : τ' 11 = τ 11) (d : τ' 12 = τ 12) : tpOK σ' τ' := by
  intro t ht
  obtain ⟨so, ln, h1, h2, h3, h4, h5, h6, h7, h8, h9⟩ := h t ht
  refine ⟨so, ln, h1, h2, h3, h4, ?_, ?_, ?_, ?_, ?_⟩
  · rw [a _ (by omega)]; exact h5
  · rw [a _ (by omega)]; exact h6
  · rw [b]; exact h7
  · rw [c]; exact h8
  · rw [a _ (by omega), d]; exact h9
/-- the set-up becomes another one; all else stays -/
theorem RR_put {s s' : Su} {σ τ σ' τ' : St} (h : RR s σ τ) (hw : wfS s') (h1 : suOK σ' 1 s') (h2 : moOK (τ' 1) s') (h3 : σ' 0 9 = 1) (h4 : σ' 0 8 = σ 0 8) (h5 : ∀ k, 17 ≤ k → σ' k = σ k) (h6 : ∀ j : Int, j = 2 ∨ j = 6 → τ' 0 j = τ 0 j) (h7 : ∀ d, d = 2 ∨ d = 5 ∨ d = 10 ∨ d = 11 ∨ d = 12 → τ' d = τ d) : RR s' σ' τ' := by
  obtain ⟨a1, a2, a3, a4, a5, a6, a7, a8, a9⟩ := h
  refine ⟨hw, h1, h2, imOK_cong a4 h4 (fun k hk _ => h5 k hk) (h6 2 (by simp)) (h7 2 (by simp)), ⟨Or.inl h3, fun j hj => by rw [h5 55 (by decide)]; exact a5.2 j hj⟩, fun j hj => by rw [h5 62 (by decide)]; exact a6 j hj, fun j hj => by rw [h5 72 (by decide)]; exact a7 j hj, txOK_cong a8 (h5 74 (by decide)) (h5 75 (by decide)) (h6 6 (by simp)) (h7 5 (by simp)), tpOK_cong a9 (fun k hk => h5 k (by omega)) (h7 10 (by simp)) (h7 11 (by simp)) (h7 12 (by simp))⟩
/-- nothing of the set-up's config changes: the touch stays as it is -/
theorem RR_put2 {s s' : Su} {σ τ σ' τ' : St} (h : RR s σ τ) (hw : wfS s') (hc : s'.1 = s.1) (h1 : suOK σ' 1 s') (h2 : moOK (τ' 1) s') (h4 : ∀ j, σ' 0 j = σ 0 j) (h5 : ∀ k, 17 ≤ k → σ' k = σ k) (h6 : ∀ j : Int, j = 2 ∨ j = 6 → τ' 0 j = τ 0 j) (h7 : ∀ d, d = 2 ∨ d = 5 ∨ d = 10 ∨ d = 11 ∨ d = 12 → τ' d = τ d) : RR s' σ' τ' := by
  obtain ⟨a1, a2, a3, a4, a5, a6, a7, a8, a9⟩ := h
  refine ⟨hw, h1, h2, imOK_cong a4 (h4 8) (fun k hk _ => h5 k hk) (h6 2 (by simp)) (h7 2 (by simp)), ⟨?_, fun j hj => by rw [h5 55 (by decide)]; exact a5.2 j hj⟩, fun j hj => by rw [h5 62 (by decide)]; exact a6 j hj, fun j hj => by rw [h5 72 (by decide)]; exact a7 j hj, txOK_cong a8 (h5 74 (by decide)) (h5 75 (by decide)) (h6 6 (by simp)) (h7 5 (by simp)), tpOK_cong a9 (fun k hk => h5 k (by omega)) (h7 10 (by simp)) (h7 11 (by simp)) (h7 12 (by simp))⟩
  rw [h4, hc]
  rcases a5.1 with z | ⟨z1, z2, z3⟩
  · exact Or.inl z
  · refine Or.inr ⟨z1, ?_, ?_⟩
    · unfold touOK tmOK twOK at *
      rw [h5 49 (by decide), h5 (49 + 1) (by decide), h5 (49 + 2) (by decide), h5 (49 + 3) (by decide)]; exact z2
    · unfold cmOK rwX at *
      rw [h5 49 (by decide), h5 (49 + 1) (by decide), h5 (49 + 4) (by decide)]; exact z3
theorem rgn {n : Nat} (h : n ≤ 1000) : rg (n : Int) := ⟨by omega, by omega⟩
theorem natOf {v : Int} {a b : Nat} (h1 : (a : Int) ≤ v) (h2 : v ≤ (b : Int)) : ∃ n : Nat, v = (n : Int) ∧ a ≤ n ∧ n ≤ b := ⟨v.toNat, by omega, by omega, by omega⟩
abbrev Kt : Type := St → St → Prop
/-- both calls' answers -/
abbrev An (K : Kt) (r1 r2 : Int) (σ τ : St) : Prop := rg r1 ∧ rg r2 ∧ r1 = r2 ∧ K σ τ
theorem s_mbegins {σ : St} {n : Nat} {post : St → Prop} (hp : ∀ σ' : St, moOK (σ' 1) (frS n) → (∀ c, c ≠ 1 → σ' c = σ c) → post σ') : wp_X9_begins σ n post := by
  have l : ∀ (fu k : Nat) (τ : St), k ≤ 91 → 91 < k + fu → (∀ i, i < k → τ 1 (i : Int) = 0) → (∀ c, c ≠ 1 → τ c = σ c) → wp_X9_begins_2 post fu n k τ := by
    intro fu
    induction fu with
    | zero => intro k τ a b; omega
    | succ fu ih =>
      intro k τ a b t1 tc
      unfold wp_X9_begins_2
      refine ⟨⟨by omega, by omega⟩, fun c => ?_, fun c => ⟨by omega, by omega, ?_⟩⟩
      · intro σ1 e1 σ2 e2 σ3 e3 σ4 e4
        have hk : k = 91 := by omega
        subst hk
        have g : ∀ i : Int, 0 ≤ i → i < 91 → i ≠ 0 → i ≠ 2 → i ≠ 3 → i ≠ 4 → σ4 1 i = 0 := fun i h0 h9 n0 n2 n3 n4 => by
          rw [e4, e3, e2, e1]; simp only [up, n0, n2, n3, n4, and_false, if_false]
          have := t1 i.toNat (by omega)
          rwa [Int.toNat_of_nonneg h0] at this
        refine hp σ4 ⟨⟨?_, ?_, ?_, ?_, ?_, fun i hi => absurd hi (Nat.not_lt_zero _), fun i hi => ?_⟩, ?_, ?_, ?_, fun i hi => ?_, fun i hi => absurd hi (Nat.not_lt_zero _), fun i hi => absurd hi (Nat.not_lt_zero _), fun i hi => absurd hi (Nat.not_lt_zero _)⟩ (fun c hc => by rw [e4, e3, e2, e1, up_ne _ hc, up_ne _ hc, up_ne _ hc, up_ne _ hc]; exact tc c hc)
        · rw [e4, e3, e2, e1]; simp [up, frS]
        · exact g 1 (by decide) (by decide) (by decide) (by decide) (by decide) (by decide)
        · rw [e4, e3, e2]; simp [up, frS]
        · rw [e4, e3]; simp [up, frS]
        · rw [e4]; simp [up, frS]
        · exact g _ (by omega) (by omega) (by omega) (by omega) (by omega) (by omega)
        · exact g 5 (by decide) (by decide) (by decide) (by decide) (by decide) (by decide)
        · exact g 6 (by decide) (by decide) (by decide) (by decide) (by decide) (by decide)
        · exact g 7 (by decide) (by decide) (by decide) (by decide) (by decide) (by decide)
        · exact g _ (by omega) (by omega) (by omega) (by omega) (by omega) (by omega)
      · intro τ1 u1
        rw [show ((k : Int) + 1) = ((k + 1 : Nat) : Int) by omega]
        refine ih (k + 1) τ1 (by omega) (by omega) (fun i hi => ?_) (fun c hc => by rw [u1, up_ne _ hc]; exact tc c hc)
        rw [u1, up_cell]
        by_cases z : (i : Int) = k
        · simp [z]
        · simp only [z, if_false]; exact t1 i (by omega)
  exact ⟨93, l 93 0 σ (Nat.zero_le _) (by omega) (fun i hi => absurd hi (Nat.not_lt_zero _)) (fun _ _ => rfl)⟩
theorem B1 : ([1, 2, 3, 4, 5, 6, 7, 8, 9, 10, 11, 12, 13, 14, 15, 16] : List Nat) = blk 1 16 := rfl
theorem op_bells {s : Su} {σ τ : St} (h : RR s σ τ) {v : Int} (hv : rg v) {K : Kt} (hk : ∀ s' σ' τ', RR s' σ' τ' → K σ' τ') : wp_X8_bells σ v (fun r1 σ1 => wp_X9_bells τ v (fun r2 τ1 => An K r1 r2 σ1 τ1)) := by
  have hn : σ 1 0 = cN s.1 := h.2.1.1.1
  have hn2 : τ 1 0 = cN s.1 := h.2.2.1.1.1
  have hwf := h.1.1
  have hrng : rg ((cN s.1 : Nat) : Int) := rgn (by have := hwf.2.1; omega)
  have hbad : ¬ (4 ≤ v ∧ v ≤ 8) → wp_X9_bells τ v (fun r2 τ1 => An K (-2) r2 σ τ1) := fun hb => by
    unfold wp_X9_bells
    refine s_within hv (by decide) (by decide) ?_
    rw [if_neg hb]
    exact ⟨by decide, fun c => absurd rfl c, fun _ => ⟨by decide, by decide, rfl, hk s σ τ h⟩⟩
  unfold wp_X8_bells
  refine ⟨hv, fun c => hbad (by omega), fun c => ⟨hv, fun c2 => ?_, fun c2 => hbad (by omega)⟩⟩
  obtain ⟨n, rfl, h4, h8⟩ := natOf (v := v) (a := 4) (b := 8) (by omega) (by omega)
  refine s_begin (fun τ1 t1 t2 => ?_)
  intro σ1 e1 σ2 e2
  rw [B1] at e1
  unfold wp_X9_bells
  refine s_within hv (by decide) (by decide) ?_
  rw [if_pos ⟨by omega, by omega⟩]
  refine ⟨by decide, fun _ => s_mbegins (fun υ u1 u2 => ?_), fun c => absurd c (by decide)⟩
  rw [hn, hn2]
  refine ⟨hrng, hrng, rfl, hk (frS n) σ2 υ (RR_put h (frS_wf h4 h8) ?_ u1 (by rw [e2, up_same]) ?_ (fun k hk => ?_) (fun j _ => by rw [u2 0 (by decide)]) (fun d hd => u2 d (by omega)))⟩
  · refine suOK_cong t1 (fun k hk => ?_)
    rw [e2, up_ne _ (by omega), e1, mrg_blk, if_pos ⟨by omega, by omega⟩]; congr 1; omega
  · rw [e2, up_at, if_neg (by decide), e1, mrg_blk, if_neg (by omega)]
  · rw [e2, up_ne _ (by omega), e1, mrg_blk, if_neg (by omega)]
