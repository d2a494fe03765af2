/-! the search's own rows -/
theorem TI_cong {T : Nat → Nat} {X Y : Nat → Int} {k : Nat} (e : ∀ q, q < k → X q = Y q) (h : TI T X k) : TI T Y k := by
  refine ⟨fun j hj => ?_, fun q hq hf => ?_, h.2.2⟩
  · rcases h.1 j hj with a | ⟨a, b⟩
    · exact Or.inl a
    · by_cases z : T j = 0
      · exact Or.inl z
      · refine Or.inr ⟨a, fun q hq => ?_⟩
        rw [← e q (by omega), ← e (T j - 1) (by omega)]; exact b q hq
  · rw [← e q hq]
    exact h.2.1 q hq (fun q' hq' => by rw [e q' (by omega), e q hq]; exact hf q' hq')
theorem tm1_cong {σ σ' : St} {c : Cf} (h : tmOK σ 1 c) (a : σ' 1 2 = σ 1 2) (b : σ' 3 = σ 3) (d : σ' 4 = σ 4) : tmOK σ' 1 c := by
  have b' : σ' (1 + 2) = σ (1 + 2) := b
  have d' : σ' (1 + 3) = σ (1 + 3) := d
  unfold tmOK at *
  rw [a, b', d']; exact h
/-- rows 0 .. w by P lie in cell 2, the table of them in cell 9 -/
def RQ (c : Cf) (P : Nat → Nat) (w : Nat) (σ : St) : Prop := tmOK σ 1 c ∧ (∀ q, q ≤ w → rwOK (cN c) (RF (cN c) P q) (σ 2 (q : Int))) ∧ ∃ T : Nat → Nat, TI T (fun r => σ 2 (r : Int)) (w + 1) ∧ ∀ j : Nat, j < 512 → σ 9 (j : Int) = T j
def SQ (c : Cf) (P : Nat → Nat) (w : Nat) (σ : St) : Prop := RQ c P w σ ∧ σ 1 1 = (w : Int)
/-- all else is as it was -/
def fr1 (σ0 σ : St) : Prop := (∀ d, d ≠ 1 → d ≠ 2 → d ≠ 9 → σ d = σ0 d) ∧ ∀ i : Int, i ≠ 1 → σ 1 i = σ0 1 i
theorem fr1_refl (σ : St) : fr1 σ σ := ⟨fun _ _ _ _ => rfl, fun _ _ => rfl⟩
theorem RQ_P {c : Cf} {P P' : Nat → Nat} {w : Nat} {σ : St} (h : RQ c P w σ) (e : ∀ z, z < w → P' z = P z) : RQ c P' w σ :=
  ⟨h.1, fun q hq => by rw [RF_cong (P := P) (P' := P') q (fun z hz => e z (by omega))]; exact h.2.1 q hq, h.2.2⟩
theorem ZZ_eq {c : Cf} (hw : wfC c) {P : Nat → Nat} {w : Nat} (hg : gdP (cN c) P w) {X : Nat → Int} (hX : ∀ q, q ≤ w → rwOK (cN c) (RF (cN c) P q) (X q)) {q r : Nat} (hq : q ≤ w) (hr : r ≤ w) : X q = X r ↔ ZZ (cN c) P q = ZZ (cN c) P r :=
  ky_eq hw.1 hw.2.1 hg (X := X) (K := ZZ (cN c) P) hX (fun _ _ => rfl) hq hr
theorem BT7 : ([1, 2, 3, 4, 5, 6, 7] : List Nat) = blk 1 7 := rfl
theorem mrg_892 {σ υ σ2 : St} (e : σ2 = mrg σ [8, 9, 2] υ) (hu : ∀ d, d ≠ 1 → υ d = pk σ [8, 9, 2] d) : σ2 9 = υ 1 ∧ ∀ d, d ≠ 9 → σ2 d = σ d := by
  rw [e]
  refine ⟨rfl, fun d hd => ?_⟩
  by_cases h8 : d = 8
  · subst h8; exact hu 0 (by decide)
  · by_cases h2 : d = 2
    · subst h2; exact hu 2 (by decide)
    · exact mrg_out (ixo_nm (by simp; omega))
theorem t_rta {c : Cf} (hw : wfC c) {P : Nat → Nat} {r k : Nat} {σ0 : St} (hr : r + cM c ≤ 192) (hk : k ≤ 2) (hP : ∀ j, j < cM c → P (r + j) = chgOf c j k) (hg : ∀ w, gdP (cN c) P w) {post : Int → St → Prop}
    (hno : ∀ σ' : St, SQ c P (r + cM c) σ' → DZ (cN c) P (r + cM c + 1) → fr1 σ0 σ' → post (-5) σ')
    (hyes : ∀ (w q : Nat) (σ' : St), r < w → w ≤ r + cM c → SQ c P w σ' → DZ (cN c) P w → q < w → ZZ (cN c) P q = ZZ (cN c) P w → fr1 σ0 σ' → post (w : Int) σ') : ∀ (fu j : Nat) (σ : St), j ≤ cM c → cM c < j + fu → SQ c P (r + j) σ → DZ (cN c) P (r + j + 1) → fr1 σ0 σ → wp_X0_ringTillAgain_2 post fu k j σ := by
  intro fu
  induction fu with
  | zero => intro j σ h1 h2; omega
  | succ fu ih =>
    intro j σ h1 h2 hS hD hf
    have h16 := hw.2.2.1
    obtain ⟨⟨m1, m2, T, hI, hT⟩, m3⟩ := id hS
    unfold wp_X0_ringTillAgain_2
    rw [show σ 1 2 = cM c from m1.1]
    refine ⟨rgn (by omega), rgn (by omega), fun cc => ?_, fun cc => ?_⟩
    · obtain rfl : j = cM c := by omega
      exact hno σ hS hD hf
    · have hj : j < cM c := by omega
      refine s_step (c := c) (P := P) (r := r + j) hw (show tmOK (pk σ [1, 2, 3, 4, 5, 6, 7]) 0 c from m1) (show twOK (pk σ [1, 2, 3, 4, 5, 6, 7]) 0 (cN c) P (r + j) from ⟨m3, m2⟩) (by omega) hj hk (hP j hj) (fun υ u1 u2 u3 u4 => ?_)
      intro σ1 e1
      rw [BT7] at e1
      have g1 : ∀ d, 1 ≤ d → d < 8 → σ1 d = υ (d - 1) := fun d a b => by rw [e1, mrg_blk, if_pos ⟨a, by omega⟩]
      have g0 : ∀ d, d < 1 ∨ 8 ≤ d → σ1 d = σ d := fun d a => by rw [e1, mrg_blk, if_neg (by omega)]
      have l1 : σ1 1 1 = ((r + j + 1 : Nat) : Int) := by rw [g1 1 (by decide) (by decide)]; exact u1.1
      have rows : ∀ q, q ≤ r + j + 1 → rwOK (cN c) (RF (cN c) P q) (σ1 2 (q : Int)) := fun q hq => by rw [g1 2 (by decide) (by decide)]; exact u1.2 q hq
      have old : ∀ q, q < r + j + 1 → σ 2 (q : Int) = σ1 2 (q : Int) := fun q hq => by rw [g1 2 (by decide) (by decide)]; exact (u4 (q : Int) (by omega)).symm
      have t9 : σ1 9 = σ 9 := g0 9 (by omega)
      have hI1 : TI T (fun q => σ1 2 (q : Int)) (r + j + 1) := TI_cong old hI
      rw [l1]
      refine s_enter (σ := pk σ1 [8, 9, 2]) (X := fun q => σ1 2 (q : Int)) (T := T) (k := r + j + 1) (by omega) ⟨fun q hq _ => ⟨rfl, (rows q hq).1⟩, fun i hi => by show σ1 9 (i : Int) = _; rw [t9]; exact hT i hi⟩ hI1 (fun q T' υ2 q1 q2 q3 i1 i2 i3 => ?_)
      intro σ2 e2
      obtain ⟨f9, fd⟩ := mrg_892 e2 i3
      have l2 : σ2 1 1 = ((r + j + 1 : Nat) : Int) := by rw [fd 1 (by decide)]; exact l1
      have c1 : ∀ i : Int, i ≠ 1 → σ2 1 i = σ 1 i := fun i hi => by rw [fd 1 (by decide), g1 1 (by decide) (by decide)]; exact u3 i hi
      have c3 : σ2 3 = σ 3 := by rw [fd 3 (by decide), g1 3 (by decide) (by decide)]; exact u2 2 (by decide) (by decide)
      have c4 : σ2 4 = σ 4 := by rw [fd 4 (by decide), g1 4 (by decide) (by decide)]; exact u2 3 (by decide) (by decide)
      have hX2 : ∀ q, q ≤ r + j + 1 → rwOK (cN c) (RF (cN c) P q) (σ2 2 (q : Int)) := fun q hq => by rw [fd 2 (by decide)]; exact rows q hq
      have hS2 : SQ c P (r + j + 1) σ2 := ⟨⟨tm1_cong m1 (c1 2 (by decide)) c3 c4, hX2, T', by rw [fd 2 (by decide)]; exact i1, fun i hi => by rw [f9]; exact i2 i hi⟩, l2⟩
      have hf2 : fr1 σ0 σ2 := by
        refine ⟨fun d d1 d2 d9 => ?_, fun i hi => by rw [c1 i hi]; exact hf.2 i hi⟩
        rw [fd d d9]
        by_cases z : d < 1 ∨ 8 ≤ d
        · rw [g0 d z]; exact hf.1 d d1 d2 d9
        · rw [g1 d (by omega) (by omega), u2 (d - 1) (by omega) (by omega), BT7, pk_blk (by omega), show 1 + (d - 1) = d by omega]; exact hf.1 d d1 d2 d9
      have zz : ∀ a b, a ≤ r + j + 1 → b ≤ r + j + 1 → (σ1 2 (a : Int) = σ1 2 (b : Int) ↔ ZZ (cN c) P a = ZZ (cN c) P b) := fun a b ha hb => ZZ_eq hw (hg _) (X := fun q => σ1 2 (q : Int)) rows ha hb
      refine ⟨rgn (by omega), by rw [l2]; exact rgn (by omega), fun c2 => ?_, fun c2 => ?_⟩
      · rw [l2] at c2
        obtain rfl : q = r + j + 1 := by omega
        rw [show ((j : Int) + 1) = ((j + 1 : Nat) : Int) by omega]
        refine ih (j + 1) σ2 (by omega) (by omega) (by rw [← Nat.add_assoc]; exact hS2) ?_ hf2
        intro a b hab hb
        rcases Nat.lt_or_ge b (r + j + 1) with z | z
        · exact hD a b hab z
        · obtain rfl : b = r + j + 1 := by omega
          intro e
          exact q3 a hab ((zz a (r + j + 1) (by omega) (Nat.le_refl _)).mpr e)
      · rw [l2] at c2 ⊢
        exact hyes (r + j + 1) q σ2 (by omega) (by omega) hS2 hD (by omega) ((zz q (r + j + 1) q1 (Nat.le_refl _)).mp q2) hf2
theorem t_back {c : Cf} {P : Nat → Nat} {r : Nat} {σ0 : St} {post : St → Prop} (hp : ∀ σ' : St, SQ c P r σ' → fr1 σ0 σ' → post σ') : ∀ (fu w : Nat) (σ : St), r ≤ w → w ≤ 192 → w < r + fu → RQ c P w σ → fr1 σ0 σ → wp_X0_backTo_8 post fu r w σ := by
  intro fu
  induction fu with
  | zero => intro w σ a b d; omega
  | succ fu ih =>
    intro w σ a b d hR hf
    obtain ⟨m1, m2, T, hI, hT⟩ := id hR
    unfold wp_X0_backTo_8
    refine ⟨rgn (by omega), rgn (by omega), fun cc => ?_, fun cc => ?_⟩
    · obtain rfl : w = r := by omega
      intro σ1 e1
      have e2 : σ1 2 = σ 2 := by rw [e1, up_ne _ (by decide)]
      refine hp σ1 ⟨⟨tm1_cong m1 ?_ ?_ ?_, ?_, T, ?_, ?_⟩, ?_⟩ ⟨fun d d1 d2 d9 => ?_, fun i hi => ?_⟩
      · rw [e1, up_j _ (by decide)]
      · rw [e1, up_ne _ (by decide)]
      · rw [e1, up_ne _ (by decide)]
      · rw [e2]; exact m2
      · rw [e2]; exact hI
      · rw [e1, up_ne _ (by decide)]; exact hT
      · rw [e1, up_same]
      · rw [e1, up_ne _ d1]; exact hf.1 d d1 d2 d9
      · rw [e1, up_j _ hi]; exact hf.2 i hi
    · obtain ⟨w', rfl⟩ : ∃ w', w = w' + 1 := ⟨w - 1, by omega⟩
      refine s_leave (σ := pk σ [8, 9, 2]) (X := fun q => σ 2 (q : Int)) (T := T) (k := w' + 1) (by omega) ⟨fun q hq _ => ⟨rfl, (m2 q hq).1⟩, hT⟩ hI (fun T' υ i1 i2 i3 => ?_)
      intro σ2 e2
      obtain ⟨f9, fd⟩ := mrg_892 e2 i3
      rw [show (((w' + 1 : Nat) : Int) + (-1)) = (w' : Int) by omega]
      refine ih w' σ2 (by omega) (by omega) (by omega) ⟨tm1_cong m1 (by rw [fd 1 (by decide)]) (fd 3 (by decide)) (fd 4 (by decide)), fun q hq => by rw [fd 2 (by decide)]; exact m2 q (by omega), T', by rw [fd 2 (by decide)]; exact i1, fun i hi => by rw [f9]; exact i2 i hi⟩ ⟨fun d d1 d2 d9 => by rw [fd d d9]; exact hf.1 d d1 d2 d9, fun i hi => by rw [fd 1 (by decide)]; exact hf.2 i hi⟩
theorem t_backTo {c : Cf} {P : Nat → Nat} {r w : Nat} {σ : St} (hS : SQ c P w σ) (hr : r ≤ w) (hw : w ≤ 192) {post : St → Prop} (hp : ∀ σ' : St, SQ c P r σ' → fr1 σ σ' → post σ') : wp_X0_backTo σ r post := by
  unfold wp_X0_backTo
  rw [hS.2]
  exact ⟨w + 1, t_back hp (w + 1) w σ hr hw (by omega) hS.1 (fr1_refl σ)⟩
