/-! touches -/
def calledI (c : Cf) (k : Nat) : Int := if k = 1 then cB c else if k = 2 then cS c else -1
/-- the change of lead-row j called k -/
def chgOf (c : Cf) (j k : Nat) : Nat := if j + 1 = cM c ∧ calledI c k ≠ -1 then (calledI c k).toNat else cH c j
def stp (c : Cf) (r : Nat) : Nat := chgOf c (r % cM c) (cC c (r / cM c))
def lastC (c : Cf) : Nat := cM c * cL c
theorem calledI_ok {c : Cf} (hw : wfC c) (k : Nat) : chOK (cN c) (calledI c k) := by
  unfold calledI
  split
  · exact hw.2.2.2.2.1
  · split
    · exact hw.2.2.2.2.2.1
    · exact Or.inl rfl
theorem chgOf_ok {c : Cf} (hw : wfC c) {j : Nat} (hj : j < cM c) (k : Nat) : chgOf c j k < 256 ∧ GD (cN c) (chgOf c j k) = true := by
  unfold chgOf
  by_cases q : j + 1 = cM c ∧ calledI c k ≠ -1
  · rw [if_pos q]
    rcases calledI_ok hw k with e | ⟨b, e, h1, h2⟩
    · exact absurd e q.2
    · rw [e]; exact ⟨by omega, by simpa using h2⟩
  · rw [if_neg q]; exact hw.2.2.2.1 j hj
theorem lastC_le {c : Cf} (hw : wfC c) : lastC c ≤ 192 := by
  unfold lastC
  have := Nat.mul_le_mul hw.2.2.1 hw.2.2.2.2.2.2.2.2
  omega
theorem stp_ok {c : Cf} (hw : wfC c) {last : Nat} (hl : last ≤ lastC c) : gdP (cN c) (stp c) last := fun r hr => by
  have : 0 < cM c := by
    rcases Nat.eq_zero_or_pos (cM c) with e | e
    · unfold lastC at hl; rw [e] at hl; omega
    · exact e
  exact chgOf_ok hw (Nat.mod_lt _ this) _
/-- the masks of a touch at o -/
def tmOK (σ : St) (o : Nat) (c : Cf) : Prop := σ o 2 = cM c ∧ (∀ i, i < cM c → σ (o + 2) (i : Int) = PR (cN c) (cH c i)) ∧ (0 < cM c → ∀ k : Nat, k ≤ 2 → σ (o + 3) (k : Int) = PR (cN c) (chgOf c (cM c - 1) k))
/-- the rows 0 .. r of a touch at o, by the changes P -/
def twOK (σ : St) (o n : Nat) (P : Nat → Nat) (r : Nat) : Prop := σ o 1 = r ∧ ∀ q, q ≤ r → rwOK n (RF n P q) (σ (o + 1) (q : Int))
theorem s_calledChange {σ : St} {c : Cf} (hs : cfOK σ 0 c) {k : Nat} (hk : k ≤ 2) {post : Int → Prop} (hp : post (calledI c k)) : wp_X4_calledChange σ k post := by
  obtain ⟨-, -, h3, h4, -⟩ := hs
  unfold wp_X4_calledChange
  unfold calledI at hp
  refine ⟨⟨by omega, by omega⟩, fun e => ?_, fun e => ?_, fun e => ?_⟩
  · rw [h3]; rwa [if_pos (by omega)] at hp
  · rw [h4]; rwa [if_neg (by omega), if_pos (by omega)] at hp
  · rwa [if_neg (by omega), if_neg (by omega)] at hp
def jsTS : List Nat := [7, 8, 9, 10, 11, 12, 13, 14, 15, 16, 17, 18, 19, 20, 21, 22]
theorem s_tbegin {σ : St} {c : Cf} (hs : cfOK σ 7 c) (hw : wfC c) {post : St → Prop} (hp : ∀ σ' : St, tmOK σ' 0 c → twOK σ' 0 (cN c) (stp c) 0 → σ' 0 7 = 0 → (∀ d : Nat, 4 ≤ d → σ' d = σ d) → (∀ j : Int, j ≠ 1 → j ≠ 2 → j ≠ 7 → σ' 0 j = σ 0 j) → post σ') : wp_X7_begin σ post := by
  intro σ1 e1
  obtain ⟨h4, h8, hm, hg, -⟩ := id hw
  have hM : σ 7 2 = cM c := hs.2.1
  have a0 : ∀ d : Nat, 4 ≤ d → σ1 d = σ d := fun d hd => by rw [e1, up_ne _ (by omega)]
  have am : σ1 0 2 = cM c := by rw [e1]; simp [up, hM]
  have aj : ∀ j : Int, j ≠ 2 → σ1 0 j = σ 0 j := fun j hj => by rw [e1]; simp [up, hj]
  -- the end
  have hend : ∀ τ : St, τ 0 = σ1 0 → (∀ d : Nat, 4 ≤ d → τ d = σ d) → tmOK τ 0 c → wp_X7_begin_102 post τ := by
    intro τ t0 t1 t2
    unfold wp_X7_begin_102
    have hn : τ 7 0 = cN c := by rw [t1 7 (by decide)]; exact hs.1
    rw [hn]
    refine s_rounds h4 h8 ?_
    intro τ2 u2 τ3 u3 τ4 u4
    have g2 : τ4 2 = τ 2 := by rw [u4, u3, u2, up_ne _ (by decide), up_ne _ (by decide), up_ne _ (by decide)]
    have g3 : τ4 3 = τ 3 := by rw [u4, u3, u2, up_ne _ (by decide), up_ne _ (by decide), up_ne _ (by decide)]
    refine hp τ4 ⟨?_, ?_, ?_⟩ ⟨?_, fun q hq => ?_⟩ ?_ (fun d hd => ?_) (fun j j1 j2 j7 => ?_)
    · rw [u4, u3, u2]; simp [up]; rw [t0]; exact am
    · rw [Nat.zero_add, g2]; exact t2.2.1
    · rw [Nat.zero_add, g3]; exact t2.2.2
    · rw [u4, u3, u2]; simp [up]
    · have : q = 0 := by omega
      subst this
      have : τ4 (0 + 1) ((0 : Nat) : Int) = RND (cN c) := by rw [u4, u3, u2]; simp [up]
      rw [this]; exact RND_ok h4 h8 _
    · rw [u4]; simp [up]
    · rw [u4, u3, u2, up_ne _ (by omega), up_ne _ (by omega), up_ne _ (by omega)]; exact t1 d hd
    · rw [u4, u3, u2]; simp [up, j1, j2, j7]; rw [t0]; exact aj j j2
  -- the masks of BOB and SINGLE
  have l2 : ∀ (fu k : Nat) (τ : St), k ≤ 3 → 3 < k + fu → τ 0 = σ1 0 → (∀ d : Nat, 4 ≤ d → τ d = σ d) → (∀ i, i < cM c → τ 2 (i : Int) = PR (cN c) (cH c i)) → (0 < cM c → ∀ i, i < k → τ 3 (i : Int) = PR (cN c) (chgOf c (cM c - 1) i)) → wp_X7_begin_45 post fu k τ := by
    intro fu
    induction fu with
    | zero => intro k τ h1 h2; omega
    | succ fu ih =>
      intro k τ h1 h2 t0 t1 t2 t3
      unfold wp_X7_begin_45
      have tm : τ 0 2 = cM c := by rw [t0]; exact am
      rw [tm]
      refine ⟨⟨by omega, by omega⟩, fun cc => hend τ t0 t1 ⟨tm, t2, fun hpos i hi => t3 hpos i (by omega)⟩, fun cc => ⟨⟨by omega, by omega⟩, fun c2 => hend τ t0 t1 ⟨tm, t2, fun hpos i hi => by omega⟩, fun c2 => ?_⟩⟩
      have hk : k ≤ 2 := by omega
      have hcf : cfOK (pk τ [7, 8, 9, 10, 11, 12, 13, 14, 15, 16, 17, 18, 19, 20, 21, 22]) 0 c := by
        refine cfOK_cong hs (fun z hz => ?_)
        rw [Nat.zero_add]
        have : ∀ z : Nat, z < 16 → ([7, 8, 9, 10, 11, 12, 13, 14, 15, 16, 17, 18, 19, 20, 21, 22] : List Nat).getD z 0 = 7 + z := by decide
        show τ (([7, 8, 9, 10, 11, 12, 13, 14, 15, 16, 17, 18, 19, 20, 21, 22] : List Nat).getD z 0) = _
        rw [this z hz]; exact t1 _ (by omega)
      have hgo : ∀ x : Int, x = PR (cN c) (chgOf c (cM c - 1) k) → wp_X7_begin_95 (wp_X7_begin_45 post fu) post k k x τ := by
        intro x hx
        refine ⟨by omega, by omega, ?_⟩
        intro τ1 u1
        rw [show ((k : Int) + 1) = ((k + 1 : Nat) : Int) by omega]
        refine ih (k + 1) τ1 (by omega) (by omega) (by rw [u1, up_ne _ (by decide)]; exact t0) (fun d hd => by rw [u1, up_ne _ (by omega)]; exact t1 d hd) (fun i hi => by rw [u1, up_ne _ (by decide)]; exact t2 i hi) (fun hpos i hi => ?_)
        rw [u1, up_cell]
        by_cases q : (i : Int) = k
        · have : i = k := by omega
          subst this; simp only [if_true]; exact hx
        · simp only [q, if_false]; exact t3 hpos i (by omega)
      refine s_calledChange hcf hk ?_
      have hck := calledI_ok hw k
      refine ⟨?_, fun c3 => ?_, fun c3 => ?_⟩
      · rcases hck with e | ⟨b, e, hb, -⟩ <;> rw [e] <;> constructor <;> omega
      · rcases hck with e | ⟨b, e, hb, hb2⟩
        · exact absurd e c3
        · have hn : τ 7 0 = cN c := by rw [t1 7 (by decide)]; exact hs.1
          rw [hn, e]
          refine s_pairs h8 hb (hgo _ ?_)
          unfold chgOf
          rw [if_pos ⟨by omega, c3⟩, e]; rfl
      · have e2 : ((cM c : Int) - 1) = ((cM c - 1 : Nat) : Int) := by omega
        rw [e2]
        refine ⟨by omega, by omega, hgo _ ?_⟩
        rw [t2 _ (by omega)]
        unfold chgOf
        rw [if_neg (fun z => z.2 c3)]
  have l1 : ∀ (fu k : Nat) (τ : St), k ≤ cM c → cM c < k + fu → τ 0 = σ1 0 → (∀ d : Nat, 4 ≤ d → τ d = σ d) → (∀ i, i < k → τ 2 (i : Int) = PR (cN c) (cH c i)) → wp_X7_begin_10 post fu k τ := by
    intro fu
    induction fu with
    | zero => intro k τ h1 h2; omega
    | succ fu ih =>
      intro k τ h1 h2 t0 t1 t2
      unfold wp_X7_begin_10
      have tm : τ 0 2 = cM c := by rw [t0]; exact am
      rw [tm]
      refine ⟨⟨by omega, by omega⟩, ⟨by omega, by omega⟩, fun cc => ?_, fun cc => ⟨by omega, by omega, ?_⟩⟩
      · exact ⟨5, l2 5 0 τ (by decide) (by decide) t0 t1 (fun i hi => t2 i (by omega)) (fun _ i hi => absurd hi (Nat.not_lt_zero _))⟩
      · have hk : k < cM c := by omega
        have hn : τ 7 0 = cN c := by rw [t1 7 (by decide)]; exact hs.1
        have hc8 : τ 8 (k : Int) = cH c k := by rw [t1 8 (by decide)]; exact hs.2.2.2.2.2.1 k hk
        rw [hn, hc8]
        refine s_pairs h8 (hg k hk).1 ⟨by omega, by omega, ?_⟩
        intro τ1 u1
        rw [show ((k : Int) + 1) = ((k + 1 : Nat) : Int) by omega]
        refine ih (k + 1) τ1 (by omega) (by omega) (by rw [u1, up_ne _ (by decide)]; exact t0) (fun d hd => by rw [u1, up_ne _ (by omega)]; exact t1 d hd) (fun i hi => ?_)
        rw [u1, up_cell]
        by_cases q : (i : Int) = k
        · have : i = k := by omega
          subst this; simp only [if_true]
        · simp only [q, if_false]; exact t2 i (by omega)
  exact ⟨18, l1 18 0 σ1 (Nat.zero_le _) (by omega) rfl a0 (fun i hi => absurd hi (Nat.not_lt_zero _))⟩
/-- one more row -/
theorem s_step {σ : St} {c : Cf} {P : Nat → Nat} {r j k : Nat} (hw : wfC c) (hm : tmOK σ 0 c) (ht : twOK σ 0 (cN c) P r) (hr : r < 192) (hj : j < cM c) (hk : k ≤ 2) (hP : P r = chgOf c j k) {post : St → Prop} (hp : ∀ σ' : St, twOK σ' 0 (cN c) P (r + 1) → (∀ d, d ≠ 0 → d ≠ 1 → σ' d = σ d) → (∀ i : Int, i ≠ 1 → σ' 0 i = σ 0 i) → (∀ i : Int, i ≠ (r : Int) + 1 → σ' 1 i = σ 1 i) → post σ') : wp_X7_step σ j k post := by
  obtain ⟨h4, h8, h16, -⟩ := id hw
  unfold wp_X7_step
  rw [ht.1, hm.1]
  have hgo : ∀ x : Int, x = PR (cN c) (chgOf c j k) → wp_X7_step_35 post x σ := by
    intro x hx
    unfold wp_X7_step_35
    rw [ht.1]
    refine ⟨by omega, by omega, s_swapped ⟨by omega, by omega, ?_⟩⟩
    intro σ2 e2
    have q1 : σ2 0 1 = r := by rw [e2, up_ne _ (by decide)]; exact ht.1
    rw [q1]
    intro σ3 e3
    refine hp σ3 ⟨?_, fun q hq => ?_⟩ (fun d d0 d1 => ?_) (fun i hi => ?_) (fun i hi => ?_)
    · rw [e3]; simp [up]
    · have e4 : σ3 (0 + 1) = σ2 1 := by rw [e3, up_ne _ (by decide)]
      rw [e4, e2, up_cell]
      by_cases z : (q : Int) = (r : Int) + 1
      · have : q = r + 1 := by omega
        subst this
        simp only [z, if_true]
        have := swp_row h4 h8 (chgOf_ok hw hj k).1 (chgOf_ok hw hj k).2 (ht.2 r (Nat.le_refl _))
        rw [hx]
        show rwOK (cN c) (fun p => RF (cN c) P r (PI (cN c) (P r) p)) _
        rw [hP]; exact this
      · simp only [z, if_false]; exact ht.2 q (by omega)
    · rw [e3, e2, up_ne _ d0, up_ne _ d1]
    · rw [e3, e2]; simp [up, hi]
    · rw [e3, e2]; simp [up, hi]
  refine ⟨⟨by omega, by omega⟩, fun cc => by omega, fun _ => ⟨⟨by omega, by omega⟩, ⟨by omega, by omega⟩, fun cc => ⟨by omega, by omega, hgo _ ?_⟩, fun cc => ⟨by omega, by omega, hgo _ ?_⟩⟩⟩
  · rw [show σ 2 (j : Int) = PR (cN c) (cH c j) from hm.2.1 j hj]
    unfold chgOf
    rw [if_neg (fun z => by omega)]
  · have e : σ 3 (k : Int) = PR (cN c) (chgOf c (cM c - 1) k) := hm.2.2 (by omega) k hk
    rw [e, show cM c - 1 = j by omega]
def touOK (σ : St) (o : Nat) (c : Cf) : Prop := tmOK σ o c ∧ twOK σ o (cN c) (stp c) (lastC c)
theorem s_ring {σ : St} {c : Cf} (hs : cfOK σ 7 c) (hw : wfC c) {post : St → Prop} (hp : ∀ σ' : St, touOK σ' 0 c → σ' 0 7 = 0 → (∀ d : Nat, 4 ≤ d → σ' d = σ d) → post σ') : wp_X7_ring σ post := by
  unfold wp_X7_ring
  refine s_tbegin hs hw (fun τ t1 t2 t3 t4 _ => ⟨14, ?_⟩)
  have hL := lastC_le hw
  obtain ⟨h4, h8, h16, -, -, -, hcal, hl1, hl12⟩ := id hw
  have hin : ∀ (lead : Nat), lead < cL c → ∀ (K : Int → St → Prop), (∀ τ : St, tmOK τ 0 c → twOK τ 0 (cN c) (stp c) ((lead + 1) * cM c) → τ 0 7 = 0 → (∀ d : Nat, 4 ≤ d → τ d = σ d) → K ((lead : Int) + 1) τ) → ∀ (fu j : Nat) (τ : St), j ≤ cM c → cM c < j + fu → tmOK τ 0 c → twOK τ 0 (cN c) (stp c) (lead * cM c + j) → τ 0 7 = 0 → (∀ d : Nat, 4 ≤ d → τ d = σ d) → wp_X7_ring_17 K post fu lead j τ := by
    intro lead hlead K hK fu
    induction fu with
    | zero => intro j τ h1 h2; omega
    | succ fu ih =>
      intro j τ h1 h2 m1 m2 m3 m4
      unfold wp_X7_ring_17
      rw [m1.1]
      refine ⟨⟨by omega, by omega⟩, ⟨by omega, by omega⟩, fun cc => ?_, fun cc => ⟨by omega, by omega, ?_⟩⟩
      · have : j = cM c := by omega
        subst this
        exact hK τ m1 (by rw [Nat.add_mul, Nat.one_mul]; exact m2) m3 m4
      · have hj : j < cM c := by omega
        have hc9 : τ 9 (lead : Int) = cC c lead := by rw [m4 9 (by decide)]; exact hs.2.2.2.2.2.2 lead (by omega)
        rw [hc9]
        have hlt : lead * cM c + j < lastC c := by
          unfold lastC
          have : (lead + 1) * cM c ≤ cL c * cM c := Nat.mul_le_mul_right _ hlead
          rw [Nat.mul_comm (cM c)]
          rw [Nat.add_mul, Nat.one_mul] at this
          omega
        have hst : stp c (lead * cM c + j) = chgOf c j (cC c lead) := by
          unfold stp
          have e1 : (lead * cM c + j) % cM c = j := by rw [Nat.mul_comm, Nat.mul_add_mod, Nat.mod_eq_of_lt hj]
          have e2 : (lead * cM c + j) / cM c = lead := by
            rw [Nat.mul_comm, Nat.mul_add_div (by omega), Nat.div_eq_of_lt hj]; omega
          rw [e1, e2]
        refine s_step (c := c) (P := stp c) (r := lead * cM c + j) hw (show tmOK (pk τ [0, 1, 2, 3, 4, 5, 6]) 0 c from m1) (show twOK (pk τ [0, 1, 2, 3, 4, 5, 6]) 0 (cN c) (stp c) _ from m2) (by omega) hj (hcal lead (by omega)) hst (fun υ u1 u2 u3 u4 => ?_)
        intro τ1 e1
        have hc : ∀ d : Nat, d < 7 → τ1 d = υ d := fun d hd => by
          rw [e1]
          match d, hd with
          | 0, _ => rfl
          | 1, _ => rfl
          | 2, _ => rfl
          | 3, _ => rfl
          | 4, _ => rfl
          | 5, _ => rfl
          | 6, _ => rfl
        have ho : ∀ d : Nat, 7 ≤ d → τ1 d = τ d := fun d hd => by rw [e1, mrg_out (ixo_nm (by simp; omega))]
        have hu : ∀ d : Nat, d < 7 → 2 ≤ d → τ1 d = τ d := fun d hd hd2 => by
          rw [hc d hd, u2 d (by omega) (by omega)]
          match d, hd, hd2 with
          | 2, _, _ => rfl
          | 3, _, _ => rfl
          | 4, _, _ => rfl
          | 5, _, _ => rfl
          | 6, _, _ => rfl
        rw [show ((j : Int) + 1) = ((j + 1 : Nat) : Int) by omega]
        refine ih (j + 1) τ1 (by omega) (by omega) ⟨?_, ?_, ?_⟩ ⟨?_, fun q hq => ?_⟩ ?_ (fun d hd => ?_)
        · rw [hc 0 (by decide), u3 2 (by decide)]; exact m1.1
        · rw [Nat.zero_add, hu 2 (by decide) (by decide)]; exact m1.2.1
        · rw [Nat.zero_add, hu 3 (by decide) (by decide)]; exact m1.2.2
        · rw [hc 0 (by decide)]; exact u1.1
        · rw [Nat.zero_add, hc 1 (by decide)]; exact u1.2 q hq
        · rw [hc 0 (by decide), u3 7 (by decide)]; exact m3
        · by_cases z : d < 7
          · rw [hu d z (by omega)]; exact m4 d hd
          · rw [ho d (by omega)]; exact m4 d hd
  have hout : ∀ (fu lead : Nat) (τ : St), lead ≤ cL c → cL c < lead + fu → tmOK τ 0 c → twOK τ 0 (cN c) (stp c) (lead * cM c) → τ 0 7 = 0 → (∀ d : Nat, 4 ≤ d → τ d = σ d) → wp_X7_ring_7 post fu lead τ := by
    intro fu
    induction fu with
    | zero => intro lead τ h1 h2; omega
    | succ fu ih =>
      intro lead τ h1 h2 m1 m2 m3 m4
      unfold wp_X7_ring_7
      have hL6 : τ 7 6 = cL c := by rw [m4 7 (by decide)]; exact hs.2.2.2.2.1
      rw [hL6]
      refine ⟨⟨by omega, by omega⟩, ⟨by omega, by omega⟩, fun cc => ?_, fun cc => ⟨cM c + 1, ?_⟩⟩
      · have : lead = cL c := by omega
        subst this
        exact hp τ ⟨m1, by unfold lastC; rw [Nat.mul_comm]; exact m2⟩ m3 m4
      · refine hin lead (by omega) _ (fun τ' n1 n2 n3 n4 => ?_) (cM c + 1) 0 τ (Nat.zero_le _) (by omega) m1 m2 m3 m4
        rw [show ((lead : Int) + 1) = ((lead + 1 : Nat) : Int) by omega]
        exact ih (lead + 1) τ' (by omega) (by omega) n1 n2 n3 n4
  exact hout 14 0 τ (Nat.zero_le _) (by omega) t1 (by rw [Nat.zero_mul]; exact t2) t3 t4
