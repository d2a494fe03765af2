/-! find -/
theorem BF1 : ([1, 2, 3, 4, 5, 6, 7, 11, 12, 13, 14, 15, 16, 17, 18, 19, 20, 21, 22, 23, 24, 25, 26] : List Nat) = blk 1 7 ++ blk 11 16 := rfl
theorem BF2 : ([0, 1, 2, 3, 4, 5, 6, 7, 8, 9, 10] : List Nat) = blk 0 11 := rfl
theorem BF3 : ([63, 64, 65, 66, 67, 68, 69, 70, 71, 72, 73, 1, 2, 3, 4, 5, 6, 7, 8, 9, 10, 11, 12, 13, 14, 15, 16] : List Nat) = blk 63 11 ++ blk 1 16 := rfl
theorem Fo_ls {c : Cf} (L : Nat) : Fo (trX c L) L 0 0 (L + 1, -5) = lpR (trX c L) L (3 ^ L) 0 (L + 1, -5) := by
  have := Fo_lp (trX c L) L L 0 0 (L + 1, -5) (Nat.zero_add L)
  rw [Nat.zero_mul] at this
  exact this
theorem lsA_np {c : Cf} {L : Nat} : lsA c L 0 = (Fo (trX c L) L 0 0 (L + 1, -5)).2 ∧ lsA c L 1 = np (Fo (trX c L) L 0 0 (L + 1, -5)) := by
  rw [Fo_ls]
  exact ⟨rfl, rfl⟩
theorem t_find {c : Cf} (hw : wfC c) {L : Nat} (hL1 : 1 ≤ L) (hL : L ≤ 5) {σ : St} (hs : cfOK σ 11 c) (hz : ∀ j : Nat, j < 512 → σ 9 (j : Int) = 0) {post : St → Prop} (hp : ∀ σ' : St, σ' 0 0 = lsA c L 0 → σ' 0 1 = lsA c L 1 → (∀ j : Nat, j < 512 → σ' 9 (j : Int) = 0) → (∀ d, 11 ≤ d → σ' d = σ d) → post σ') : wp_X0_find σ L post := by
  intro σ1 e1 σ2 e2 σ3 e3 σ4 e4 σ5 e5
  have h16 := hw.2.2.1
  have cr : ∀ x : Int, chOK (cN c) x → rg x := fun x hx => by
    rcases hx with e | ⟨b, e, hb, -⟩
    · rw [e]; decide
    · rw [e]; exact rgn (by omega)
  have k5 : ∀ d, d ≠ 0 → d ≠ 10 → σ5 d = σ d := fun d d0 d10 => by rw [e5, up_ne _ d10, e4, up_ne _ d0, e3, up_ne _ d0, e2, up_ne _ d0, e1, up_ne _ d0]
  have z5 : σ5 0 = σ4 0 := by rw [e5, up_ne _ (by decide)]
  have z0 : σ5 0 0 = -5 := by rw [z5, e4, up_j _ (by decide), e3, up_j _ (by decide), e2, up_j _ (by decide), e1, up_same]
  have z1 : σ5 0 1 = -5 := by rw [z5, e4, up_j _ (by decide), e3, up_j _ (by decide), e2, up_same]
  have z5' : σ5 0 5 = (L : Int) := by rw [z5, e4, up_j _ (by decide), e3, up_same]
  have z6 : σ5 0 6 = ((L + 1 : Nat) : Int) := by rw [z5, e4, up_same]; omega
  have hb3 : σ5 11 3 = cB c := by rw [k5 11 (by decide) (by decide)]; exact hs.2.2.1
  -- from the flags on
  have hgo : ∀ (f1 f2 : Int) (σ7 : St), f1 = flg c 1 → f2 = flg c 2 → σ7 10 0 = 1 → σ7 10 1 = f1 → σ7 10 2 = f2 → (∀ d, d ≠ 10 → σ7 d = σ5 d) → wp_X7_begin (pk σ7 [1, 2, 3, 4, 5, 6, 7, 11, 12, 13, 14, 15, 16, 17, 18, 19, 20, 21, 22, 23, 24, 25, 26]) (fun τ2 => ∀ σ2 : St, σ2 = mrg σ7 [1, 2, 3, 4, 5, 6, 7, 11, 12, 13, 14, 15, 16, 17, 18, 19, 20, 21, 22, 23, 24, 25, 26] τ2 → (rg (σ2 1 2) ∧ ((σ2 1 2) ≤ 0 → (post σ2)) ∧ (¬ (σ2 1 2) ≤ 0 → (wp_X3_enter (pk σ2 [8, 9, 2]) 0 (fun r3 τ3 => ∀ σ3 : St, σ3 = mrg σ2 [8, 9, 2] τ3 → (wp_X0_search 8 (pk σ3 [0, 1, 2, 3, 4, 5, 6, 7, 8, 9, 10]) 0 0 0 (fun τ4 => ∀ σ4 : St, σ4 = mrg σ3 [0, 1, 2, 3, 4, 5, 6, 7, 8, 9, 10] τ4 → (wp_X3_leave (pk σ4 [8, 9, 2]) 0 (fun τ5 => ∀ σ5 : St, σ5 = mrg σ4 [8, 9, 2] τ5 → (post σ5)))))))))) := by
    intro f1 f2 σ7 hf1 hf2 q0 q1 q2 qd
    have c7 : ∀ k : Nat, k < 16 → pk σ7 (blk 1 7 ++ blk 11 16) (7 + k) = σ (11 + k) := fun k hk => by
      rw [pk_b2 (by omega), if_neg (by omega), show 11 + (7 + k - 7) = 11 + k by omega, qd _ (by omega), k5 _ (by omega) (by omega)]
    rw [BF1]
    refine s_tbegin (c := c) (cfOK_cong hs (fun k hk => by rw [c7 k hk])) hw (fun τ2 t1 t2 t3 t4 t5 => ?_)
    intro σ8 e8
    have a1 : ∀ d, 1 ≤ d → d < 8 → σ8 d = τ2 (d - 1) := fun d x y => by rw [e8, mrg_b2, if_pos ⟨x, by omega⟩]
    have a2 : ∀ d, 11 ≤ d → d < 27 → σ8 d = σ d := fun d x y => by
      rw [e8, mrg_b2, if_neg (by omega), if_pos ⟨x, by omega⟩, t4 _ (by omega), c7 _ (by omega), show 11 + (d - 11) = d by omega]
    have a3 : ∀ d, d < 1 ∨ (8 ≤ d ∧ d < 11) ∨ 27 ≤ d → σ8 d = σ7 d := fun d x => by rw [e8, mrg_b2, if_neg (by omega), if_neg (by omega)]
    have a11 : ∀ d, 11 ≤ d → σ8 d = σ d := fun d x => by
      by_cases y : d < 27
      · exact a2 d x y
      · rw [a3 d (by omega), qd d (by omega), k5 d (by omega) (by omega)]
    have m2 : σ8 1 2 = cM c := by rw [a1 1 (by decide) (by decide)]; exact t1.1
    have m1 : σ8 1 1 = 0 := by rw [a1 1 (by decide) (by decide)]; exact t2.1
    have h0 : σ8 0 = σ5 0 := by rw [a3 0 (by omega), qd 0 (by decide)]
    have h9 : ∀ j : Nat, j < 512 → σ8 9 (j : Int) = 0 := fun j hj => by rw [a3 9 (by omega), qd 9 (by decide), k5 9 (by decide) (by decide)]; exact hz j hj
    have h10 : σ8 10 = σ7 10 := a3 10 (by omega)
    have tm : tmOK σ8 1 c := by
      have y2 : σ8 (1 + 2) = τ2 2 := a1 3 (by decide) (by decide)
      have y3 : σ8 (1 + 3) = τ2 3 := a1 4 (by decide) (by decide)
      unfold tmOK
      rw [y2, y3, m2]
      exact ⟨rfl, t1.2.1, t1.2.2⟩
    have rw0 : ∀ q : Nat, q ≤ 0 → rwOK (cN c) (RF (cN c) (stp (cfx c 0 0)) q) (σ8 2 (q : Int)) := fun q hq => by
      obtain rfl : q = 0 := by omega
      rw [a1 2 (by decide) (by decide)]
      exact t2.2 0 (Nat.le_refl _)
    rw [m2]
    refine ⟨rgn (by omega), fun cc => ?_, fun cc => ?_⟩
    · have hM : cM c = 0 := by omega
      have hid : Fo (trX c L) L 0 0 (L + 1, -5) = (L + 1, -5) := Fo_id _ _ _ _ _ (Bd_false _ _ _ _ _ (fun z _ => by
        cases h : trX c L (0 * 3 ^ L + z)
        · rfl
        · exfalso
          obtain ⟨h1, -, -⟩ := trF_iff.mp h
          have : lastC (cfx c L (0 * 3 ^ L + z)) = cM c * L := rfl
          rw [this, hM, Nat.zero_mul] at h1
          omega))
      have := lsA_np (c := c) (L := L)
      rw [hid] at this
      refine hp σ8 (by rw [h0, z0, this.1]) (by rw [h0, z1, this.2]; rfl) h9 a11
    · have hM : 0 < cM c := by omega
      refine s_enter (σ := pk σ8 [8, 9, 2]) (X := fun q => σ8 2 (q : Int)) (T := fun _ => 0) (k := 0) (by decide) ⟨fun q hq _ => ⟨rfl, (rw0 q hq).1⟩, h9⟩ (TI_0 _ _ (fun _ _ => rfl)) (fun q T' υ w1 w2 w3 i1 i2 i3 => ?_)
      intro σ9 e9
      obtain ⟨f9, fd⟩ := mrg_892 e9 i3
      have hSB : SB c L 0 0 (L + 1, -5) (pk σ9 [0, 1, 2, 3, 4, 5, 6, 7, 8, 9, 10]) := by
        have p : ∀ d, d < 11 → pk σ9 [0, 1, 2, 3, 4, 5, 6, 7, 8, 9, 10] d = σ9 d := fun d hd => by rw [BF2, pk_blk hd, Nat.zero_add]
        have p0 := p 0 (by decide); have p1 := p 1 (by decide); have p2 := p 2 (by decide); have p3 := p 3 (by decide); have p4 := p 4 (by decide); have p9 := p 9 (by decide); have p10 := p 10 (by decide)
        unfold SB SQ RQ SH
        rw [p0, p1, p2, p9, p10, fd 0 (by decide), fd 1 (by decide), fd 2 (by decide), fd 10 (by decide), f9, h0, h10, Nat.zero_mul]
        refine ⟨⟨⟨tm1_cong tm ?_ ?_ ?_, rw0, T', i1, i2⟩, m1⟩, z0, z1, z5', z6, fun k hk => ?_⟩
        · rw [p1, fd 1 (by decide)]
        · rw [p3, fd 3 (by decide)]
        · rw [p4, fd 4 (by decide)]
        · match k, hk with
          | 0, _ => exact q0
          | 1, _ => exact q1.trans hf1
          | 2, _ => exact q2.trans hf2
      refine t_search hw hM hL1 hL L 8 0 0 0 (L + 1, -5) _ _ (Nat.zero_add L) (by omega) (by show L + 1 ≤ 1000; omega) (Nat.le_refl _) (fun a b h1 h2 => by rw [Nat.zero_mul] at h2; omega) hSB (fun τ4 hB4 => ?_)
      intro σ10 e10
      rw [BF2] at e10
      have g : ∀ d, d < 11 → σ10 d = τ4 d := fun d hd => by rw [e10, mrg_blk, if_pos ⟨Nat.zero_le _, by omega⟩]; rfl
      have g11 : ∀ d, 11 ≤ d → σ10 d = σ9 d := fun d hd => by rw [e10, mrg_blk, if_neg (by omega)]
      obtain ⟨⟨⟨r1, r2, T4, r3, r4⟩, r5⟩, r6⟩ := hB4
      rw [Nat.zero_mul] at r2 r3
      refine s_leave (σ := pk σ10 [8, 9, 2]) (X := fun q => τ4 2 (q : Int)) (T := T4) (k := 0) (by decide) ⟨fun q hq _ => ⟨by show σ10 2 (q : Int) = _; rw [g 2 (by decide)], (r2 q hq).1⟩, fun i hi => by show σ10 9 (i : Int) = _; rw [g 9 (by decide)]; exact r4 i hi⟩ r3 (fun T5 υ5 i1' i2' i3' => ?_)
      intro σ11 e11
      obtain ⟨f9', fd'⟩ := mrg_892 e11 i3'
      have ls := lsA_np (c := c) (L := L)
      refine hp σ11 ?_ ?_ (fun j hj => ?_) (fun d hd => ?_)
      · rw [fd' 0 (by decide), g 0 (by decide), r6.1, ls.1]
      · rw [fd' 0 (by decide), g 0 (by decide), r6.2.1, ls.2]
      · rw [f9', i2' j hj, TI_zero i1' j hj]; rfl
      · rw [fd' d (by omega), g11 d hd, fd d (by omega), a11 d hd]
  have h49 : ∀ f1 : Int, (f1 = 0 ∨ f1 = 1) → f1 = flg c 1 → wp_X0_find_49 post 1 f1 σ5 := fun f1 hf01 hf1 => by
    unfold wp_X0_find_49
    refine ⟨by decide, by decide, hf01, ?_⟩
    intro σ6 e6
    have b4 : σ6 11 4 = cS c := by rw [e6, up_ne _ (by decide), k5 11 (by decide) (by decide)]; exact hs.2.2.2.1
    rw [b4]
    have h68 : ∀ f2 : Int, (f2 = 0 ∨ f2 = 1) → f2 = flg c 2 → wp_X0_find_68 post 2 f2 σ6 := fun f2 hf02 hf2 => by
      unfold wp_X0_find_68
      refine ⟨by decide, by decide, hf02, ?_⟩
      intro σ7 e7
      refine hgo f1 f2 σ7 hf1 hf2 ?_ ?_ ?_ (fun d hd => by rw [e7, up_ne _ hd, e6, up_ne _ hd])
      · rw [e7, up_j _ (by decide), e6, up_j _ (by decide), e5, up_same]
      · rw [e7, up_j _ (by decide), e6, up_same]
      · rw [e7, up_same]
    refine ⟨cr _ hw.2.2.2.2.2.1, fun z => h68 0 (Or.inl rfl) ?_, fun z => h68 1 (Or.inr rfl) ?_⟩
    · unfold flg; rw [if_pos ⟨by decide, z⟩]
    · unfold flg; rw [if_neg (fun y => z y.2)]
  rw [hb3]
  refine ⟨cr _ hw.2.2.2.2.1, fun z => h49 0 (Or.inl rfl) ?_, fun z => h49 1 (Or.inr rfl) ?_⟩
  · unfold flg; rw [if_pos ⟨by decide, z⟩]
  · unfold flg; rw [if_neg (fun y => z y.2)]
