/-! the search: what it may leave out -/
def BdF (tr : Nat → Bool) : Nat → Nat → Nat → Nat → Prop
  | 0, x, c, b => tr x = true → b ≤ c
  | d + 1, x, c, b => BdF tr d (3 * x) c b ∧ BdF tr d (3 * x + 1) (c + 1) b ∧ BdF tr d (3 * x + 2) (c + 1) b
theorem Fo_mono (tr : Nat → Bool) : ∀ (d x c : Nat) (s : Nat × Int), (Fo tr d x c s).1 ≤ s.1
  | 0, x, c, s => by
    show (if tr x && decide (c < s.1) then (c, (x : Int)) else s).1 ≤ s.1
    by_cases z : (tr x && decide (c < s.1)) = true
    · rw [if_pos z]
      rw [Bool.and_eq_true] at z
      have := of_decide_eq_true z.2
      show c ≤ s.1; omega
    · rw [if_neg z]; exact Nat.le_refl _
  | d + 1, x, c, s => by
    show (Fo tr d (3 * x + 2) (c + 1) (Fo tr d (3 * x + 1) (c + 1) (Fo tr d (3 * x) c s))).1 ≤ s.1
    exact Nat.le_trans (Fo_mono tr d _ _ _) (Nat.le_trans (Fo_mono tr d _ _ _) (Fo_mono tr d _ _ _))
theorem Bd_mono (tr : Nat → Bool) : ∀ (d x c c' b b' : Nat), c ≤ c' → b' ≤ b → BdF tr d x c b → BdF tr d x c' b'
  | 0, _, _, _, _, _, h1, h2, h => fun z => Nat.le_trans h2 (Nat.le_trans (h z) h1)
  | d + 1, _, _, _, _, _, h1, h2, h => ⟨Bd_mono tr d _ _ _ _ _ h1 h2 h.1, Bd_mono tr d _ _ _ _ _ (Nat.succ_le_succ h1) h2 h.2.1, Bd_mono tr d _ _ _ _ _ (Nat.succ_le_succ h1) h2 h.2.2⟩
theorem Bd_prune (tr : Nat → Bool) : ∀ (d x c b : Nat), b ≤ c → BdF tr d x c b
  | 0, _, _, _, h => fun _ => h
  | d + 1, _, _, _, h => ⟨Bd_prune tr d _ _ _ h, Bd_prune tr d _ _ _ (Nat.le_succ_of_le h), Bd_prune tr d _ _ _ (Nat.le_succ_of_le h)⟩
theorem p3c (d x j z : Nat) : (3 * x + j) * 3 ^ d + z = x * 3 ^ (d + 1) + (j * 3 ^ d + z) := by
  rw [Nat.pow_succ, Nat.add_mul, show 3 * x * 3 ^ d = x * (3 ^ d * 3) by ac_rfl, Nat.add_assoc]
theorem p3b {d j z : Nat} (hj : j < 3) (hz : z < 3 ^ d) : j * 3 ^ d + z < 3 ^ (d + 1) := by
  rw [Nat.pow_succ]
  have : j * 3 ^ d ≤ 2 * 3 ^ d := Nat.mul_le_mul_right _ (by omega)
  omega
theorem Bd_tr (tr : Nat → Bool) : ∀ (d x0 x1 c b : Nat), (∀ z, z < 3 ^ d → tr (x1 * 3 ^ d + z) = true → tr (x0 * 3 ^ d + z) = true) → BdF tr d x0 c b → BdF tr d x1 c b
  | 0, x0, x1, c, b, h, hb => fun z => hb (by
      have := h 0 (by decide)
      simp only [Nat.pow_zero, Nat.mul_one, Nat.add_zero] at this
      exact this z)
  | d + 1, x0, x1, c, b, h, hb => by
    have g : ∀ j, j < 3 → ∀ z, z < 3 ^ d → tr ((3 * x1 + j) * 3 ^ d + z) = true → tr ((3 * x0 + j) * 3 ^ d + z) = true := fun j hj z hz e => by
      rw [p3c] at e ⊢; exact h _ (p3b hj hz) e
    exact ⟨Bd_tr tr d (3 * x0) (3 * x1) c b (fun z hz e => by have := g 0 (by decide) z hz; simp only [Nat.add_zero] at this; exact this e) hb.1, Bd_tr tr d (3 * x0 + 1) (3 * x1 + 1) (c + 1) b (g 1 (by decide)) hb.2.1, Bd_tr tr d (3 * x0 + 2) (3 * x1 + 2) (c + 1) b (g 2 (by decide)) hb.2.2⟩
theorem Bd_false (tr : Nat → Bool) : ∀ (d x c b : Nat), (∀ z, z < 3 ^ d → tr (x * 3 ^ d + z) = false) → BdF tr d x c b
  | 0, x, c, b, h => fun z => by
    have := h 0 (by decide)
    simp only [Nat.pow_zero, Nat.mul_one, Nat.add_zero] at this
    rw [this] at z; cases z
  | d + 1, x, c, b, h => by
    have g : ∀ j, j < 3 → ∀ z, z < 3 ^ d → tr ((3 * x + j) * 3 ^ d + z) = false := fun j hj z hz => by
      rw [p3c]; exact h _ (p3b hj hz)
    exact ⟨Bd_false tr d (3 * x) c b (fun z hz => by have := g 0 (by decide) z hz; simp only [Nat.add_zero] at this; exact this), Bd_false tr d (3 * x + 1) (c + 1) b (g 1 (by decide)), Bd_false tr d (3 * x + 2) (c + 1) b (g 2 (by decide))⟩
theorem Fo_id (tr : Nat → Bool) : ∀ (d x c : Nat) (s : Nat × Int), BdF tr d x c s.1 → Fo tr d x c s = s
  | 0, x, c, s, h => by
    show (if tr x && decide (c < s.1) then (c, (x : Int)) else s) = s
    rw [if_neg]
    intro z
    rw [Bool.and_eq_true] at z
    have := of_decide_eq_true z.2
    have := h z.1
    omega
  | d + 1, x, c, s, h => by
    show Fo tr d (3 * x + 2) (c + 1) (Fo tr d (3 * x + 1) (c + 1) (Fo tr d (3 * x) c s)) = s
    rw [Fo_id tr d _ _ s h.1, Fo_id tr d _ _ s h.2.1, Fo_id tr d _ _ s h.2.2]
theorem Fo_bd (tr : Nat → Bool) : ∀ (d x c : Nat) (s : Nat × Int), BdF tr d x c (Fo tr d x c s).1
  | 0, x, c, s => fun z => by
    show (if tr x && decide (c < s.1) then (c, (x : Int)) else s).1 ≤ c
    by_cases g : c < s.1
    · rw [if_pos (by rw [z, Bool.true_and]; exact decide_eq_true g)]; exact Nat.le_refl _
    · rw [if_neg (by rw [Bool.and_eq_true]; exact fun y => g (of_decide_eq_true y.2))]; omega
  | d + 1, x, c, s => by
    show BdF tr d (3 * x) c (Fo tr d (3 * x + 2) (c + 1) (Fo tr d (3 * x + 1) (c + 1) (Fo tr d (3 * x) c s))).1 ∧ BdF tr d (3 * x + 1) (c + 1) (Fo tr d (3 * x + 2) (c + 1) (Fo tr d (3 * x + 1) (c + 1) (Fo tr d (3 * x) c s))).1 ∧ BdF tr d (3 * x + 2) (c + 1) (Fo tr d (3 * x + 2) (c + 1) (Fo tr d (3 * x + 1) (c + 1) (Fo tr d (3 * x) c s))).1
    exact ⟨Bd_mono tr d _ _ _ _ _ (Nat.le_refl _) (Nat.le_trans (Fo_mono tr d _ _ _) (Fo_mono tr d _ _ _)) (Fo_bd tr d (3 * x) c s), Bd_mono tr d _ _ _ _ _ (Nat.le_refl _) (Fo_mono tr d _ _ _) (Fo_bd tr d (3 * x + 1) (c + 1) _), Fo_bd tr d (3 * x + 2) (c + 1) _⟩
/-! digits of leaves -/
theorem dgt_hi {v d x z i : Nat} (hz : z < 3 ^ d) (hi : i < v) : dgt (v + d) (x * 3 ^ d + z) i = dgt v x i := by
  unfold dgt
  rw [show v + d - 1 - i = d + (v - 1 - i) by omega, Nat.pow_add, ← Nat.div_div_eq_div_mul, Nat.mul_comm x, Nat.mul_add_div (Nat.pow_pos (by decide)), Nat.div_eq_of_lt hz, Nat.add_zero]
theorem dgt_lo {v d x z i : Nat} (h1 : v ≤ i) (h2 : i < v + d) : dgt (v + d) (x * 3 ^ d + z) i = dgt d z (i - v) := by
  unfold dgt
  rw [show v + d - 1 - i = d - 1 - (i - v) by omega]
  have he : d - 1 - (i - v) < d := by omega
  generalize d - 1 - (i - v) = e at he ⊢
  obtain ⟨f, rfl⟩ : ∃ f, d = e + (f + 1) := ⟨d - e - 1, by omega⟩
  rw [Nat.pow_add, Nat.pow_succ, show x * (3 ^ e * (3 ^ f * 3)) = 3 ^ e * (3 * (x * 3 ^ f)) by ac_rfl, Nat.mul_add_div (Nat.pow_pos (by decide)), Nat.mul_add_mod]
theorem dgt_c1 {v x k i : Nat} (hk : k < 3) (hi : i < v) : dgt (v + 1) (3 * x + k) i = dgt v x i := by
  have := dgt_hi (v := v) (d := 1) (x := x) (z := k) (i := i) (by rw [Nat.pow_one]; exact hk) hi
  rw [Nat.pow_one, Nat.mul_comm x 3] at this; exact this
theorem dgt_c2 {v x k : Nat} (hk : k < 3) : dgt (v + 1) (3 * x + k) v = k := by
  unfold dgt
  rw [show v + 1 - 1 - v = 0 by omega, Nat.pow_zero, Nat.div_one]; omega
/-! rows of leaves -/
def ZZ (n : Nat) (P : Nat → Nat) (q : Nat) : Int := kyF (RF n P q) n
/-- rows 0 .. w - 1 are all different -/
def DZ (n : Nat) (P : Nat → Nat) (w : Nat) : Prop := ∀ q q', q < q' → q' < w → ZZ n P q ≠ ZZ n P q'
theorem stp_sub {c : Cf} {v d x z q : Nat} (hz : z < 3 ^ d) (hq : q < v * cM c) : stp (cfx c (v + d) (x * 3 ^ d + z)) q = stp (cfx c v x) q := by
  have hM : 0 < cM c := by
    rcases Nat.eq_zero_or_pos (cM c) with e | e
    · rw [e] at hq; omega
    · exact e
  have hi : q / cM c < v := Nat.div_lt_of_lt_mul (by rw [Nat.mul_comm]; exact hq)
  show chgOf c (q % cM c) (if q / cM c < v + d then dgt (v + d) (x * 3 ^ d + z) (q / cM c) else cC c (q / cM c)) = chgOf c (q % cM c) (if q / cM c < v then dgt v x (q / cM c) else cC c (q / cM c))
  rw [if_pos (by omega), if_pos hi, dgt_hi hz hi]
theorem ZZ_cong {n : Nat} {P P' : Nat → Nat} {q : Nat} (h : ∀ z, z < q → P' z = P z) : ZZ n P' q = ZZ n P q := by
  unfold ZZ; rw [RF_cong q h]
theorem DZ_cong {n : Nat} {P P' : Nat → Nat} {w : Nat} (h : ∀ z, z + 1 < w → P' z = P z) (hd : DZ n P w) : DZ n P' w := fun q q' h1 h2 => by
  rw [ZZ_cong (P := P) (P' := P') (fun z hz => h z (by omega)), ZZ_cong (P := P) (P' := P') (fun z hz => h z (by omega))]
  exact hd q q' h1 h2
theorem KK_sub {c : Cf} {v d x z q : Nat} (hz : z < 3 ^ d) (hq : q ≤ v * cM c) : KK (cfx c (v + d) (x * 3 ^ d + z)) q = ZZ (cN c) (stp (cfx c v x)) q :=
  ZZ_cong (n := cN c) (P' := stp (cfx c (v + d) (x * 3 ^ d + z))) (fun y hy => stp_sub hz (by omega))
theorem cfx_gd {c : Cf} (hw : wfC c) (hM : 0 < cM c) (v x last : Nat) : gdP (cN c) (stp (cfx c v x)) last := fun r _ => chgOf_ok (c := c) hw (Nat.mod_lt _ hM) _
/-- a row that comes again before the end: no touch of these is true -/
theorem trX_no {c : Cf} {v d u q w : Nat} (hw : w ≤ v * cM c) (hq : q < w) (he : ZZ (cN c) (stp (cfx c v u)) q = ZZ (cN c) (stp (cfx c v u)) w) (hn : ¬ (w = (v + d) * cM c ∧ ZZ (cN c) (stp (cfx c v u)) w = ZZ (cN c) (stp (cfx c v u)) 0)) : ∀ z, z < 3 ^ d → trX c (v + d) (u * 3 ^ d + z) = false := fun z hz => by
  cases h : trX c (v + d) (u * 3 ^ d + z)
  · rfl
  · exfalso
    obtain ⟨h1, h2, h3⟩ := trF_iff.mp h
    have hl : lastC (cfx c (v + d) (u * 3 ^ d + z)) = cM c * (v + d) := rfl
    rw [hl] at h2 h3
    have hle : v * cM c ≤ cM c * (v + d) := by rw [Nat.mul_comm v]; exact Nat.mul_le_mul_left _ (by omega)
    rcases Nat.lt_or_ge w (cM c * (v + d)) with y | y
    · exact h3 q w hq y (by rw [KK_sub hz (by omega), KK_sub hz hw]; exact he)
    · have e : w = cM c * (v + d) := by omega
      rw [← e] at h2
      rw [KK_sub hz hw, KK_sub hz (Nat.zero_le _)] at h2
      exact hn ⟨by rw [e, Nat.mul_comm], h2⟩
/-- a call that there is none of rings as a plain one -/
theorem trX_untold {c : Cf} {v d x k z : Nat} (hk : calledI c k = -1) (hk3 : k < 3) (hz : z < 3 ^ d) : trX c (v + 1 + d) ((3 * x + k) * 3 ^ d + z) = trX c (v + 1 + d) ((3 * x) * 3 ^ d + z) := by
  have hst : stp (cfx c (v + 1 + d) ((3 * x + k) * 3 ^ d + z)) = stp (cfx c (v + 1 + d) ((3 * x) * 3 ^ d + z)) := by
    funext q
    show chgOf c (q % cM c) (if q / cM c < v + 1 + d then dgt (v + 1 + d) ((3 * x + k) * 3 ^ d + z) (q / cM c) else cC c (q / cM c)) = chgOf c (q % cM c) (if q / cM c < v + 1 + d then dgt (v + 1 + d) ((3 * x) * 3 ^ d + z) (q / cM c) else cC c (q / cM c))
    generalize q % cM c = j
    generalize q / cM c = i
    by_cases a : i < v + 1 + d
    · rw [if_pos a, if_pos a]
      rcases Nat.lt_or_ge i (v + 1) with b | b
      · rw [dgt_hi hz b, dgt_hi hz b]
        rcases Nat.lt_or_ge i v with b2 | b2
        · rw [dgt_c1 hk3 b2]
          have e0 : dgt (v + 1) (3 * x) i = dgt v x i := dgt_c1 (x := x) (k := 0) (by decide) b2
          rw [e0]
        · obtain rfl : i = v := by omega
          rw [dgt_c2 hk3]
          have e0 : dgt (i + 1) (3 * x) i = 0 := dgt_c2 (v := i) (x := x) (k := 0) (by decide)
          rw [e0]
          unfold chgOf
          rw [if_neg (fun y => y.2 hk), if_neg (fun y => y.2 rfl)]
      · rw [dgt_lo b a, dgt_lo b a]
    · rw [if_neg a, if_neg a]
  show trF (fun r => ZZ (cN c) (stp (cfx c (v + 1 + d) ((3 * x + k) * 3 ^ d + z))) r) (cM c * (v + 1 + d)) = trF (fun r => ZZ (cN c) (stp (cfx c (v + 1 + d) ((3 * x) * 3 ^ d + z))) r) (cM c * (v + 1 + d))
  rw [hst]
