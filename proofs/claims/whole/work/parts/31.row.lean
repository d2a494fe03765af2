/-! changes and rows, as numbers -/
def gdF : Nat → Nat → Nat → Nat → Bool
  | 0, _, _, _ => true
  | f + 1, n, pl, p => if n ≤ p then true else if pl.testBit p then gdF f n pl (p + 1) else if n ≤ p + 1 then false else if pl.testBit (p + 1) then false else gdF f n pl (p + 2)
def GD (n pl : Nat) : Bool := decide (pl < 2 ^ n) && gdF 9 n pl 0
def mF : Nat → Nat → Nat → Nat → Nat → Bool
  | 0, _, _, _, _ => false
  | f + 1, n, pl, p, q => if n ≤ p then false else if pl.testBit p then mF f n pl (p + 1) q else (q == p) || mF f n pl (p + 2) q
def MM (n pl : Nat) : Nat → Bool := mF 9 n pl 0
def piF : Nat → Nat → Nat → Nat → Nat → Nat
  | 0, _, _, _, q => q
  | f + 1, n, pl, p, q => if n ≤ p then q else if pl.testBit p then (if q = p then q else piF f n pl (p + 1) q) else if q = p then p + 1 else if q = p + 1 then p else piF f n pl (p + 2) q
/-- the place whose bell comes to place q -/
def PI (n pl q : Nat) : Nat := piF 9 n pl 0 q
def prF : Nat → Int → Int → Int → Int → Int
  | 0, _, _, _, _ => -1
  | f + 1, n, pl, acc, k => if n ≤ k then acc else if bnd (bsr pl k) 1 = 0 then (if n ≤ k + 1 then -1 else if bnd (bsr pl (k + 1)) 1 = 0 then prF f n pl (bor acc (bsl 15 (4 * k))) (k + 2) else -1) else prF f n pl acc (k + 1)
def PR (n pl : Int) : Int := if pl < 0 then -1 else if bsr pl n = 0 then prF 9 n pl 0 0 else -1
def mkB (m : Int) (M : Nat → Bool) : Bool := (List.range 32).all (fun i => (U m).testBit i == M (i / 4)) && !(M 7) && (List.range 7).all (fun p => !(M p && M (p + 1)))
theorem pr_tab : ∀ n, n < 9 → 4 ≤ n → ∀ pl, pl < 256 → (GD n pl = true → mkB (PR n pl) (MM n pl) = true ∧ 0 ≤ PR n pl) ∧ (GD n pl = false → PR n pl = -1) := by decide +kernel
def piB (n pl : Nat) : Bool := (List.range 8).all fun q => if q < n then decide (PI n pl q < n) && (PI n pl (PI n pl q) == q && par (MM n pl) q == PI n pl q) else par (MM n pl) q == q
theorem piB_tab : ∀ n, n < 9 → 4 ≤ n → ∀ pl, pl < 256 → GD n pl = true → piB n pl = true := by decide +kernel
theorem pi_tab (n : Nat) (h9 : n < 9) (h4 : 4 ≤ n) (pl : Nat) (hpl : pl < 256) (hg : GD n pl = true) (q : Nat) (hq : q < 8) : (q < n → PI n pl q < n ∧ PI n pl (PI n pl q) = q ∧ par (MM n pl) q = PI n pl q) ∧ (¬ q < n → par (MM n pl) q = q) := by
  have h := List.all_eq_true.mp (piB_tab n h9 h4 pl hpl hg) q (List.mem_range.mpr hq)
  by_cases c : q < n
  · rw [if_pos c] at h
    simp only [Bool.and_eq_true, decide_eq_true_eq, beq_iff_eq] at h
    exact ⟨fun _ => ⟨h.1, h.2.1, h.2.2⟩, fun z => absurd c z⟩
  · rw [if_neg c] at h
    exact ⟨fun z => absurd z c, fun _ => by simpa using h⟩
theorem mkB_ok {m : Int} {M : Nat → Bool} (h : mkB m M = true) : mk_ok m M ∧ ∀ p, p < 7 → ¬ (M p = true ∧ M (p + 1) = true) := by
  simp only [mkB, Bool.and_eq_true, List.all_eq_true, List.mem_range, beq_iff_eq, Bool.not_eq_true', Bool.and_eq_false_imp] at h
  refine ⟨⟨h.1.1, h.1.2⟩, fun p hp hq => ?_⟩
  have := h.2 p hp hq.1
  rw [hq.2] at this; cases this
/-- a row of n bells as one number: f's bells in its places -/
def rwOK (n : Nat) (f : Nat → Nat) (x : Int) : Prop := rg x ∧ ∀ p, p < 8 → nb x p = if p < n then f p else 0
theorem swp_row {n pl : Nat} (h4 : 4 ≤ n) (h8 : n ≤ 8) (hpl : pl < 256) (hg : GD n pl = true) {f : Nat → Nat} {x : Int} (hx : rwOK n f x) : rwOK n (fun p => f (PI n pl p)) (swp x (PR n pl)) := by
  obtain ⟨hM, hA⟩ := mkB_ok ((pr_tab n (by omega) h4 pl hpl).1 hg).1
  refine ⟨rg_bor _ _, fun p hp => ?_⟩
  rw [swp_nb hM hA hp]
  have ht := pi_tab n (by omega) h4 pl hpl hg p hp
  by_cases hn : p < n
  · obtain ⟨a, b, c⟩ := ht.1 hn
    rw [c, hx.2 _ (by omega), if_pos a, if_pos hn]
  · rw [ht.2 hn, hx.2 p hp, if_neg hn, if_neg hn]
theorem rw_eq {n : Nat} (h8 : n ≤ 8) {f g : Nat → Nat} {x y : Int} (hx : rwOK n f x) (hy : rwOK n g y) : x = y ↔ ∀ p, p < n → f p = g p := by
  constructor
  · intro e p hp
    have a := hx.2 p (by omega); have b := hy.2 p (by omega)
    rw [if_pos hp] at a b; rw [← a, ← b, e]
  · intro e
    refine nb_ext hx.1 hy.1 (fun p hp => ?_)
    rw [hx.2 p hp, hy.2 p hp]
    by_cases hn : p < n
    · rw [if_pos hn, if_pos hn, e p hn]
    · rw [if_neg hn, if_neg hn]
/-- the rows: P r is the change from row r on -/
def RF (n : Nat) (P : Nat → Nat) : Nat → Nat → Nat
  | 0, p => p + 1
  | r + 1, p => RF n P r (PI n (P r) p)
def gdP (n : Nat) (P : Nat → Nat) (last : Nat) : Prop := ∀ r, r < last → P r < 256 ∧ GD n (P r) = true
theorem RF_in {n : Nat} (h4 : 4 ≤ n) (h8 : n ≤ 8) {P : Nat → Nat} {last : Nat} (hP : gdP n P last) : ∀ r, r ≤ last → ∀ p, p < n → 1 ≤ RF n P r p ∧ RF n P r p ≤ n
  | 0, _, p, hp => ⟨Nat.le_add_left 1 p, hp⟩
  | r + 1, hr, p, hp => RF_in h4 h8 hP r (by omega) _ ((pi_tab n (by omega) h4 _ (hP r (by omega)).1 (hP r (by omega)).2 p (by omega)).1 hp).1
theorem RF_sur {n : Nat} (h4 : 4 ≤ n) (h8 : n ≤ 8) {P : Nat → Nat} {last : Nat} (hP : gdP n P last) : ∀ r, r ≤ last → ∀ b, 1 ≤ b → b ≤ n → ∃ p, p < n ∧ RF n P r p = b
  | 0, _, b, h1, h2 => ⟨b - 1, by omega, by show b - 1 + 1 = b; omega⟩
  | r + 1, hr, b, h1, h2 => by
    obtain ⟨p, hp, e⟩ := RF_sur h4 h8 hP r (by omega) b h1 h2
    obtain ⟨a, c, -⟩ := (pi_tab n (by omega) h4 _ (hP r (by omega)).1 (hP r (by omega)).2 p (by omega)).1 hp
    exact ⟨PI n (P r) p, a, by show RF n P r (PI n (P r) (PI n (P r) p)) = b; rw [c]; exact e⟩
theorem RF_inj {n : Nat} (h4 : 4 ≤ n) (h8 : n ≤ 8) {P : Nat → Nat} {last : Nat} (hP : gdP n P last) : ∀ r, r ≤ last → ∀ p q, p < n → q < n → RF n P r p = RF n P r q → p = q
  | 0, _, p, q, _, _, e => Nat.succ.inj e
  | r + 1, hr, p, q, hp, hq, e => by
    obtain ⟨a, c, -⟩ := (pi_tab n (by omega) h4 _ (hP r (by omega)).1 (hP r (by omega)).2 p (by omega)).1 hp
    obtain ⟨a2, c2, -⟩ := (pi_tab n (by omega) h4 _ (hP r (by omega)).1 (hP r (by omega)).2 q (by omega)).1 hq
    have := RF_inj h4 h8 hP r (by omega) _ _ a a2 e
    rw [← c, ← c2, this]
theorem RF_cong {n : Nat} {P P' : Nat → Nat} : ∀ r, (∀ q, q < r → P' q = P q) → RF n P' r = RF n P r
  | 0, _ => rfl
  | r + 1, h => by
    funext p
    show RF n P' r (PI n (P' r) p) = RF n P r (PI n (P r) p)
    rw [RF_cong r (fun q hq => h q (by omega)), h r (by omega)]
/-! the class's own small methods -/
theorem bit_eq {pl : Nat} (h : pl < 2147483648) {k : Nat} (hk : k < 32) : bnd (bsr (pl : Int) (k : Int)) 1 = if pl.testBit k then 1 else 0 := by
  have e1 : bsr (pl : Int) (k : Int) = ((pl / 2 ^ k : Nat) : Int) := by
    rw [bsr_nat ⟨by omega, by omega⟩ hk]; rfl
  have hlt : pl / 2 ^ k < 4294967296 := Nat.lt_of_le_of_lt (Nat.div_le_self _ _) (by omega)
  refine U_inj (rg_bnd _ _) (by split <;> decide) ?_
  rw [U_bnd, e1, U_cast _ hlt, show U 1 = 2 ^ 1 - 1 from by decide +kernel, Nat.and_two_pow_sub_one_eq_mod, Nat.testBit_eq_decide_div_mod_eq]
  simp only [Nat.pow_one]
  by_cases q : pl / 2 ^ k % 2 = 1
  · rw [q]; simp; decide +kernel
  · have : pl / 2 ^ k % 2 = 0 := by omega
    rw [this]; simp; decide +kernel
theorem s_isKept {pl k : Nat} (h : pl < 2147483648) (hk : k < 32) {post : Int → Prop} (hp : post (if pl.testBit k then 1 else 0)) : wp_X2_isKept (pl : Int) (k : Int) post := by
  unfold wp_X2_isKept
  rw [bit_eq h hk]
  cases q : pl.testBit k <;> rw [q] at hp <;> simp at hp ⊢ <;> exact ⟨by omega, hp⟩
theorem s_pairs_16 {n pl : Nat} (h8 : n ≤ 8) (hpl : pl < 256) {post : Int → Prop} : ∀ (f k : Nat) (acc : Int), n < k + f → k ≤ n → post (prF f n pl acc k) → wp_X2_pairs_16 post f n pl acc k
  | 0, k, acc, h, h2, hp => by omega
  | f + 1, k, acc, h, h2, hp => by
    unfold wp_X2_pairs_16
    unfold prF at hp
    refine ⟨⟨by omega, by omega⟩, ⟨by omega, by omega⟩, fun c => by rwa [if_pos c] at hp, fun c => ?_⟩
    rw [if_neg c] at hp
    refine s_isKept (by omega) (by omega) ?_
    rw [bit_eq (by omega) (by omega)] at hp
    cases q : pl.testBit k
    · rw [q] at hp
      simp only [Bool.false_eq_true, if_false, if_true] at hp ⊢
      refine ⟨by omega, fun _ => ⟨⟨by omega, by omega⟩, ⟨by omega, by omega⟩, fun c2 => by rwa [if_pos c2] at hp, fun c2 => ?_⟩, fun c2 => absurd trivial c2⟩
      rw [if_neg c2] at hp
      have e1 : ((k : Int) + 1) = ((k + 1 : Nat) : Int) := by omega
      rw [e1] at hp ⊢
      refine s_isKept (by omega) (by omega) ?_
      rw [bit_eq (by omega) (by omega)] at hp
      cases q2 : pl.testBit (k + 1)
      · rw [q2] at hp
        simp only [Bool.false_eq_true, if_false, if_true] at hp ⊢
        refine ⟨by omega, fun _ => ?_, fun c2 => absurd trivial c2⟩
        have e2 : ((k : Int) + 2) = ((k + 2 : Nat) : Int) := by omega
        rw [e2] at hp ⊢
        exact s_pairs_16 h8 hpl f (k + 2) _ (by omega) (by omega) hp
      · rw [q2] at hp
        simp at hp ⊢
        exact ⟨by omega, hp⟩
    · rw [q] at hp
      simp only [if_true] at hp ⊢
      rw [if_neg (by omega)] at hp
      have e1 : ((k : Int) + 1) = ((k + 1 : Nat) : Int) := by omega
      rw [e1] at hp ⊢
      refine ⟨by omega, fun c => absurd c (by omega), fun _ => s_pairs_16 h8 hpl f (k + 1) _ (by omega) (by omega) hp⟩
theorem s_pairs {n pl : Nat} (h8 : n ≤ 8) (hpl : pl < 256) {post : Int → Prop} (hp : post (PR n pl)) : wp_X2_pairs n pl post := by
  unfold wp_X2_pairs
  unfold PR at hp
  rw [if_neg (by omega)] at hp
  refine ⟨⟨by omega, by omega⟩, fun c => absurd c (by omega), fun _ => ⟨rg_bsr _ _, fun c => ?_, fun c => by rwa [if_neg c] at hp⟩⟩
  rw [if_pos c] at hp
  exact ⟨9, s_pairs_16 h8 hpl 9 0 0 (by omega) (by omega) hp⟩
theorem PR_m1 {n pl : Nat} (h4 : 4 ≤ n) (h8 : n ≤ 8) (hpl : pl < 256) : PR n pl = -1 ↔ GD n pl = false := by
  have h := pr_tab n (by omega) h4 pl hpl
  cases q : GD n pl
  · exact ⟨fun _ => rfl, fun _ => h.2 q⟩
  · have := (h.1 q).2
    exact ⟨fun e => by omega, fun e => by cases e⟩
theorem PR_rg {n pl : Nat} (h4 : 4 ≤ n) (h8 : n ≤ 8) (hpl : pl < 256) : rg (PR n pl) := by
  have : ∀ f (n pl acc k : Int), rg acc → rg (prF f n pl acc k) := by
    intro f; induction f with
    | zero => intro n pl acc k ha; show rg (-1); decide
    | succ f ih =>
      intro n pl acc k ha
      unfold prF
      split
      · exact ha
      · split
        · split
          · decide
          · split
            · exact ih _ _ _ _ (rg_bor _ _)
            · decide
        · exact ih _ _ _ _ ha
  unfold PR
  split
  · decide
  · split
    · exact this _ _ _ _ _ (by decide)
    · decide
theorem s_isGood {n pl : Nat} (h4 : 4 ≤ n) (h8 : n ≤ 8) (hpl : pl < 256) {post : Int → Prop} (hp : post (if GD n pl then 1 else 0)) : wp_X2_isGood n pl post := by
  unfold wp_X2_isGood
  refine s_pairs h8 hpl ⟨PR_rg h4 h8 hpl, fun c => ?_, fun c => ?_⟩
  · rw [(PR_m1 h4 h8 hpl).mp c] at hp; exact hp
  · cases q : GD n pl
    · exact absurd ((PR_m1 h4 h8 hpl).mpr q) c
    · rw [q] at hp; exact hp
theorem s_swapped {x m : Int} {post : Int → Prop} (hp : post (swp x m)) : wp_X2_swapped x m post := hp
theorem s_bellIn {x : Int} {p : Nat} (h : p < 8) {post : Int → Prop} (hp : post (nb x p : Nat)) : wp_X2_bellIn x ((p : Int) + 1) post := by
  unfold wp_X2_bellIn; rw [bellIn_eq x h]; exact hp
def RND : Nat → Int
  | 4 => 17185 | 5 => 344865 | 6 => 6636321 | 7 => 124076833 | 8 => -2023406815 | _ => 0
theorem s_rounds {n : Nat} (h4 : 4 ≤ n) (h8 : n ≤ 8) {post : Int → Prop} (hp : post (RND n)) : wp_X2_rounds n post := by
  refine ⟨10, ?_⟩
  have hs : ∀ (n : Nat) (f : Nat), n ≤ 8 → ∀ (k : Nat) (acc : Int), n + 1 < k + f → k ≤ n + 1 → post ((List.range (n + 1 - k)).foldl (fun a i => bor a (bsl ((k + i : Nat) : Int) ((4 * (k + i - 1) : Nat) : Int))) acc) → 1 ≤ k → wp_X2_rounds_4 post f n acc k := by
    intro n f h8
    induction f with
    | zero => intro k acc h1 h2; omega
    | succ f ih =>
      intro k acc h1 h2 hp hk
      unfold wp_X2_rounds_4
      refine ⟨⟨by omega, by omega⟩, ⟨by omega, by omega⟩, fun c => ?_, fun c => ?_⟩
      · rw [show n + 1 - k = 0 by omega] at hp; exact hp
      · have e1 : ((k : Int) + 1) = ((k + 1 : Nat) : Int) := by omega
        rw [e1]
        refine ih (k + 1) _ (by omega) (by omega) ?_ (by omega)
        rw [show n + 1 - k = (n + 1 - (k + 1)) + 1 by omega, List.range_succ_eq_map, List.foldl_cons, List.foldl_map] at hp
        have e2 : (4 * ((k : Int) - 1)) = ((4 * (k + 0 - 1) : Nat) : Int) := by omega
        rw [e2]
        have e3 : (fun (a : Int) (i : Nat) => bor a (bsl ((k + 1 + i : Nat) : Int) ((4 * (k + 1 + i - 1) : Nat) : Int))) = fun (a : Int) (i : Nat) => bor a (bsl ((k + i.succ : Nat) : Int) ((4 * (k + i.succ - 1) : Nat) : Int)) := by
          funext a i; rw [show k + 1 + i = k + i.succ by omega]
        rw [e3]
        exact hp
  refine hs n 10 h8 1 0 (by omega) (by omega) ?_ (by omega)
  have : ∀ n, n < 9 → 4 ≤ n → (List.range (n + 1 - 1)).foldl (fun a i => bor a (bsl ((1 + i : Nat) : Int) ((4 * (1 + i - 1) : Nat) : Int))) 0 = RND n := by decide +kernel
  rw [this n (by omega) h4]; exact hp
theorem RND_ok {n : Nat} (h4 : 4 ≤ n) (h8 : n ≤ 8) (P : Nat → Nat) : rwOK n (RF n P 0) (RND n) := by
  have : ∀ n, n < 9 → 4 ≤ n → rg (RND n) ∧ ∀ p, p < 8 → nb (RND n) p = if p < n then p + 1 else 0 := by decide +kernel
  exact this n (by omega) h4
/-- the first place of a bell -/
def plF (f : Nat → Nat) (b : Nat) : Nat → Nat → Nat
  | 0, p => p
  | k + 1, p => if f p = b then p else plF f b k (p + 1)
theorem plF_spec {f : Nat → Nat} {b : Nat} : ∀ (k p q : Nat), p ≤ q → q < p + k → f q = b → (∀ z, p ≤ z → z < q → f z ≠ b) → plF f b k p = q
  | 0, p, q, h1, h2, _, _ => by omega
  | k + 1, p, q, h1, h2, h3, h4 => by
    unfold plF
    by_cases c : f p = b
    · rw [if_pos c]
      rcases Nat.lt_or_ge p q with z | z
      · exact absurd c (h4 p (Nat.le_refl _) z)
      · omega
    · rw [if_neg c]
      have : p ≠ q := fun e => c (by rw [e]; exact h3)
      exact plF_spec k (p + 1) q (by omega) (by omega) h3 (fun z a b => h4 z (by omega) b)
theorem s_placeOf {n b q : Nat} {f : Nat → Nat} {x : Int} (h8 : n ≤ 8) (hx : rwOK n f x) (hb : 1 ≤ b) (hb2 : b ≤ 8) (hq : q < n) (hf : f q = b) (hu : ∀ z, z < q → f z ≠ b) {post : Int → Prop} (hp : post ((q : Int) + 1)) : wp_X2_placeOf x b post := by
  have hs : ∀ (fu p : Nat), p ≤ q → q < p + fu → wp_X2_placeOf_2 post fu x b ((p : Int) + 1) := by
    intro fu
    induction fu with
    | zero => intro p h1 h2; omega
    | succ fu ih =>
      intro p h1 h2
      unfold wp_X2_placeOf_2
      refine ⟨⟨by omega, by omega⟩, fun c => by omega, fun _ => ?_⟩
      refine s_bellIn (by omega) ?_
      rw [hx.2 p (by omega), if_pos (by omega)]
      have hlt : f p < 16 := by have := hx.2 p (by omega); rw [if_pos (by omega)] at this; rw [← this]; exact nb_lt _ _
      refine ⟨⟨by omega, by omega⟩, ⟨by omega, by omega⟩, fun c => ?_, fun c => ?_⟩
      · have : p ≠ q := fun e => c (by rw [e, hf])
        have e1 : ((p : Int) + 1 + 1) = ((p + 1 : Nat) : Int) + 1 := by omega
        rw [e1]
        exact ih (p + 1) (by omega) (by omega)
      · rcases Nat.lt_or_ge p q with z | z
        · exact absurd (by omega) (hu p z)
        · rw [show p = q by omega]; exact hp
  exact ⟨9, hs 9 0 (by omega) (by omega)⟩
