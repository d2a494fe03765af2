/-! numbers as their 32 bits -/
def U (a : Int) : Nat := (Int32.ofInt a).toBitVec.toNat
theorem U_lt (a : Int) : U a < 4294967296 := (Int32.ofInt a).toBitVec.isLt
theorem U_nat {a : Int} (h0 : 0 ≤ a) (h1 : a < 4294967296) : (U a : Int) = a := by
  unfold U
  rw [Int32.toBitVec_ofInt, BitVec.toNat_ofInt]
  omega
theorem U_cast (n : Nat) (h : n < 4294967296) : U (n : Int) = n := by
  have := U_nat (a := (n : Int)) (by omega) (by omega)
  omega
theorem U_ti (x : Int32) : U x.toInt = x.toBitVec.toNat := by unfold U; rw [Int32.ofInt_toInt]
theorem rg_ti (x : Int32) : rg x.toInt := ⟨Int32.le_toInt x, Int32.toInt_lt x⟩
theorem U_inj {a b : Int} (ha : rg a) (hb : rg b) (h : U a = U b) : a = b := by
  unfold U at h
  have h1 : Int32.ofInt a = Int32.ofInt b := Int32.toBitVec_inj.mp (BitVec.eq_of_toNat_eq h)
  rw [← oi_t ha, ← oi_t hb, h1]
theorem U_pos {a : Int} (ha : rg a) (h : U a < 2147483648) : a = (U a : Int) :=
  U_inj ha ⟨by omega, by omega⟩ (U_cast _ (by omega)).symm
theorem rg_bnd (a b : Int) : rg (bnd a b) := rg_ti _
theorem rg_bor (a b : Int) : rg (bor a b) := rg_ti _
theorem rg_bxr (a b : Int) : rg (bxr a b) := rg_ti _
theorem rg_bsl (a b : Int) : rg (bsl a b) := rg_ti _
theorem rg_bsr (a b : Int) : rg (bsr a b) := rg_ti _
theorem rg_bur (a b : Int) : rg (bur a b) := rg_ti _
theorem U_bnd (a b : Int) : U (bnd a b) = U a &&& U b := by unfold bnd; rw [U_ti, Int32.toBitVec_and, BitVec.toNat_and]; rfl
theorem U_bor (a b : Int) : U (bor a b) = U a ||| U b := by unfold bor; rw [U_ti, Int32.toBitVec_or, BitVec.toNat_or]; rfl
theorem U_bxr (a b : Int) : U (bxr a b) = U a ^^^ U b := by unfold bxr; rw [U_ti, Int32.toBitVec_xor, BitVec.toNat_xor]; rfl
theorem sh_l : ∀ n : Nat, n < 32 → ((Int32.ofInt (n : Int) &&& 31).toBitVec.smod 32).toNat = n := by decide +kernel
theorem sh_u : ∀ n : Nat, n < 32 → (((Int32.ofInt (n : Int)).toUInt32 &&& Int32.toUInt32 31).toBitVec % 32).toNat = n := by decide +kernel
theorem U_bsl (a : Int) {k : Nat} (hk : k < 32) : U (bsl a (k : Int)) = U a * 2 ^ k % 4294967296 := by
  unfold bsl; rw [U_ti, pk_shl _ _ k (sh_l k hk)]; rfl
theorem U_bur (a : Int) {k : Nat} (hk : k < 32) : U (bur a (k : Int)) = U a / 2 ^ k := by
  unfold bur; rw [U_ti, pk_ushr _ _ k (sh_u k hk)]; rfl
theorem bsr_nat {a : Int} {k : Nat} (ha : rg a) (hk : k < 32) : bsr a (k : Int) = a / 2 ^ k := by
  unfold bsr; rw [pk_shr _ _ k (sh_l k hk), oi_t ha, Int.shiftRight_eq_div_pow]; rfl
/-- place p's four bits -/
def nb (x : Int) (p : Nat) : Nat := U x / 16 ^ p % 16
theorem nb_lt (x : Int) (p : Nat) : nb x p < 16 := Nat.mod_lt _ (by decide)
theorem p16 (p : Nat) : 2 ^ (4 * p) = 16 ^ p := by rw [Nat.pow_mul]
theorem bnd15 (a : Int) : bnd a 15 = ((U a % 16 : Nat) : Int) := by
  refine U_inj (rg_bnd _ _) ⟨by omega, by omega⟩ ?_
  rw [U_bnd, U_cast _ (by omega), show U 15 = 2 ^ 4 - 1 from by decide +kernel, Nat.and_two_pow_sub_one_eq_mod]
theorem bellIn_eq (r : Int) {p : Nat} (hp : p < 8) : bnd (bur r (4 * (((p : Int) + 1) - 1))) 15 = ((nb r p : Nat) : Int) := by
  rw [bnd15, show (4 * (((p : Int) + 1) - 1)) = ((4 * p : Nat) : Int) by omega, U_bur _ (by omega), p16]; rfl
/-- two numbers with the same eight places are one -/
theorem nb_ext {x y : Int} (hx : rg x) (hy : rg y) (h : ∀ p, p < 8 → nb x p = nb y p) : x = y := by
  refine U_inj hx hy ?_
  have a := U_lt x
  have b := U_lt y
  have h0 := h 0 (by decide); have h1 := h 1 (by decide); have h2 := h 2 (by decide); have h3 := h 3 (by decide)
  have h4 := h 4 (by decide); have h5 := h 5 (by decide); have h6 := h 6 (by decide); have h7 := h 7 (by decide)
  simp only [nb] at h0 h1 h2 h3 h4 h5 h6 h7
  generalize U x = u at *
  generalize U y = v at *
  simp only [Nat.reducePow] at *
  omega
theorem nb_bit (x : Int) (p j : Nat) (hj : j < 4) : (nb x p).testBit j = (U x).testBit (4 * p + j) := by
  unfold nb
  rw [show (16 : Nat) = 2 ^ 4 from rfl, Nat.testBit_mod_two_pow, ← Nat.pow_mul, Nat.testBit_div_two_pow]
  simp [hj, Nat.add_comm]
theorem nib_eq {a b : Nat} (ha : a < 16) (hb : b < 16) (h : ∀ j, j < 4 → a.testBit j = b.testBit j) : a = b := by
  apply Nat.eq_of_testBit_eq
  intro j
  by_cases q : j < 4
  · exact h j q
  · rw [Nat.testBit_lt_two_pow (Nat.lt_of_lt_of_le ha (by simpa using Nat.pow_le_pow_right (n := 2) (by decide) (show 4 ≤ j by omega))), Nat.testBit_lt_two_pow (Nat.lt_of_lt_of_le hb (by simpa using Nat.pow_le_pow_right (n := 2) (by decide) (show 4 ≤ j by omega)))]
/-- the pairs that swap, as their first places' four bits: M -/
def mk_ok (m : Int) (M : Nat → Bool) : Prop := (∀ i, i < 32 → (U m).testBit i = M (i / 4)) ∧ M 7 = false
def swp (r m : Int) : Int := bor (bor (bnd r (bxr (bor m (bsl m 4)) (-1))) (bsl (bnd r m) 4)) (bnd (bur r 4) m)
theorem tb_big {n i : Nat} (h : n < 4294967296) (hi : 32 ≤ i) : n.testBit i = false := Nat.testBit_lt_two_pow (Nat.lt_of_lt_of_le h (by simpa using Nat.pow_le_pow_right (n := 2) (by decide) hi))
theorem swp_bit (r m : Int) {i : Nat} (hi : i < 32) : (U (swp r m)).testBit i = (((U r).testBit i && !((U m).testBit i || (decide (4 ≤ i) && (U m).testBit (i - 4)))) || (decide (4 ≤ i) && ((U r).testBit (i - 4) && (U m).testBit (i - 4))) || ((U r).testBit (i + 4) && (U m).testBit i)) := by
  have e4 : (4 : Int) = ((4 : Nat) : Int) := rfl
  unfold swp
  rw [U_bor, U_bor, U_bnd, U_bxr, U_bor, e4, U_bsl _ (by decide), U_bsl _ (by decide), U_bnd, U_bnd, U_bur _ (by decide)]
  rw [show U (-1) = 2 ^ 32 - 1 from by decide +kernel]
  simp only [Nat.testBit_or, Nat.testBit_and, Nat.testBit_xor, show (4294967296 : Nat) = 2 ^ 32 from rfl, Nat.testBit_mod_two_pow, Nat.testBit_mul_two_pow, Nat.testBit_div_two_pow, Nat.testBit_two_pow_sub_one, hi, decide_true, Bool.true_and, Bool.xor_true]
/-- which place goes to place p -/
def par (M : Nat → Bool) (p : Nat) : Nat := if M p then p + 1 else if 0 < p ∧ M (p - 1) then p - 1 else p
theorem swp_nb {r m : Int} {M : Nat → Bool} (hM : mk_ok m M) (hA : ∀ p, p < 7 → ¬ (M p = true ∧ M (p + 1) = true)) {p : Nat} (hp : p < 8) : nb (swp r m) p = nb r (par M p) := by
  refine nib_eq (nb_lt _ _) (nb_lt _ _) (fun j hj => ?_)
  rw [nb_bit _ _ _ hj, nb_bit _ _ _ hj, swp_bit r m (by omega)]
  have e1 : (U m).testBit (4 * p + j) = M p := by rw [hM.1 _ (by omega)]; congr 1; omega
  rw [e1]
  by_cases h0 : p = 0
  · subst h0
    have : decide (4 ≤ 4 * 0 + j) = false := by simp; omega
    rw [this]
    simp only [par]
    cases hm : M 0
    · simp
    · simp only [if_true]
      rw [show 4 * 0 + j + 4 = 4 * (0 + 1) + j by omega]; simp
  · have e2 : decide (4 ≤ 4 * p + j) = true := by simp; omega
    have e3 : (U m).testBit (4 * p + j - 4) = M (p - 1) := by rw [hM.1 _ (by omega)]; congr 1; omega
    rw [e2, e3]
    simp only [par]
    cases hm : M p
    · cases hm2 : M (p - 1)
      · simp
      · simp only [Bool.false_eq_true, if_false]
        rw [if_pos ⟨by omega, trivial⟩, show 4 * p + j - 4 = 4 * (p - 1) + j by omega]; simp
    · have hm2 : M (p - 1) = false := by
        cases q : M (p - 1)
        · rfl
        · have := hA (p - 1) (by omega)
          rw [show p - 1 + 1 = p by omega] at this
          exact absurd ⟨q, hm⟩ this
      rw [hm2]
      simp only [if_true]
      rw [show 4 * p + j + 4 = 4 * (p + 1) + j by omega]; simp
