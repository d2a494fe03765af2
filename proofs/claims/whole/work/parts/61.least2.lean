/-! the best of all calls, leaf by leaf -/
def nzF : Nat → Nat → Nat
  | 0, _ => 0
  | v + 1, x => nzF v (x / 3) + (if x % 3 = 0 then 0 else 1)
def Fo (tr : Nat → Bool) : Nat → Nat → Nat → Nat × Int → Nat × Int
  | 0, x, c, s => if tr x && decide (c < s.1) then (c, (x : Int)) else s
  | d + 1, x, c, s => Fo tr d (3 * x + 2) (c + 1) (Fo tr d (3 * x + 1) (c + 1) (Fo tr d (3 * x) c s))
def stR (tr : Nat → Bool) (L y : Nat) (s : Nat × Int) : Nat × Int := if tr y && decide (nzF L y < s.1) then (nzF L y, (y : Int)) else s
def lpR (tr : Nat → Bool) (L : Nat) : Nat → Nat → Nat × Int → Nat × Int
  | 0, _, s => s
  | k + 1, y, s => lpR tr L k (y + 1) (stR tr L y s)
theorem lpR_split (tr : Nat → Bool) (L : Nat) : ∀ a b y s, lpR tr L (a + b) y s = lpR tr L b (y + a) (lpR tr L a y s)
  | 0, b, y, s => by rw [Nat.zero_add]; rfl
  | a + 1, b, y, s => by
    rw [show a + 1 + b = (a + b) + 1 by omega]
    show lpR tr L (a + b) (y + 1) (stR tr L y s) = lpR tr L b (y + (a + 1)) (lpR tr L a (y + 1) (stR tr L y s))
    rw [lpR_split tr L a b, show y + 1 + a = y + (a + 1) by omega]
theorem nz_0 (v x : Nat) : nzF (v + 1) (3 * x) = nzF v x := by
  show nzF v (3 * x / 3) + (if 3 * x % 3 = 0 then 0 else 1) = _
  rw [if_pos (by omega), show 3 * x / 3 = x by omega]; rfl
theorem nz_k (v x k : Nat) (h1 : 1 ≤ k) (h2 : k ≤ 2) : nzF (v + 1) (3 * x + k) = nzF v x + 1 := by
  show nzF v ((3 * x + k) / 3) + (if (3 * x + k) % 3 = 0 then 0 else 1) = _
  rw [if_neg (by omega), show (3 * x + k) / 3 = x by omega]
theorem Fo_lp (tr : Nat → Bool) (L : Nat) : ∀ d v x s, v + d = L → Fo tr d x (nzF v x) s = lpR tr L (3 ^ d) (x * 3 ^ d) s
  | 0, v, x, s, h => by
    have : v = L := by omega
    subst this
    show _ = lpR tr v 1 (x * 1) s
    rw [Nat.mul_one]; rfl
  | d + 1, v, x, s, h => by
    have i0 := fun s => Fo_lp tr L d (v + 1) (3 * x) s (by omega)
    have i1 := fun s => Fo_lp tr L d (v + 1) (3 * x + 1) s (by omega)
    have i2 := fun s => Fo_lp tr L d (v + 1) (3 * x + 2) s (by omega)
    show Fo tr d (3 * x + 2) (nzF v x + 1) (Fo tr d (3 * x + 1) (nzF v x + 1) (Fo tr d (3 * x) (nzF v x) s)) = _
    rw [← nz_k v x 2 (by decide) (by decide), i2, nz_k v x 2 (by decide) (by decide), ← nz_k v x 1 (by decide) (by decide), i1, ← nz_0 v x, i0, Nat.pow_succ]
    have e : x * (3 ^ d * 3) = 3 * x * 3 ^ d := by rw [Nat.mul_comm (3 ^ d) 3, ← Nat.mul_assoc, Nat.mul_comm x 3]
    rw [e, show 3 ^ d * 3 = 3 ^ d + (3 ^ d + 3 ^ d) by omega, lpR_split, lpR_split]
    rw [show 3 * x * 3 ^ d + 3 ^ d = (3 * x + 1) * 3 ^ d by rw [Nat.add_mul, Nat.one_mul], show (3 * x + 1) * 3 ^ d + 3 ^ d = (3 * x + 2) * 3 ^ d by rw [Nat.add_mul, Nat.one_mul, Nat.add_mul, show 2 * 3 ^ d = 3 ^ d + 3 ^ d by omega, Nat.add_assoc]]
