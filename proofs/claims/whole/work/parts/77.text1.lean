/-! texts: the parse as a function of the signs -/
abbrev Ps : Type := Nat × Nat × (Nat → Int)
def kpP (s : Ps) (v : Int) : Ps := (s.1, s.2.1 + 1, fun i => if i = s.2.1 then v else s.2.2 i)
def adP (s : Ps) : Ps := (s.1 + 1, s.2.1, s.2.2)
def dgP (g : Nat → Int) : Nat → Nat → Int → Nat → Nat × Int × Nat
  | 0, p, b, k => (p, b, k)
  | f + 1, p, b, k => if 49 ≤ g p ∧ g p ≤ 56 then dgP g f (p + 1) (bor b (bsl 1 (g p - 49))) (k + 1) else (p, b, k)
theorem dgP_t {g : Nat → Int} {f p : Nat} {b : Int} {k : Nat} (h : 49 ≤ g p ∧ g p ≤ 56) : dgP g (f + 1) p b k = dgP g f (p + 1) (bor b (bsl 1 (g p - 49))) (k + 1) := by
  show (if 49 ≤ g p ∧ g p ≤ 56 then dgP g f (p + 1) (bor b (bsl 1 (g p - 49))) (k + 1) else (p, b, k)) = _
  rw [if_pos h]
theorem dgP_f {g : Nat → Int} {f p : Nat} {b : Int} {k : Nat} (h : ¬ (49 ≤ g p ∧ g p ≤ 56)) : dgP g f p b k = (p, b, k) := by
  cases f with
  | zero => rfl
  | succ f =>
    show (if 49 ≤ g p ∧ g p ≤ 56 then dgP g f (p + 1) (bor b (bsl 1 (g p - 49))) (k + 1) else (p, b, k)) = _
    rw [if_neg h]
def digP (g : Nat → Int) (s : Ps) : Bool × Ps := if (dgP g 8 s.1 0 0).2.2 = 0 then (false, ((dgP g 8 s.1 0 0).1, s.2.1, s.2.2)) else (true, kpP ((dgP g 8 s.1 0 0).1, s.2.1, s.2.2) (dgP g 8 s.1 0 0).2.1)
def wdP (g : Nat → Int) (s : Ps) : Bool × Ps := if g s.1 = 120 then (true, kpP (adP s) 0) else digP g s
def wsP (g : Nat → Int) : Nat → Bool → Ps → Bool × Ps
  | 0, _, s => (true, s)
  | f + 1, x, s => if x = false ∧ g s.1 = 46 then (if 49 ≤ g (s.1 + 1) ∧ g (s.1 + 1) ≤ 56 then wsP g f false (wdP g (adP s)).2 else (false, adP s)) else if g s.1 = 120 ∨ (x = true ∧ (49 ≤ g s.1 ∧ g s.1 ≤ 56)) then wsP g f (decide (g s.1 = 120)) (wdP g s).2 else (true, s)
def coF (x : Int) : Int := if x = 112 then 0 else if x = 98 then 1 else if x = 115 then 2 else -1
def clP (g : Nat → Int) : Nat → Ps → Ps
  | 0, s => s
  | f + 1, s => if coF (g s.1) = -1 then s else clP g f (adP (kpP s (coF (g s.1))))
def cuP (g : Nat → Int) (s : Ps) : Bool × Ps :=
  if g s.1 = 110 then (if 48 ≤ g (s.1 + 1) ∧ g (s.1 + 1) ≤ 57 then (true, kpP (adP (adP s)) (g (s.1 + 1) - 48)) else (false, adP s))
  else if g s.1 = 109 then (if (wdP g (adP s)).1 = true then wsP g 15 (decide (g (s.1 + 1) = 120)) (wdP g (adP s)).2 else wdP g (adP s))
  else if g s.1 = 98 ∨ g s.1 = 115 then wdP g (adP s)
  else if g s.1 = 99 then (decide (s.2.1 < (clP g 12 (adP s)).2.1), clP g 12 (adP s))
  else (false, s)
abbrev Pr : Type := Int × Nat × Ps × (Nat → Int) × (Nat → Nat)
def paP (g : Nat → Int) : Nat → Nat → Ps → (Nat → Int) → (Nat → Nat) → Pr
  | 0, c, s, K, S => ((s.1 : Int), c, s, K, S)
  | f + 1, c, s, K, S =>
    if (cuP g s).1 = false then (((cuP g s).2.1 : Int), c, (cuP g s).2, (fun i => if i = c then g s.1 else K i), (fun i => if i = c then s.2.1 else S i))
    else if g (cuP g s).2.1 = -1 then (-5, c + 1, (cuP g s).2, (fun i => if i = c then g s.1 else K i), (fun i => if i = c + 1 then (cuP g s).2.2.1 else if i = c then s.2.1 else S i))
    else if g (cuP g s).2.1 ≠ 59 ∨ c + 1 = 10 then (((cuP g s).2.1 : Int), c + 1, (cuP g s).2, (fun i => if i = c then g s.1 else K i), (fun i => if i = c + 1 then (cuP g s).2.2.1 else if i = c then s.2.1 else S i))
    else paP g f (c + 1) (adP (cuP g s).2) (fun i => if i = c then g s.1 else K i) (fun i => if i = c + 1 then (cuP g s).2.2.1 else if i = c then s.2.1 else S i)
/-! what holds of it -/
def TX (len : Nat) (t : Nat → Int) : Prop := len ≤ 100 ∧ ∀ i, i < len → 0 ≤ t i ∧ t i ≤ 127
def sgn (len : Nat) (t : Nat → Int) (p : Nat) : Int := if p < len then t p else -1
theorem sgn_lt {len p : Nat} {t : Nat → Int} (h : sgn len t p ≠ -1) : p < len := by
  apply Classical.byContradiction
  intro z
  exact h (by unfold sgn; rw [if_neg z])
theorem sgn_in {len p : Nat} {t : Nat → Int} (h : p < len) : sgn len t p = t p := by unfold sgn; rw [if_pos h]
theorem sgn_rg {len p : Nat} {t : Nat → Int} (hT : TX len t) : rg (sgn len t p) := by
  unfold sgn
  split
  · have := hT.2 p (by assumption); exact ⟨by omega, by omega⟩
  · decide
def OKs (len : Nat) (s : Ps) : Prop := s.2.1 ≤ s.1 ∧ s.1 ≤ len
def GR (len : Nat) (B : Int → Prop) (s s' : Ps) : Prop := OKs len s' ∧ s.1 ≤ s'.1 ∧ s.2.1 ≤ s'.2.1 ∧ (∀ i, i < s.2.1 → s'.2.2 i = s.2.2 i) ∧ ∀ i, s.2.1 ≤ i → i < s'.2.1 → B (s'.2.2 i)
theorem GR_refl {len : Nat} {B : Int → Prop} {s : Ps} (h : OKs len s) : GR len B s s := ⟨h, Nat.le_refl _, Nat.le_refl _, fun _ _ => rfl, fun i a b => by omega⟩
theorem GR_trans {len : Nat} {B : Int → Prop} {s s' s'' : Ps} (h : GR len B s s') (h' : GR len B s' s'') : GR len B s s'' := by
  obtain ⟨a1, a2, a3, a4, a5⟩ := h
  obtain ⟨b1, b2, b3, b4, b5⟩ := h'
  refine ⟨b1, by omega, by omega, fun i hi => by rw [b4 i (by omega), a4 i hi], fun i h1 h2 => ?_⟩
  rcases Nat.lt_or_ge i s'.2.1 with z | z
  · rw [b4 i z]; exact a5 i h1 z
  · exact b5 i z h2
theorem GR_mono {len : Nat} {B B' : Int → Prop} {s s' : Ps} (hB : ∀ v, B v → B' v) (h : GR len B s s') : GR len B' s s' := ⟨h.1, h.2.1, h.2.2.1, h.2.2.2.1, fun i a b => hB _ (h.2.2.2.2 i a b)⟩
theorem GR_pl {len : Nat} {B : Int → Prop} {s : Ps} {p' : Nat} (h : OKs len s) (h1 : s.1 ≤ p') (h2 : p' ≤ len) : GR len B s (p', s.2.1, s.2.2) := ⟨⟨by have := h.1; show s.2.1 ≤ p'; omega, h2⟩, h1, Nat.le_refl _, fun _ _ => rfl, fun i (a : s.2.1 ≤ i) (b : i < s.2.1) => by omega⟩
theorem GR_new {len : Nat} {B : Int → Prop} {s : Ps} {p' : Nat} {v : Int} (h : OKs len s) (h1 : s.1 < p') (h2 : p' ≤ len) (hv : B v) : GR len B s (p', s.2.1 + 1, fun i => if i = s.2.1 then v else s.2.2 i) := by
  refine ⟨⟨by have := h.1; show s.2.1 + 1 ≤ p'; omega, h2⟩, by show s.1 ≤ p'; omega, Nat.le_succ _, fun i hi => ?_, fun i (a : s.2.1 ≤ i) (b : i < s.2.1 + 1) => ?_⟩
  · show (if i = s.2.1 then v else s.2.2 i) = _
    rw [if_neg (by omega)]
  · show B (if i = s.2.1 then v else s.2.2 i)
    rw [if_pos (by omega)]; exact hv
def B256 (v : Int) : Prop := 0 ≤ v ∧ v < 256
theorem bor_b {b : Int} {k : Nat} (hb : B256 b) (hk : k < 8) : B256 (bor b (bsl 1 (k : Int))) := by
  obtain ⟨n, rfl, -, hn⟩ := natOf (v := b) (a := 0) (b := 255) (by have := hb.1; omega) (by have := hb.2; omega)
  have h2 : (2 : Nat) ^ k < 256 := by
    have : (2 : Nat) ^ k < 2 ^ 8 := Nat.pow_lt_pow_right (by decide) hk
    simpa using this
  have hU : U (bor (n : Int) (bsl 1 (k : Int))) < 256 := by
    rw [U_bor, sl1 k (by omega), U_cast _ (by omega), U_cast _ (by omega)]
    exact Nat.or_lt_two_pow (n := 8) (by omega) h2
  have := U_pos (rg_bor (n : Int) (bsl 1 (k : Int))) (by omega)
  rw [this]; exact ⟨by omega, by omega⟩
theorem dgP_spec {len : Nat} {t : Nat → Int} : ∀ (f p : Nat) (b : Int) (k : Nat), p ≤ len → B256 b → (dgP (sgn len t) f p b k).1 ≤ len ∧ B256 (dgP (sgn len t) f p b k).2.1 ∧ (dgP (sgn len t) f p b k).2.2 ≤ k + f ∧ (((dgP (sgn len t) f p b k).2.2 = k ∧ (dgP (sgn len t) f p b k).1 = p) ∨ (p < (dgP (sgn len t) f p b k).1 ∧ k < (dgP (sgn len t) f p b k).2.2 ∧ 49 ≤ sgn len t ((dgP (sgn len t) f p b k).1 - 1) ∧ sgn len t ((dgP (sgn len t) f p b k).1 - 1) ≤ 56))
  | 0, p, b, k, hp, hb => ⟨hp, hb, Nat.le_refl _, Or.inl ⟨rfl, rfl⟩⟩
  | f + 1, p, b, k, hp, hb => by
    by_cases c : 49 ≤ sgn len t p ∧ sgn len t p ≤ 56
    · rw [dgP_t c]
      have hlt : p < len := sgn_lt (t := t) (by omega)
      obtain ⟨m, hm, -, hm8⟩ := natOf (v := sgn len t p - 49) (a := 0) (b := 7) (by omega) (by omega)
      obtain ⟨a1, a2, a3, a4⟩ := dgP_spec (len := len) (t := t) f (p + 1) (bor b (bsl 1 (sgn len t p - 49))) (k + 1) (by omega) (by rw [hm]; exact bor_b hb (by omega))
      refine ⟨a1, a2, by omega, Or.inr ?_⟩
      rcases a4 with ⟨e1, e2⟩ | ⟨e1, e2, e3⟩
      · refine ⟨by omega, by omega, ?_⟩
        rw [e2, show p + 1 - 1 = p by omega]; exact c
      · exact ⟨by omega, by omega, e3⟩
    · rw [dgP_f c]; exact ⟨hp, hb, by show k ≤ k + (f + 1); omega, Or.inl ⟨rfl, rfl⟩⟩
theorem dig_no {g : Nat → Int} {s : Ps} (h : ¬ (49 ≤ g s.1 ∧ g s.1 ≤ 56)) : digP g s = (false, s) := by
  unfold digP
  rw [dgP_f h, if_pos rfl]
theorem dig_ok {len : Nat} {t : Nat → Int} {s : Ps} (hO : OKs len s) : GR len B256 s (digP (sgn len t) s).2 ∧ ((digP (sgn len t) s).1 = true → (digP (sgn len t) s).2.2.1 = s.2.1 + 1 ∧ s.1 < (digP (sgn len t) s).2.1 ∧ 49 ≤ sgn len t ((digP (sgn len t) s).2.1 - 1) ∧ sgn len t ((digP (sgn len t) s).2.1 - 1) ≤ 56) ∧ ((49 ≤ sgn len t s.1 ∧ sgn len t s.1 ≤ 56) → (digP (sgn len t) s).1 = true) := by
  obtain ⟨a1, a2, a3, a4⟩ := dgP_spec (len := len) (t := t) 8 s.1 0 0 hO.2 ⟨by decide, by decide⟩
  have a5 : (49 ≤ sgn len t s.1 ∧ sgn len t s.1 ≤ 56) → (dgP (sgn len t) 8 s.1 0 0).2.2 ≠ 0 := fun c => by
    rw [show (8 : Nat) = 7 + 1 from rfl, dgP_t c]
    have hlt : s.1 < len := sgn_lt (t := t) (by omega)
    obtain ⟨m, hm, -, hm8⟩ := natOf (v := sgn len t s.1 - 49) (a := 0) (b := 7) (by omega) (by omega)
    obtain ⟨-, -, -, b4⟩ := dgP_spec (len := len) (t := t) 7 (s.1 + 1) (bor 0 (bsl 1 (sgn len t s.1 - 49))) (0 + 1) (by omega) (by rw [hm]; exact bor_b ⟨by decide, by decide⟩ (by omega))
    rcases b4 with b4 | b4 <;> omega
  unfold digP
  by_cases z : (dgP (sgn len t) 8 s.1 0 0).2.2 = 0
  · rw [if_pos z]
    refine ⟨GR_pl hO (by rcases a4 with a4 | a4 <;> omega) a1, fun y => absurd y Bool.false_ne_true, fun y => absurd z (a5 y)⟩
  · rw [if_neg z]
    have h1 : s.1 < (dgP (sgn len t) 8 s.1 0 0).1 := by rcases a4 with a4 | a4 <;> omega
    refine ⟨GR_new hO h1 a1 a2, fun _ => ⟨rfl, h1, ?_⟩, fun _ => rfl⟩
    rcases a4 with a4 | a4
    · omega
    · exact a4.2.2
theorem wd_ok {len : Nat} {t : Nat → Int} {s : Ps} (hO : OKs len s) : GR len B256 s (wdP (sgn len t) s).2 ∧ ((wdP (sgn len t) s).1 = true → (wdP (sgn len t) s).2.2.1 = s.2.1 + 1 ∧ s.1 < (wdP (sgn len t) s).2.1 ∧ (sgn len t ((wdP (sgn len t) s).2.1 - 1) = 120 ↔ sgn len t s.1 = 120)) ∧ ((sgn len t s.1 = 120 ∨ (49 ≤ sgn len t s.1 ∧ sgn len t s.1 ≤ 56)) → (wdP (sgn len t) s).1 = true) := by
  unfold wdP
  by_cases z : sgn len t s.1 = 120
  · rw [if_pos z]
    have hlt : s.1 < len := sgn_lt (t := t) (by omega)
    refine ⟨GR_new hO (Nat.lt_succ_self _) hlt ⟨by decide, by decide⟩, fun _ => ⟨rfl, Nat.lt_succ_self _, ?_⟩, fun _ => rfl⟩
    show sgn len t (s.1 + 1 - 1) = 120 ↔ _
    rw [Nat.add_sub_cancel]
  · rw [if_neg z]
    obtain ⟨b1, b2, b3⟩ := dig_ok (t := t) hO
    exact ⟨b1, fun y => ⟨(b2 y).1, (b2 y).2.1, ⟨fun e => by have := (b2 y).2.2; omega, fun e => absurd e z⟩⟩, fun y => b3 (y.resolve_left z)⟩
theorem ws_ok {len : Nat} {t : Nat → Int} : ∀ (f : Nat) (x : Bool) (s : Ps), OKs len s → GR len B256 s (wsP (sgn len t) f x s).2 ∧ (wsP (sgn len t) f x s).2.2.1 ≤ s.2.1 + f
  | 0, _, s, hO => ⟨GR_refl hO, Nat.le_refl _⟩
  | f + 1, x, s, hO => by
    unfold wsP
    by_cases c : x = false ∧ sgn len t s.1 = 46
    · rw [if_pos c]
      have hlt : s.1 < len := sgn_lt (t := t) (by omega)
      have hA : GR len B256 s (adP s) := GR_pl hO (Nat.le_succ _) hlt
      by_cases c2 : 49 ≤ sgn len t (s.1 + 1) ∧ sgn len t (s.1 + 1) ≤ 56
      · rw [if_pos c2]
        obtain ⟨b1, b2, b3⟩ := wd_ok (t := t) hA.1
        have b4 := (b2 (b3 (Or.inr c2))).1
        obtain ⟨d1, d2⟩ := ws_ok (len := len) (t := t) f false _ b1.1
        refine ⟨GR_trans hA (GR_trans b1 d1), ?_⟩
        have : (adP s).2.1 = s.2.1 := rfl
        omega
      · rw [if_neg c2]; exact ⟨hA, by show s.2.1 ≤ s.2.1 + (f + 1); omega⟩
    · rw [if_neg c]
      by_cases c2 : sgn len t s.1 = 120 ∨ (x = true ∧ (49 ≤ sgn len t s.1 ∧ sgn len t s.1 ≤ 56))
      · rw [if_pos c2]
        obtain ⟨b1, b2, b3⟩ := wd_ok (t := t) hO
        have b4 := (b2 (b3 (c2.imp id (fun y => y.2)))).1
        obtain ⟨d1, d2⟩ := ws_ok (len := len) (t := t) f (decide (sgn len t s.1 = 120)) _ b1.1
        exact ⟨GR_trans b1 d1, by omega⟩
      · rw [if_neg c2]; exact ⟨GR_refl hO, by show s.2.1 ≤ s.2.1 + (f + 1); omega⟩
def B2 (v : Int) : Prop := 0 ≤ v ∧ v ≤ 2
theorem coF_2 {x : Int} (h : coF x ≠ -1) : B2 (coF x) ∧ x ≠ -1 := by
  unfold coF at *
  unfold B2
  by_cases a : x = 112
  · rw [if_pos a]; omega
  · rw [if_neg a] at h ⊢
    by_cases b : x = 98
    · rw [if_pos b]; omega
    · rw [if_neg b] at h ⊢
      by_cases d : x = 115
      · rw [if_pos d]; omega
      · rw [if_neg d] at h; exact absurd rfl h
theorem cl_ok {len : Nat} {t : Nat → Int} : ∀ (f : Nat) (s : Ps), OKs len s → GR len B2 s (clP (sgn len t) f s) ∧ (clP (sgn len t) f s).2.1 ≤ s.2.1 + f
  | 0, s, hO => ⟨GR_refl hO, Nat.le_refl _⟩
  | f + 1, s, hO => by
    unfold clP
    by_cases c : coF (sgn len t s.1) = -1
    · rw [if_pos c]; exact ⟨GR_refl hO, by omega⟩
    · rw [if_neg c]
      obtain ⟨b1, b2⟩ := coF_2 c
      have hlt : s.1 < len := sgn_lt (t := t) b2
      have hA : GR len B2 s (adP (kpP s (coF (sgn len t s.1)))) := GR_new hO (Nat.lt_succ_self _) hlt b1
      obtain ⟨d1, d2⟩ := cl_ok (len := len) (t := t) f _ hA.1
      refine ⟨GR_trans hA d1, ?_⟩
      have : (adP (kpP s (coF (sgn len t s.1)))).2.1 = s.2.1 + 1 := rfl
      omega
/-- what a clause of kind K with the values a .. b - 1 is -/
def cKd (K : Int) (a b : Nat) (vs : Nat → Int) : Prop := (K = 110 ∨ K = 109 ∨ K = 98 ∨ K = 115 ∨ K = 99) ∧ a < b ∧ b ≤ 100 ∧ (K = 109 → b ≤ a + 16) ∧ (K = 99 → b ≤ a + 12 ∧ ∀ i, a ≤ i → i < b → B2 (vs i)) ∧ ∀ i, a ≤ i → i < b → B256 (vs i)
theorem cu_ok {len : Nat} {t : Nat → Int} (hT : TX len t) {s : Ps} (hO : OKs len s) : GR len B256 s (cuP (sgn len t) s).2 ∧ ((cuP (sgn len t) s).1 = true → cKd (sgn len t s.1) s.2.1 (cuP (sgn len t) s).2.2.1 (cuP (sgn len t) s).2.2.2) := by
  have hl := hT.1
  have end1 : ∀ s' : Ps, GR len B256 s s' → (sgn len t s.1 = 110 ∨ sgn len t s.1 = 109 ∨ sgn len t s.1 = 98 ∨ sgn len t s.1 = 115 ∨ sgn len t s.1 = 99) → s.2.1 < s'.2.1 → (sgn len t s.1 = 109 → s'.2.1 ≤ s.2.1 + 16) → (sgn len t s.1 = 99 → s'.2.1 ≤ s.2.1 + 12 ∧ ∀ i, s.2.1 ≤ i → i < s'.2.1 → B2 (s'.2.2 i)) → cKd (sgn len t s.1) s.2.1 s'.2.1 s'.2.2 := fun s' g a b d e =>
    ⟨a, b, by have := g.1.1; have := g.1.2; omega, d, e, g.2.2.2.2⟩
  unfold cuP
  by_cases c1 : sgn len t s.1 = 110
  · rw [if_pos c1]
    have hlt : s.1 < len := sgn_lt (t := t) (by omega)
    by_cases c2 : 48 ≤ sgn len t (s.1 + 1) ∧ sgn len t (s.1 + 1) ≤ 57
    · rw [if_pos c2]
      have hlt2 : s.1 + 1 < len := sgn_lt (t := t) (by omega)
      have g : GR len B256 s (kpP (adP (adP s)) (sgn len t (s.1 + 1) - 48)) := GR_new (p' := s.1 + 1 + 1) hO (by omega) (by omega) ⟨by omega, by omega⟩
      exact ⟨g, fun _ => end1 _ g (by omega) (Nat.lt_succ_self _) (fun z => by omega) (fun z => by omega)⟩
    · rw [if_neg c2]; exact ⟨GR_pl hO (Nat.le_succ _) hlt, fun z => by cases z⟩
  · rw [if_neg c1]
    by_cases c2 : sgn len t s.1 = 109
    · rw [if_pos c2]
      have hlt : s.1 < len := sgn_lt (t := t) (by omega)
      have hA : GR len B256 s (adP s) := GR_pl hO (Nat.le_succ _) hlt
      obtain ⟨b1, b2, b3⟩ := wd_ok (t := t) hA.1
      by_cases c3 : (wdP (sgn len t) (adP s)).1 = true
      · rw [if_pos c3]
        obtain ⟨d1, d2⟩ := ws_ok (len := len) (t := t) 15 (decide (sgn len t (s.1 + 1) = 120)) _ b1.1
        have b4 := (b2 c3).1
        have e0 : (adP s).2.1 = s.2.1 := rfl
        have g := GR_trans hA (GR_trans b1 d1)
        have := d1.2.2.1
        exact ⟨g, fun _ => end1 _ g (by omega) (by omega) (fun _ => by omega) (fun z => by omega)⟩
      · rw [if_neg c3]; exact ⟨GR_trans hA b1, fun z => absurd z c3⟩
    · rw [if_neg c2]
      by_cases c3 : sgn len t s.1 = 98 ∨ sgn len t s.1 = 115
      · rw [if_pos c3]
        have hlt : s.1 < len := sgn_lt (t := t) (by omega)
        have hA : GR len B256 s (adP s) := GR_pl hO (Nat.le_succ _) hlt
        obtain ⟨b1, b2, b3⟩ := wd_ok (t := t) hA.1
        have g := GR_trans hA b1
        refine ⟨g, fun z => end1 _ g (by omega) ?_ (fun z => by omega) (fun z => by omega)⟩
        have b4 := (b2 z).1
        have e0 : (adP s).2.1 = s.2.1 := rfl
        omega
      · rw [if_neg c3]
        by_cases c4 : sgn len t s.1 = 99
        · rw [if_pos c4]
          have hlt : s.1 < len := sgn_lt (t := t) (by omega)
          have hA : GR len B2 s (adP s) := GR_pl hO (Nat.le_succ _) hlt
          obtain ⟨d1, d2⟩ := cl_ok (len := len) (t := t) 12 _ hA.1
          have e0 : (adP s).2.1 = s.2.1 := rfl
          have g2 := GR_trans hA d1
          have g : GR len B256 s (clP (sgn len t) 12 (adP s)) := GR_mono (fun v h => ⟨h.1, by have := h.2; omega⟩) g2
          exact ⟨g, fun z => end1 _ g (by omega) (of_decide_eq_true z) (fun z => by omega) (fun _ => ⟨by show (clP (sgn len t) 12 (adP s)).2.1 ≤ s.2.1 + 12; omega, g2.2.2.2.2⟩)⟩
        · rw [if_neg c4]; exact ⟨GR_refl hO, fun z => by cases z⟩
/-- the clauses that were told -/
def GC (C : Nat) (K : Nat → Int) (S : Nat → Nat) (vs : Nat → Int) : Prop := ∀ k, k < C → cKd (K k) (S k) (S (k + 1)) vs
theorem clK_cong {K : Int} {a b : Nat} {vs vs' : Nat → Int} (h : cKd K a b vs) (e : ∀ i, i < b → vs' i = vs i) : cKd K a b vs' := by
  obtain ⟨h1, h2, h3, h4, h5, h6⟩ := h
  exact ⟨h1, h2, h3, h4, fun z => ⟨(h5 z).1, fun i a b => by rw [e i b]; exact (h5 z).2 i a b⟩, fun i a b => by rw [e i b]; exact h6 i a b⟩
theorem pa_ok {len : Nat} {t : Nat → Int} (hT : TX len t) : ∀ (f c : Nat) (s : Ps) (K : Nat → Int) (S : Nat → Nat), c + f = 10 → OKs len s → GC c K S s.2.2 → (∀ k, k < c → S (k + 1) ≤ s.2.1) → (0 < c → S c = s.2.1) → (paP (sgn len t) f c s K S).1 = -5 → (paP (sgn len t) f c s K S).2.1 ≤ 10 ∧ GC (paP (sgn len t) f c s K S).2.1 (paP (sgn len t) f c s K S).2.2.2.1 (paP (sgn len t) f c s K S).2.2.2.2 (paP (sgn len t) f c s K S).2.2.1.2.2 ∧ ∀ k, k < (paP (sgn len t) f c s K S).2.1 → (paP (sgn len t) f c s K S).2.2.2.2 (k + 1) ≤ (paP (sgn len t) f c s K S).2.2.1.2.1
  | 0, c, s, K, S, _, _, _, _, _, h => by
    exfalso
    have : ((s.1 : Nat) : Int) = -5 := h
    omega
  | f + 1, c, s, K, S, hc, hO, hG, hS1, hS2, h => by
    obtain ⟨u1, u2⟩ := cu_ok hT hO
    have hG' : (cuP (sgn len t) s).1 = true → GC (c + 1) (fun i => if i = c then sgn len t s.1 else K i) (fun i => if i = c + 1 then (cuP (sgn len t) s).2.2.1 else if i = c then s.2.1 else S i) (cuP (sgn len t) s).2.2.2 := fun z k hk => by
      show cKd (if k = c then sgn len t s.1 else K k) (if k = c + 1 then (cuP (sgn len t) s).2.2.1 else if k = c then s.2.1 else S k) (if k + 1 = c + 1 then (cuP (sgn len t) s).2.2.1 else if k + 1 = c then s.2.1 else S (k + 1)) _
      by_cases e : k = c
      · rw [if_pos e, if_neg (by omega), if_pos e, if_pos (by omega)]; exact u2 z
      · rw [if_neg e, if_neg (by omega), if_neg e, if_neg (by omega)]
        have : (if k + 1 = c then s.2.1 else S (k + 1)) = S (k + 1) := by
          by_cases e2 : k + 1 = c
          · rw [if_pos e2, e2]; exact (hS2 (by omega)).symm
          · rw [if_neg e2]
        rw [this]
        exact clK_cong (hG k (by omega)) (fun i hi => u1.2.2.2.1 i (by have := hS1 k (by omega); omega))
    have hS' : ∀ k, k < c + 1 → (if k + 1 = c + 1 then (cuP (sgn len t) s).2.2.1 else if k + 1 = c then s.2.1 else S (k + 1)) ≤ (cuP (sgn len t) s).2.2.1 := fun k hk => by
      have := u1.2.2.1
      by_cases e : k + 1 = c + 1
      · rw [if_pos e]; exact Nat.le_refl _
      · rw [if_neg e]
        by_cases e2 : k + 1 = c
        · rw [if_pos e2]; omega
        · rw [if_neg e2]; have := hS1 k (by omega); omega
    unfold paP at h ⊢
    by_cases c1 : (cuP (sgn len t) s).1 = false
    · rw [if_pos c1] at h
      exfalso
      have : (((cuP (sgn len t) s).2.1 : Nat) : Int) = -5 := h
      omega
    · rw [if_neg c1] at h ⊢
      have c1' : (cuP (sgn len t) s).1 = true := by simpa using c1
      by_cases c2 : sgn len t (cuP (sgn len t) s).2.1 = -1
      · rw [if_pos c2] at h ⊢
        exact ⟨by show c + 1 ≤ 10; omega, hG' c1', hS'⟩
      · rw [if_neg c2] at h ⊢
        by_cases c3 : sgn len t (cuP (sgn len t) s).2.1 ≠ 59 ∨ c + 1 = 10
        · rw [if_pos c3] at h
          exfalso
          have : (((cuP (sgn len t) s).2.1 : Nat) : Int) = -5 := h
          omega
        · rw [if_neg c3] at h ⊢
          have hlt : (cuP (sgn len t) s).2.1 < len := sgn_lt (t := t) c2
          exact pa_ok hT f (c + 1) (adP (cuP (sgn len t) s).2) _ _ (by omega) ⟨by have := u1.1.1; show (cuP (sgn len t) s).2.2.1 ≤ (cuP (sgn len t) s).2.1 + 1; omega, hlt⟩ (hG' c1') hS' (fun _ => by show (if c + 1 = c + 1 then (cuP (sgn len t) s).2.2.1 else _) = _; rw [if_pos rfl]; rfl) h
