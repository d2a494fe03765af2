/-! BASE: worlds by numbered cells, numbers as Int -/
abbrev St : Type := Nat → Int → Int
abbrev Kd : Type := (Nat × List (Option (Option Nat))) ⊕ (FieldType × Nat) ⊕ (String × List (Option Nat))
def iv (a : Int) : Value := .int (Int32.ofInt a)
def jv (a : Int) : Value := .long (Int64.ofInt a)
def fvs (h : Nat → Nat) (f : Int → Int) : Nat → List (Option (Option Nat)) → List Value
  | _, [] => []
  | j, none :: r => iv (f (j : Int)) :: fvs h f (j + 1) r
  | j, some none :: r => .null :: fvs h f (j + 1) r
  | j, some (some k) :: r => .ref (h k) :: fvs h f (j + 1) r
def ear (ty : FieldType) (f : Int → Int) : (Nat → Int32) ⊕ (Nat → Int64) ⊕ (Nat → UInt32) ⊕ (Nat → UInt64) ⊕ (Nat → Option Nat) := match ty with
  | .long => .inr (.inl fun i => Int64.ofInt (f (i : Int)))
  | _ => .inl fun i => Int32.ofInt (f (i : Int))
def ent (cA : FieldType → ClassId) (h : Nat → Nat) (f : Int → Int) : Kd → va_E
  | .inl o => .inr (o.1, fvs h f 0 o.2)
  | .inr (.inl a) => .inl (cA a.1, a.2, ear a.1 f)
  | .inr (.inr a) => .inl (cA (.object a.1), a.2.length, .inr (.inr (.inr (.inr (fun i => (a.2.getD i none).map h)))))
def wo (cA : FieldType → ClassId) (h : Nat → Nat) (σ : St) : Nat → List Kd → va_W
  | _, [] => []
  | k, kd :: r => (h k, ent cA h (σ k) kd) :: wo cA h σ (k + 1) r
def up (σ : St) (k : Nat) (j x : Int) : St := fun k' j' => if k' = k ∧ j' = j then x else σ k' j'
theorem wo_get {cA : FieldType → ClassId} {h : Nat → Nat} {σ : St} : ∀ (K : List Kd) (k0 i : Nat) (kd : Kd), K[i]? = some kd → (wo cA h σ k0 K)[i]? = some (h (k0 + i), ent cA h (σ (k0 + i)) kd)
  | [], _, i, _, e => by simp at e
  | c :: r, k0, 0, kd, e => by simp at e; subst e; rfl
  | c :: r, k0, i + 1, kd, e => by
    have := wo_get (cA := cA) (h := h) (σ := σ) r (k0 + 1) i kd (by simpa using e)
    rw [show k0 + 1 + i = k0 + (i + 1) by omega] at this
    simpa [wo] using this
theorem wo_inv {cA : FieldType → ClassId} {h : Nat → Nat} {σ : St} : ∀ (K : List Kd) (k0 i : Nat) (q : Nat × va_E), (wo cA h σ k0 K)[i]? = some q → ∃ kd, K[i]? = some kd ∧ q = (h (k0 + i), ent cA h (σ (k0 + i)) kd)
  | [], _, i, _, e => by simp [wo] at e
  | c :: r, k0, 0, q, e => by simp [wo] at e; exact ⟨c, rfl, e.symm⟩
  | c :: r, k0, i + 1, q, e => by
    obtain ⟨kd, h1, h2⟩ := wo_inv (cA := cA) (h := h) (σ := σ) r (k0 + 1) i q (by simpa [wo] using e)
    rw [show k0 + 1 + i = k0 + (i + 1) by omega] at h2
    exact ⟨kd, by simpa using h1, h2⟩
theorem wo_cong {cA : FieldType → ClassId} {h : Nat → Nat} {σ σ' : St} : ∀ (K : List Kd) (k0 : Nat), (∀ k, k0 ≤ k → σ' k = σ k) → wo cA h σ' k0 K = wo cA h σ k0 K
  | [], _, _ => rfl
  | c :: r, k0, e => by
    show (h k0, ent cA h (σ' k0) c) :: wo cA h σ' (k0 + 1) r = (h k0, ent cA h (σ k0) c) :: wo cA h σ (k0 + 1) r
    rw [e k0 (Nat.le_refl _), wo_cong r (k0 + 1) (fun k hk => e k (by omega))]
theorem wo_set {cA : FieldType → ClassId} {h : Nat → Nat} {σ σ' : St} : ∀ (K : List Kd) (k0 i : Nat) (kd : Kd), K[i]? = some kd → (∀ k, k ≠ k0 + i → σ' k = σ k) → (wo cA h σ k0 K).set i (h (k0 + i), ent cA h (σ' (k0 + i)) kd) = wo cA h σ' k0 K
  | [], _, i, _, e, _ => by simp at e
  | c :: r, k0, 0, kd, e, e2 => by
    simp at e; subst e
    show (h (k0 + 0), ent cA h (σ' (k0 + 0)) c) :: wo cA h σ (k0 + 1) r = (h k0, ent cA h (σ' k0) c) :: wo cA h σ' (k0 + 1) r
    rw [wo_cong (σ := σ) (σ' := σ') r (k0 + 1) (fun k hk => e2 k (by omega))]; rfl
  | c :: r, k0, i + 1, kd, e, e2 => by
    have := wo_set (cA := cA) (h := h) (σ := σ) (σ' := σ') r (k0 + 1) i kd (by simpa using e) (fun k hk => e2 k (by omega))
    rw [show k0 + 1 + i = k0 + (i + 1) by omega] at this
    show (h k0, ent cA h (σ k0) c) :: (wo cA h σ (k0 + 1) r).set i _ = (h k0, ent cA h (σ' k0) c) :: wo cA h σ' (k0 + 1) r
    rw [this, e2 k0 (by omega)]
theorem fvs_get {h : Nat → Nat} {f : Int → Int} : ∀ (fd : List (Option (Option Nat))) (j0 j : Nat), fd[j]? = some none → (fvs h f j0 fd)[j]? = some (iv (f ((j0 + j : Nat) : Int)))
  | [], _, _, e => by simp at e
  | a :: r, j0, 0, e => by simp at e; subst e; rfl
  | a :: r, j0, j + 1, e => by
    have := fvs_get (h := h) (f := f) r (j0 + 1) j (by simpa using e)
    rw [show j0 + 1 + j = j0 + (j + 1) by omega] at this
    rcases a with _ | _ | k <;> simpa [fvs] using this
theorem fvs_ref {h : Nat → Nat} {f : Int → Int} {k : Nat} : ∀ (fd : List (Option (Option Nat))) (j0 j : Nat), fd[j]? = some (some (some k)) → (fvs h f j0 fd)[j]? = some (.ref (h k))
  | [], _, _, e => by simp at e
  | a :: r, j0, 0, e => by simp at e; subst e; rfl
  | a :: r, j0, j + 1, e => by
    have := fvs_ref (h := h) (f := f) r (j0 + 1) j (by simpa using e)
    rcases a with _ | _ | k <;> simpa [fvs] using this
theorem fvs_len {h : Nat → Nat} {f : Int → Int} : ∀ (fd : List (Option (Option Nat))) (j0 : Nat), (fvs h f j0 fd).length = fd.length
  | [], _ => rfl
  | a :: r, j0 => by
    have := fvs_len (h := h) (f := f) r (j0 + 1)
    rcases a with _ | _ | k <;> simp [fvs, this]
theorem fvs_cong {h : Nat → Nat} {f g : Int → Int} : ∀ (fd : List (Option (Option Nat))) (j0 : Nat), (∀ j : Nat, j0 ≤ j → g (j : Int) = f (j : Int)) → fvs h g j0 fd = fvs h f j0 fd
  | [], _, _ => rfl
  | a :: r, j0, e => by
    have h1 := fvs_cong (h := h) (f := f) (g := g) r (j0 + 1) (fun j hj => e j (by omega))
    have h2 := e j0 (Nat.le_refl _)
    rcases a with _ | _ | k <;> simp [fvs, h1, h2]
theorem fvs_set {h : Nat → Nat} {f g : Int → Int} : ∀ (fd : List (Option (Option Nat))) (j0 j : Nat), fd[j]? = some none → (∀ i : Nat, i ≠ j0 + j → g (i : Int) = f (i : Int)) → (fvs h f j0 fd).set j (iv (g ((j0 + j : Nat) : Int))) = fvs h g j0 fd
  | [], _, _, e, _ => by simp at e
  | a :: r, j0, 0, e, e2 => by
    simp at e; subst e
    show iv (g ((j0 + 0 : Nat) : Int)) :: fvs h f (j0 + 1) r = iv (g ((j0 : Nat) : Int)) :: fvs h g (j0 + 1) r
    rw [fvs_cong (f := f) (g := g) r (j0 + 1) (fun i hi => e2 i (by omega))]; rfl
  | a :: r, j0, j + 1, e, e2 => by
    have h1 := fvs_set (h := h) (f := f) (g := g) r (j0 + 1) j (by simpa using e) (fun i hi => e2 i (by omega))
    rw [show j0 + 1 + j = j0 + (j + 1) by omega] at h1
    have h2 := e2 j0 (by omega)
    rcases a with _ | _ | k <;> simp only [fvs, List.set_cons_succ, h1, h2]
/-- the array classes, as every world here has them -/
def tyL (cA : FieldType → ClassId) : List (ClassId × FieldType) := [(cA .int, .int), (cA .long, .long), (cA .byte, .byte), (cA .boolean, .boolean), (cA (.object "BellTouches$Tape"), .object "BellTouches$Tape")]
/-- what holds in a method's body -/
def cx (p : Program) (s : State) (m : MethodId) (args : Array Value) (meth : Method) (c : Code) (ws : List Cond) (own : String) (cc : ByteArray) (nL : Nat) (ret : Option FieldType) (D : va_G) (cA : FieldType → ClassId) : Prop :=
  p.tables.exec = Jvm.exec ∧ c.code = cc ∧ c.maxLocals = nL ∧ s.vm.findClass own = some m.cls ∧ (∀ w ∈ ws, w.before args s = true) ∧ meth.sig.returnType = ret ∧ meth.locks = false ∧ va_K D vwCl (tyL cA) s
/-- the world: cells K at h hold σ; they are apart, in A; nothing outside A has changed since H0 -/
def wd (D : va_G) (cA : FieldType → ClassId) (K : List Kd) (h : Nat → Nat) (σ : St) (A : Nat → Prop) (H0 H : Heap) (locs : List Loc) : Prop :=
  va_P D vwCl (wo cA h σ 0 K) H ∧ va_D A (wo cA h σ 0 K) ∧ va_S A H0 H locs
def aA (n : Nat) (h : Nat → Nat) (sz : Nat) : Nat → Prop := fun q => (∃ k, k < n ∧ q = h k) ∨ sz ≤ q
/-- locals by their places -/
def lh (ls : Array Slot) (nL : Nat) (vl : List (Option Value)) : Prop := ls.size = nL ∧ lv_wf ls ∧ ∀ (i : Nat) (v : Value), vl[i]? = some (some v) → ls[i]? = some (.val v)
theorem lh_at {ls : Array Slot} {nL : Nat} {vl : List (Option Value)} (h : lh ls nL vl) (i : Nat) {v : Value} (e : vl[i]? = some (some v)) : ls[i]? = some (.val v) := h.2.2 i v e
def lmask : List (Option Value) → List Bool → List (Option Value)
  | [], _ => []
  | _ :: r, [] => none :: lmask r []
  | _ :: r, false :: b => none :: lmask r b
  | v :: r, true :: b => v :: lmask r b
theorem lmask_get : ∀ (vl : List (Option Value)) (bs : List Bool) (i : Nat) (v : Value), (lmask vl bs)[i]? = some (some v) → vl[i]? = some (some v)
  | [], _, i, v, e => by simp [lmask] at e
  | a :: r, [], 0, v, e => by simp [lmask] at e
  | a :: r, [], i + 1, v, e => by simpa using lmask_get r [] i v (by simpa [lmask] using e)
  | a :: r, false :: b, 0, v, e => by simp [lmask] at e
  | a :: r, false :: b, i + 1, v, e => by simpa using lmask_get r b i v (by simpa [lmask] using e)
  | a :: r, true :: b, 0, v, e => by simpa [lmask] using e
  | a :: r, true :: b, i + 1, v, e => by simpa using lmask_get r b i v (by simpa [lmask] using e)
theorem lh_mask {ls : Array Slot} {nL : Nat} {vl : List (Option Value)} (h : lh ls nL vl) (bs : List Bool) : lh ls nL (lmask vl bs) := ⟨h.1, h.2.1, fun i v e => h.2.2 i v (lmask_get vl bs i v e)⟩
def okst (vl : List (Option Value)) : Nat → Bool
  | 0 => true
  | i + 1 => match vl[i]? with | some (some v) => v.category == 1 | _ => true
def lvl : Nat → List (Option Value) → List (Nat × Value)
  | _, [] => []
  | i, none :: r => lvl (i + 1) r
  | i, some v :: r => (i, v) :: lvl (i + 1) r
theorem lvl_mem : ∀ (vl : List (Option Value)) (k i : Nat) (v : Value), vl[i]? = some (some v) → (k + i, v) ∈ lvl k vl
  | [], k, i, v, e => by simp at e
  | none :: r, k, 0, v, e => by simp at e
  | none :: r, k, i + 1, v, e => by
    have := lvl_mem r (k + 1) i v (by simpa using e)
    rw [show k + 1 + i = k + (i + 1) by omega] at this; simpa [lvl] using this
  | some a :: r, k, 0, v, e => by simp at e; subst e; simp [lvl]
  | some a :: r, k, i + 1, v, e => by
    have := lvl_mem r (k + 1) i v (by simpa using e)
    rw [show k + 1 + i = k + (i + 1) by omega] at this
    exact List.mem_cons_of_mem _ this
theorem lvl_inv : ∀ (vl : List (Option Value)) (k : Nat) (q : Nat × Value), q ∈ lvl k vl → ∃ i, q.1 = k + i ∧ vl[i]? = some (some q.2)
  | [], k, q, e => by simp [lvl] at e
  | none :: r, k, q, e => by
    obtain ⟨i, h1, h2⟩ := lvl_inv r (k + 1) q (by simpa [lvl] using e)
    exact ⟨i + 1, by omega, by simpa using h2⟩
  | some a :: r, k, q, e => by
    rcases List.mem_cons.mp (by simpa [lvl] using e) with e | e
    · subst e; exact ⟨0, rfl, rfl⟩
    · obtain ⟨i, h1, h2⟩ := lvl_inv r (k + 1) q e
      exact ⟨i + 1, by omega, by simpa using h2⟩
theorem lh_lv {ls : Array Slot} {nL : Nat} {vl : List (Option Value)} (h : lh ls nL vl) : lv_has ls nL (lvl 0 vl) := ⟨h.1, h.2.1, fun q hq => by
  obtain ⟨i, h1, h2⟩ := lvl_inv vl 0 q hq
  rw [h1, Nat.zero_add]; exact h.2.2 i q.2 h2⟩
theorem lh_of_lv {ls : Array Slot} {nL i : Nat} {vl : List (Option Value)} {v : Value} (hi : i < vl.length) (hok : okst vl i = true) (h : lv_has ls nL ((i, v) :: (lvl 0 vl).filter (fun q => !(q.1 == i) && !(q.1 + 1 == i && q.2.category == 2)))) : lh ls nL (vl.set i (some v)) := by
  refine ⟨h.1, h.2.1, fun j w e => ?_⟩
  by_cases hj : j = i
  · subst hj
    rw [List.getElem?_set_self hi] at e
    simp at e; subst e
    exact h.2.2 (j, v) List.mem_cons_self
  · rw [List.getElem?_set_ne (fun q => hj q.symm)] at e
    have hm := lvl_mem vl 0 j w e
    rw [Nat.zero_add] at hm
    refine h.2.2 (j, w) (List.mem_cons_of_mem _ (List.mem_filter.mpr ⟨hm, ?_⟩))
    by_cases hk : j + 1 = i
    · subst hk
      simp only [okst, e] at hok
      have : w.category = 1 := by simpa using hok
      simp [this]
    · simp [hj, hk]
abbrev rg (a : Int) : Prop := -2147483648 ≤ a ∧ a < 2147483648
abbrev rl (a : Int) : Prop := -9223372036854775808 ≤ a ∧ a < 9223372036854775808
theorem oi_t {a : Int} (h : rg a) : (Int32.ofInt a).toInt = a := Int32.toInt_ofInt_of_le (by omega) (by omega)
theorem oi_lt {a b : Int} (ha : rg a) (hb : rg b) : Int32.ofInt a < Int32.ofInt b ↔ a < b := by rw [Int32.lt_iff_toInt_lt, oi_t ha, oi_t hb]
theorem oi_le {a b : Int} (ha : rg a) (hb : rg b) : Int32.ofInt a ≤ Int32.ofInt b ↔ a ≤ b := by rw [Int32.le_iff_toInt_le, oi_t ha, oi_t hb]
theorem oi_eq {a b : Int} (ha : rg a) (hb : rg b) : Int32.ofInt a = Int32.ofInt b ↔ a = b := ⟨fun e => by rw [← oi_t ha, ← oi_t hb, e], fun e => by rw [e]⟩
theorem oi_0 : (0 : Int32) = Int32.ofInt 0 := rfl
theorem oi_cl {a : Int} (h0 : 0 ≤ a) (h : a < 2147483648) : (Int32.ofInt a).toNatClampNeg = a.toNat := by rw [Int32.toNatClampNeg, oi_t ⟨by omega, h⟩]
theorem oi_in {a : Int} {n : Nat} (h0 : 0 ≤ a) (h1 : a < (n : Int)) (hn : n < 2147483648) : vp_in (Int32.ofInt a) n := by
  refine fun hc => ?_
  rcases hc with hc | hc
  · rw [oi_0, oi_lt ⟨by omega, by omega⟩ ⟨by omega, by omega⟩] at hc; omega
  · rw [oi_cl h0 (by omega)] at hc; omega
def bnd (a b : Int) : Int := (Int32.ofInt a &&& Int32.ofInt b).toInt
def bor (a b : Int) : Int := (Int32.ofInt a ||| Int32.ofInt b).toInt
def bxr (a b : Int) : Int := (Int32.ofInt a ^^^ Int32.ofInt b).toInt
def bsl (a b : Int) : Int := (Int32.ofInt a <<< (Int32.ofInt b &&& 31)).toInt
def bsr (a b : Int) : Int := (Int32.ofInt a >>> (Int32.ofInt b &&& 31)).toInt
def bur (a b : Int) : Int := (((Int32.ofInt a).toUInt32 >>> ((Int32.ofInt b).toUInt32 &&& Int32.toUInt32 31)).toInt32).toInt
def i2b (a : Int) : Int := (Int32.ofInt a).toInt8.toInt
def i2s (a : Int) : Int := (Int32.ofInt a).toInt16.toInt
theorem ivt (x : Int32) : iv x.toInt = .int x := by rw [iv, Int32.ofInt_toInt]
theorem jvt (x : Int64) : jv x.toInt = .long x := by rw [jv, Int64.ofInt_toInt]
