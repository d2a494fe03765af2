section
variable {p : Program} {l : Launch} {e : Env} {R : Room} {s : State} {m : MethodId} {args : Array Value} {below : List Frame} {meth : Method} {c : Code} {H : Heap} {locs : List Loc} {cells slots : Nat} {Q : State → Prop} {pc : Nat} {ls : Array Slot} {st st0 : List Value}
variable {ws : List Cond} {own : String} {cc : ByteArray} {nL : Nat} {ret : Option FieldType} {D : va_G} {cA : FieldType → ClassId} {K : List Kd} {h : Nat → Nat} {σ : St} {A : Nat → Prop} {H0 : Heap} {vl : List (Option Value)}
theorem wd_self (hw : wd D cA K h σ A H0 H locs) (hA : ∀ q, H0.size ≤ q → A q) : ∀ q, aA K.length h H.size q → A q := by
  rintro q (⟨i, hi, rfl⟩ | hq)
  · have := hw.2.1.2 i _ (wo_get K 0 i _ (List.getElem?_eq_getElem hi))
    simpa using this
  · exact hA q (Nat.le_trans hw.2.2.1 hq)
theorem wd_T (hw : wd D cA K h σ A H0 H locs) : va_D (fun _ => True) (wo cA h σ 0 K) := hw.2.1.weaken (fun _ _ _ _ => trivial)
theorem run_v0 (C : cx p s m args meth c ws own cc nL ret D cA) (hw : wd D cA K h σ A s.heap H locs) {ci : Nat} {fds : List (Option (Option Nat))} {Cn : String} {T : u_T} {N : Nat} {ty : Nat → FieldType} (hc : clo ci Cn T N ty) (h0 : K[0]? = some (.inl (ci, fds))) {y : MethodName} {ws' : List Cond} {rm' : Room} {As : List Value} {Qc : Array Value → State → Outcome → State → Prop} {ix n maxL : Nat} {bytes : ByteArray} {ret' : Option FieldType}
    (hM : Met l y ws' rm' (va_Pc (.ref (h 0) :: As) (preS D cA K h σ H.size)) Qc 0 0 (aA K.length h H.size)) (cw : CallW R s args own Cn ix y bytes maxL ret' ws' rm' 0 0 n) (hn : As.length = n) (hst : st0 = As.reverse ++ .ref (h 0) :: st) (hcat : Nat.ble (st.map fun v => v.category).sum 8 = true) (hl : lh ls nL vl) (hd : decode cc pc = .ok (.invokevirtual ix, 3)) (hf : cells ≤ R.cells ∧ slots ≤ R.slots) :
    va_Run p l e R s m args below meth c H locs cells slots 0 0 (F0 m pc ls st0) st (Qc (Value.ref (h 0) :: As).toArray) (aA K.length h H.size) :=
  va_runV ⟨C.1, C.2.1, C.2.2.1, C.2.2.2.1, C.2.2.2.2.1⟩ hM cw
    ⟨preS_blind, va_recv C.2.2.2.2.2.2.2 hw.1 hc.1 (wo_get K 0 0 _ h0), fun U hU hW => ⟨rfl, by rw [hU], by rw [hU]; exact hw.1, va_K.moved hW.alike C.2.2.2.2.2.2.2, wd_T hw⟩⟩
    rfl hn hl.1 hst (lv_room (Nat.le_of_ble_eq_true hcat)) hd hf
theorem run_s0 (C : cx p s m args meth c ws own cc nL ret D cA) (hw : wd D cA K h σ A s.heap H locs) {y : MethodName} {ws' : List Cond} {rm' : Room} {As : List Value} {Qc : Array Value → State → Outcome → State → Prop} {ix n maxL : Nat} {bytes : ByteArray} {ret' : Option FieldType}
    (hM : Met l y ws' rm' (va_Pc As (preS D cA K h σ H.size)) Qc 0 0 (aA K.length h H.size)) (cw : CallB R s args own ix y bytes maxL ret' ws' rm' 0 0 n ∧ (Cond.static y).before args s = true) (hn : As.length = n) (hst : st0 = As.reverse ++ st) (hcat : Nat.ble (st.map fun v => v.category).sum 8 = true) (hl : lh ls nL vl) (hd : decode cc pc = .ok (.invokestatic ix, 3)) (hf : cells ≤ R.cells ∧ slots ≤ R.slots) :
    va_Run p l e R s m args below meth c H locs cells slots 0 0 (F0 m pc ls st0) st (Qc As.toArray) (aA K.length h H.size) :=
  va_runS ⟨C.1, C.2.1, C.2.2.1, C.2.2.2.1, C.2.2.2.2.1⟩ hM cw
    ⟨preS_blind, fun U hU hW => ⟨rfl, by rw [hU], by rw [hU]; exact hw.1, va_K.moved hW.alike C.2.2.2.2.2.2.2, wd_T hw⟩⟩
    rfl hn hl.1 hst (lv_room (Nat.le_of_ble_eq_true hcat)) hd hf
theorem r_cI0 (hA : ∀ q, s.heap.size ≤ q → A q) (hw : wd D cA K h σ A s.heap H locs) {a : Array Value} {post : Int → St → Prop}
    (hr : va_Run p l e R s m args below meth c H locs cells slots 0 0 (F0 m pc ls st0) st (QI D cA K h H.size post a) (aA K.length h H.size))
    (k : ∀ (r : Int) (σ' : St) (H1 : Heap) (locs1 : List Loc), post r σ' → wd D cA K h σ' A s.heap H1 locs1 → W p l e R s m args below meth c H1 locs1 cells slots Q (F0 m (pc + 3) ls (iv r :: st))) : W p l e R s m args below meth c H locs cells slots Q (F0 m pc ls st0) :=
  va_calli hr hw.2.2 (fun q _ hq => wd_self hw hA q hq) (wd_self hw hA) (fun r u t H1 locs1 ht hvm hp hB hz hk hS => by
    obtain ⟨rfl, hp⟩ := hp
    subst ht
    exact k u.1 u.2 _ locs1 hp ⟨hB, wo_D hw.2.1, hS⟩)
theorem r_cL0 (hA : ∀ q, s.heap.size ≤ q → A q) (hw : wd D cA K h σ A s.heap H locs) {a : Array Value} {post : Int → St → Prop}
    (hr : va_Run p l e R s m args below meth c H locs cells slots 0 0 (F0 m pc ls st0) st (QL D cA K h H.size post a) (aA K.length h H.size))
    (k : ∀ (r : Int) (σ' : St) (H1 : Heap) (locs1 : List Loc), post r σ' → wd D cA K h σ' A s.heap H1 locs1 → W p l e R s m args below meth c H1 locs1 cells slots Q (F0 m (pc + 3) ls (jv r :: st))) : W p l e R s m args below meth c H locs cells slots Q (F0 m pc ls st0) :=
  va_calll hr hw.2.2 (fun q _ hq => wd_self hw hA q hq) (wd_self hw hA) (fun r u t H1 locs1 ht hvm hp hB hz hk hS => by
    obtain ⟨rfl, hp⟩ := hp
    subst ht
    exact k u.1 u.2 _ locs1 hp ⟨hB, wo_D hw.2.1, hS⟩)
theorem r_cV0 (hA : ∀ q, s.heap.size ≤ q → A q) (hw : wd D cA K h σ A s.heap H locs) {a : Array Value} {post : St → Prop}
    (hr : va_Run p l e R s m args below meth c H locs cells slots 0 0 (F0 m pc ls st0) st (QV D cA K h H.size post a) (aA K.length h H.size))
    (k : ∀ (σ' : St) (H1 : Heap) (locs1 : List Loc), post σ' → wd D cA K h σ' A s.heap H1 locs1 → W p l e R s m args below meth c H1 locs1 cells slots Q (F0 m (pc + 3) ls st)) : W p l e R s m args below meth c H locs cells slots Q (F0 m pc ls st0) :=
  va_callv hr hw.2.2 (fun q _ hq => wd_self hw hA q hq) (wd_self hw hA) (fun u t H1 locs1 ht hvm hp hB hz hk hS => by
    subst ht
    exact k u _ locs1 hp ⟨hB, wo_D hw.2.1, hS⟩)
theorem r_cR0 (hA : ∀ q, s.heap.size ≤ q → A q) (hw : wd D cA K h σ A s.heap H locs) {a : Array Value} {rk : Nat} {post : St → Prop}
    (hr : va_Run p l e R s m args below meth c H locs cells slots 0 0 (F0 m pc ls st0) st (QR D cA K h H.size rk post a) (aA K.length h H.size))
    (k : ∀ (σ' : St) (H1 : Heap) (locs1 : List Loc), post σ' → wd D cA K h σ' A s.heap H1 locs1 → W p l e R s m args below meth c H1 locs1 cells slots Q (F0 m (pc + 3) ls (.ref (h rk) :: st))) : W p l e R s m args below meth c H locs cells slots Q (F0 m pc ls st0) :=
  va_callr hr hw.2.2 (fun q _ hq => wd_self hw hA q hq) (wd_self hw hA) (fun u ra t H1 locs1 ht hvm hp hB hz hk hS => by
    subst ht
    obtain ⟨rfl, hB⟩ := hB
    exact k u _ locs1 hp ⟨hB, wo_D hw.2.1, hS⟩)
theorem r_cIr0 (hA : ∀ q, s.heap.size ≤ q → A q) (hw : wd D cA K h σ A s.heap H locs) {a : Array Value} {post : Int → Prop}
    (hr : va_Run p l e R s m args below meth c H locs cells slots 0 0 (F0 m pc ls st0) st (QI D cA K h H.size (fun r σ' => σ' = σ ∧ post r) a) (aA K.length h H.size))
    (k : ∀ (r : Int) (H1 : Heap) (locs1 : List Loc), post r → wd D cA K h σ A s.heap H1 locs1 → W p l e R s m args below meth c H1 locs1 cells slots Q (F0 m (pc + 3) ls (iv r :: st))) : W p l e R s m args below meth c H locs cells slots Q (F0 m pc ls st0) :=
  r_cI0 hA hw hr (fun r σ' H1 locs1 hp hw1 => by
    obtain ⟨rfl, hp⟩ := hp
    exact k r H1 locs1 hp hw1)
theorem r_cLr0 (hA : ∀ q, s.heap.size ≤ q → A q) (hw : wd D cA K h σ A s.heap H locs) {a : Array Value} {post : Int → Prop}
    (hr : va_Run p l e R s m args below meth c H locs cells slots 0 0 (F0 m pc ls st0) st (QL D cA K h H.size (fun r σ' => σ' = σ ∧ post r) a) (aA K.length h H.size))
    (k : ∀ (r : Int) (H1 : Heap) (locs1 : List Loc), post r → wd D cA K h σ A s.heap H1 locs1 → W p l e R s m args below meth c H1 locs1 cells slots Q (F0 m (pc + 3) ls (jv r :: st))) : W p l e R s m args below meth c H locs cells slots Q (F0 m pc ls st0) :=
  r_cL0 hA hw hr (fun r σ' H1 locs1 hp hw1 => by
    obtain ⟨rfl, hp⟩ := hp
    exact k r H1 locs1 hp hw1)
theorem r_max (C : cx p s m args meth c ws own cc nL ret D cA) (hl : lh ls nL vl) {ix : Nat} (q1 : Cond.methodLink own ix Lib.Math.max.name ∈ ws) (q2 : Cond.static Lib.Math.max.name ∈ ws) (q3 : Cond.initialized "java/lang/Math" ∈ ws) (q4 : Cond.code Lib.Math.max.name Lib.Math.max.code 2 (some .int) ∈ ws) (hfr : 1 ≤ R.frames) (hlo : (st.map fun v => v.category).sum + 13 ≤ R.locals) (hc : cells ≤ R.cells) (hs : slots ≤ R.slots) {a b : Int} (ra : rg a) (rb : rg b) (hd : decode cc pc = .ok (.invokestatic ix, 3))
    (kk : W p l e R s m args below meth c H locs cells slots Q (F0 m (pc + 3) ls (iv (if a < b then b else a) :: st))) : W p l e R s m args below meth c H locs cells slots Q (F0 m pc ls (iv b :: iv a :: st)) := by
  refine va_mmax C.1 C.2.1 (C.2.2.1.trans hl.1.symm) C.2.2.2.1 (C.2.2.2.2.1 _ q1) (C.2.2.2.2.1 _ q2) (C.2.2.2.2.1 _ q3) (C.2.2.2.2.1 _ q4) hfr hlo hc hs hd ?_
  have e1 : (Value.int (if Int32.ofInt a < Int32.ofInt b then Int32.ofInt b else Int32.ofInt a)) = iv (if a < b then b else a) := by
    rw [iv]
    by_cases q : a < b
    · rw [if_pos q, if_pos ((oi_lt ra rb).mpr q)]
    · rw [if_neg q, if_neg (fun z => q ((oi_lt ra rb).mp z))]
  rw [e1]; exact kk
end
def cpy (σ : St) (k0 : Nat) (sp : Int) (k1 : Nat) (dp n : Int) : St := fun k j => if k = k1 ∧ dp ≤ j ∧ j < dp + n then σ k0 (sp + (j - dp)) else σ k j
section
variable {p : Program} {l : Launch} {e : Env} {R : Room} {s : State} {m : MethodId} {args : Array Value} {below : List Frame} {meth : Method} {c : Code} {H : Heap} {locs : List Loc} {cells slots : Nat} {Q : State → Prop} {pc : Nat} {ls : Array Slot} {st st0 : List Value}
variable {ws : List Cond} {own : String} {cc : ByteArray} {nL : Nat} {ret : Option FieldType} {D : va_G} {cA : FieldType → ClassId} {K : List Kd} {h : Nat → Nat} {σ : St} {A : Nat → Prop} {H0 : Heap} {vl : List (Option Value)}
theorem wd_cpy {k1 n1 : Nat} {ty : FieldType} (hk : K[k1]? = some (.inr (.inl (ty, n1)))) {σ' : St} (h0 : ∀ k, k ≠ k1 → σ' k = σ k) {f' : (Nat → Int32) ⊕ (Nat → Int64) ⊕ (Nat → UInt32) ⊕ (Nat → UInt64) ⊕ (Nat → Option Nat)} (hf : f' = ear ty (σ' k1)) : (wo cA h σ 0 K).set k1 (h k1, .inl (cA ty, n1, f')) = wo cA h σ' 0 K := by
  have h1 := wo_set (cA := cA) (h := h) (σ := σ) (σ' := σ') K 0 k1 _ hk (fun k' hk' => h0 k' (by omega))
  rw [Nat.zero_add] at h1
  rw [← h1, hf]; rfl
theorem cpy_ne {k0 k1 : Nat} {sp dp n : Int} (k : Nat) (hk : k ≠ k1) : cpy σ k0 sp k1 dp n k = σ k := by funext j; simp [cpy, hk]
theorem cpy_i {k0 k1 : Nat} {sp dp n : Int} (h1 : 0 ≤ sp) (h2 : 0 ≤ dp) (h3 : 0 ≤ n) : va_cpy (fun i : Nat => Int32.ofInt (σ k0 (i : Int))) (fun i : Nat => Int32.ofInt (σ k1 (i : Int))) sp.toNat dp.toNat n.toNat = fun i : Nat => Int32.ofInt (cpy σ k0 sp k1 dp n k1 (i : Int)) := by
  funext i
  simp only [va_cpy, cpy]
  by_cases q : dp.toNat ≤ i ∧ i < dp.toNat + n.toNat
  · rw [if_pos q, if_pos ⟨trivial, by omega, by omega⟩]
    congr 2; omega
  · rw [if_neg q, if_neg (by omega)]
theorem cpy_l {k0 k1 : Nat} {sp dp n : Int} (h1 : 0 ≤ sp) (h2 : 0 ≤ dp) (h3 : 0 ≤ n) : va_cpy (fun i : Nat => Int64.ofInt (σ k0 (i : Int))) (fun i : Nat => Int64.ofInt (σ k1 (i : Int))) sp.toNat dp.toNat n.toNat = fun i : Nat => Int64.ofInt (cpy σ k0 sp k1 dp n k1 (i : Int)) := by
  funext i
  simp only [va_cpy, cpy]
  by_cases q : dp.toNat ≤ i ∧ i < dp.toNat + n.toNat
  · rw [if_pos q, if_pos ⟨trivial, by omega, by omega⟩]
    congr 2; omega
  · rw [if_neg q, if_neg (by omega)]
theorem oi_n {a : Int} (h0 : 0 ≤ a) (h : a < 2147483648) : ¬ Int32.ofInt a < 0 := by rw [oi_0, oi_lt ⟨by omega, h⟩ ⟨by omega, by omega⟩]; omega
theorem r_copy_int (C : cx p s m args meth c ws own cc nL ret D cA) (hw : wd D cA K h σ A H0 H locs) (hl : lh ls nL vl) (k0 k1 : Nat) {n0 n1 : Nat} (hk0 : K[k0]? = some (.inr (.inl (.int, n0)))) (hk1 : K[k1]? = some (.inr (.inl (.int, n1)))) (hn0 : Nat.ble (n0 + 1) 2147483648 = true) (hn1 : Nat.ble (n1 + 1) 2147483648 = true) {ix : Nat} (q1 : Cond.methodLink own ix arraycopyName ∈ ws) (q2 : Cond.native arraycopyName ∈ ws) (q3 : Cond.static arraycopyName ∈ ws) (q4 : Cond.initialized "java/lang/System" ∈ ws) {sp dp n : Int} (h1 : 0 ≤ sp) (h2 : 0 ≤ dp) (h3 : 0 ≤ n) (h4 : sp + n ≤ (n0 : Int)) (h5 : dp + n ≤ (n1 : Int)) (hfr : 1 ≤ R.frames) (hlo : (st.map fun v => v.category).sum + (nativeFrameWords "java/lang/System" "arraycopy" 5 + 11) ≤ R.locals) (hd : decode cc pc = .ok (.invokestatic ix, 3))
    (kk : ∀ (H1 : Heap) (locs1 : List Loc), wd D cA K h (cpy σ k0 sp k1 dp n) A H0 H1 locs1 → W p l e R s m args below meth c H1 locs1 cells slots Q (F0 m (pc + 3) ls st)) : W p l e R s m args below meth c H locs cells slots Q (F0 m pc ls (iv n :: iv dp :: .ref (h k1) :: iv sp :: .ref (h k0) :: st)) := by
  have he0 := wo_get (cA := cA) (h := h) (σ := σ) K 0 k0 _ hk0
  have he1 := wo_get (cA := cA) (h := h) (σ := σ) K 0 k1 _ hk1
  rw [Nat.zero_add] at he0 he1
  have a0 : n0 < 2147483648 := Nat.le_of_ble_eq_true hn0
  have a1 : n1 < 2147483648 := Nat.le_of_ble_eq_true hn1
  have e1 := oi_cl h1 (show sp < 2147483648 by omega)
  have e2 := oi_cl h2 (show dp < 2147483648 by omega)
  have e3 := oi_cl h3 (show n < 2147483648 by omega)
  refine va_copyi (D := D) (f := fun i : Nat => Int32.ofInt (σ k0 (i : Int))) (g := fun i : Nat => Int32.ofInt (σ k1 (i : Int))) C.1 C.2.1 (C.2.2.1.trans hl.1.symm) C.2.2.2.1 (C.2.2.2.2.1 _ q1) (C.2.2.2.2.1 _ q2) (C.2.2.2.2.1 _ q3) (C.2.2.2.2.1 _ q4) C.2.2.2.2.2.2.2 hw.1 hw.2.1 hw.2.2 k0 k1 0 0 he0 he1 rfl rfl rfl (oi_n h1 (by omega)) (oi_n h2 (by omega)) (oi_n h3 (by omega)) (by rw [e1, e3]; omega) (by rw [e2, e3]; omega) (fun _ _ => rfl) hfr hlo hd (fun H1 locs1 hP hD hS => kk H1 locs1 ?_)
  rw [e1, e2, e3, cpy_i h1 h2 h3] at hP hD
  have hP : va_P D vwCl ((wo cA h σ 0 K).set k1 (h k1, .inl (cA .int, n1, ear .int (cpy σ k0 sp k1 dp n k1)))) H1 := hP
  have hD : va_D A ((wo cA h σ 0 K).set k1 (h k1, .inl (cA .int, n1, ear .int (cpy σ k0 sp k1 dp n k1)))) := hD
  rw [wd_cpy hk1 (fun k hk => cpy_ne k hk) rfl] at hP hD
  exact ⟨hP, hD, hS⟩
theorem r_copy_long (C : cx p s m args meth c ws own cc nL ret D cA) (hw : wd D cA K h σ A H0 H locs) (hl : lh ls nL vl) (k0 k1 : Nat) {n0 n1 : Nat} (hk0 : K[k0]? = some (.inr (.inl (.long, n0)))) (hk1 : K[k1]? = some (.inr (.inl (.long, n1)))) (hn0 : Nat.ble (n0 + 1) 2147483648 = true) (hn1 : Nat.ble (n1 + 1) 2147483648 = true) {ix : Nat} (q1 : Cond.methodLink own ix arraycopyName ∈ ws) (q2 : Cond.native arraycopyName ∈ ws) (q3 : Cond.static arraycopyName ∈ ws) (q4 : Cond.initialized "java/lang/System" ∈ ws) {sp dp n : Int} (h1 : 0 ≤ sp) (h2 : 0 ≤ dp) (h3 : 0 ≤ n) (h4 : sp + n ≤ (n0 : Int)) (h5 : dp + n ≤ (n1 : Int)) (hfr : 1 ≤ R.frames) (hlo : (st.map fun v => v.category).sum + (nativeFrameWords "java/lang/System" "arraycopy" 5 + 11) ≤ R.locals) (hd : decode cc pc = .ok (.invokestatic ix, 3))
    (kk : ∀ (H1 : Heap) (locs1 : List Loc), wd D cA K h (cpy σ k0 sp k1 dp n) A H0 H1 locs1 → W p l e R s m args below meth c H1 locs1 cells slots Q (F0 m (pc + 3) ls st)) : W p l e R s m args below meth c H locs cells slots Q (F0 m pc ls (iv n :: iv dp :: .ref (h k1) :: iv sp :: .ref (h k0) :: st)) := by
  have he0 := wo_get (cA := cA) (h := h) (σ := σ) K 0 k0 _ hk0
  have he1 := wo_get (cA := cA) (h := h) (σ := σ) K 0 k1 _ hk1
  rw [Nat.zero_add] at he0 he1
  have a0 : n0 < 2147483648 := Nat.le_of_ble_eq_true hn0
  have a1 : n1 < 2147483648 := Nat.le_of_ble_eq_true hn1
  have e1 := oi_cl h1 (show sp < 2147483648 by omega)
  have e2 := oi_cl h2 (show dp < 2147483648 by omega)
  have e3 := oi_cl h3 (show n < 2147483648 by omega)
  refine va_copyl (D := D) (f := fun i : Nat => Int64.ofInt (σ k0 (i : Int))) (g := fun i : Nat => Int64.ofInt (σ k1 (i : Int))) C.1 C.2.1 (C.2.2.1.trans hl.1.symm) C.2.2.2.1 (C.2.2.2.2.1 _ q1) (C.2.2.2.2.1 _ q2) (C.2.2.2.2.1 _ q3) (C.2.2.2.2.1 _ q4) C.2.2.2.2.2.2.2 hw.1 hw.2.1 hw.2.2 k0 k1 1 1 he0 he1 rfl rfl rfl (oi_n h1 (by omega)) (oi_n h2 (by omega)) (oi_n h3 (by omega)) (by rw [e1, e3]; omega) (by rw [e2, e3]; omega) (fun _ _ => rfl) hfr hlo hd (fun H1 locs1 hP hD hS => kk H1 locs1 ?_)
  rw [e1, e2, e3, cpy_l h1 h2 h3] at hP hD
  have hP : va_P D vwCl ((wo cA h σ 0 K).set k1 (h k1, .inl (cA .long, n1, ear .long (cpy σ k0 sp k1 dp n k1)))) H1 := hP
  have hD : va_D A ((wo cA h σ 0 K).set k1 (h k1, .inl (cA .long, n1, ear .long (cpy σ k0 sp k1 dp n k1)))) := hD
  rw [wd_cpy hk1 (fun k hk => cpy_ne k hk) rfl] at hP hD
  exact ⟨hP, hD, hS⟩
end
