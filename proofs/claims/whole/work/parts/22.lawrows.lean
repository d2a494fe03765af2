/-! the law: two objects side by side -/
def wd2 (D : va_G) (cA : FieldType → ClassId) (K1 : List Kd) (h1 : Nat → Nat) (σ : St) (K2 : List Kd) (h2 : Nat → Nat) (τ : St) (A : Nat → Prop) (H0 H : Heap) (locs : List Loc) : Prop :=
  va_P D vwCl (wo cA h1 σ 0 K1 ++ wo cA h2 τ 0 K2) H ∧ va_D A (wo cA h1 σ 0 K1 ++ wo cA h2 τ 0 K2) ∧ va_S A H0 H locs
theorem wo_len {cA : FieldType → ClassId} {h : Nat → Nat} {σ : St} : ∀ (K : List Kd) (k0 : Nat), (wo cA h σ k0 K).length = K.length := by
  intro K; induction K with
  | nil => intro k0; rfl
  | cons x r ih => intro k0; simp [wo, ih]
section
variable {D : va_G} {cA : FieldType → ClassId} {K1 K2 : List Kd} {h1 h2 : Nat → Nat} {σ σ' τ τ' : St} {A : Nat → Prop} {H0 H : Heap} {locs : List Loc}
theorem wd2_1 (hw : wd2 D cA K1 h1 σ K2 h2 τ A H0 H locs) : wd D cA K1 h1 σ A H0 H locs := by
  have e : ∀ i q, (wo cA h1 σ 0 K1)[i]? = some q → (wo cA h1 σ 0 K1 ++ wo cA h2 τ 0 K2)[i]? = some q := fun i q hq => by
    rw [List.getElem?_append_left (List.getElem?_eq_some_iff.mp hq).1]; exact hq
  exact ⟨fun i q hq => hw.1 i q (e i q hq), ⟨fun i j p q hp hq => hw.2.1.1 i j p q (e i p hp) (e j q hq), fun i q hq => hw.2.1.2 i q (e i q hq)⟩, hw.2.2⟩
theorem wd2_2 (hw : wd2 D cA K1 h1 σ K2 h2 τ A H0 H locs) : wd D cA K2 h2 τ A H0 H locs := by
  have e : ∀ i q, (wo cA h2 τ 0 K2)[i]? = some q → (wo cA h1 σ 0 K1 ++ wo cA h2 τ 0 K2)[K1.length + i]? = some q := fun i q hq => by
    rw [List.getElem?_append_right (by rw [wo_len]; omega), wo_len, Nat.add_sub_cancel_left]; exact hq
  exact ⟨fun i q hq => hw.1 _ q (e i q hq), ⟨fun i j p q hp hq hpq => by have := hw.2.1.1 _ _ p q (e i p hp) (e j q hq) hpq; omega, fun i q hq => hw.2.1.2 _ q (e i q hq)⟩, hw.2.2⟩
theorem wd2_D (hw : wd2 D cA K1 h1 σ K2 h2 τ A H0 H locs) : va_D A (wo cA h1 σ' 0 K1 ++ wo cA h2 τ' 0 K2) := by
  have e : ∀ (i : Nat) (q : Nat × va_E), (wo cA h1 σ' 0 K1 ++ wo cA h2 τ' 0 K2)[i]? = some q → ∃ q', (wo cA h1 σ 0 K1 ++ wo cA h2 τ 0 K2)[i]? = some q' ∧ q'.1 = q.1 := by
    intro i q hq
    by_cases hi : i < K1.length
    · rw [List.getElem?_append_left (by rw [wo_len]; exact hi)] at hq
      obtain ⟨kd, a, b⟩ := wo_inv K1 0 i q hq
      refine ⟨_, by rw [List.getElem?_append_left (by rw [wo_len]; exact hi)]; exact wo_get K1 0 i kd a, ?_⟩
      subst b; rfl
    · rw [List.getElem?_append_right (by rw [wo_len]; omega), wo_len] at hq
      obtain ⟨kd, a, b⟩ := wo_inv K2 0 (i - K1.length) q hq
      refine ⟨_, by rw [List.getElem?_append_right (by rw [wo_len]; omega), wo_len]; exact wo_get K2 0 (i - K1.length) kd a, ?_⟩
      subst b; rfl
  refine ⟨fun i j p q hp hq hpq => ?_, fun i q hq => ?_⟩
  · obtain ⟨p', a1, a2⟩ := e i p hp
    obtain ⟨q', b1, b2⟩ := e j q hq
    exact hw.2.1.1 i j p' q' a1 b1 (by rw [a2, b2]; exact hpq)
  · obtain ⟨q', b1, b2⟩ := e i q hq
    rw [← b2]; exact hw.2.1.2 i q' b1
theorem wd2_apart (hw : wd2 D cA K1 h1 σ K2 h2 τ A H0 H locs) {i j : Nat} (hi : i < K1.length) (hj : j < K2.length) : h1 i ≠ h2 j := by
  intro hh
  have a := wo_get (cA := cA) (h := h1) (σ := σ) K1 0 i _ (List.getElem?_eq_getElem hi)
  have b := wo_get (cA := cA) (h := h2) (σ := τ) K2 0 j _ (List.getElem?_eq_getElem hj)
  have := hw.2.1.1 i (K1.length + j) _ _ (by rw [List.getElem?_append_left (by rw [wo_len]; exact hi)]; exact a) (by rw [List.getElem?_append_right (by rw [wo_len]; omega), wo_len, Nat.add_sub_cancel_left]; exact b) (by simpa using hh)
  omega
theorem wd2_set1 {H1 : Heap} {locs1 : List Loc} (hw : wd2 D cA K1 h1 σ K2 h2 τ A H0 H locs) (hP : va_P D vwCl (wo cA h1 σ' 0 K1) H1) (hk : ∀ q : Nat, q < H.size → ¬ aA K1.length h1 H.size q → H1[q]? = H[q]?) (hS : va_S A H0 H1 locs1) : wd2 D cA K1 h1 σ' K2 h2 τ A H0 H1 locs1 := by
  refine ⟨va_P.app hP (fun i q hq => ?_), wd2_D hw, hS⟩
  have h5 := (wd2_2 hw).1 i q hq
  refine h5.kept (hk _ h5.lt ?_)
  obtain ⟨kd, a, b⟩ := wo_inv K2 0 i q hq
  subst b
  rintro (⟨z, hz1, hz2⟩ | hz2)
  · refine wd2_apart hw hz1 (List.getElem?_eq_some_iff.mp a).1 ?_
    simpa using hz2.symm
  · exact absurd h5.lt (Nat.not_lt.mpr hz2)
theorem wd2_set2 {H1 : Heap} {locs1 : List Loc} (hw : wd2 D cA K1 h1 σ K2 h2 τ A H0 H locs) (hP : va_P D vwCl (wo cA h2 τ' 0 K2) H1) (hk : ∀ q : Nat, q < H.size → ¬ aA K2.length h2 H.size q → H1[q]? = H[q]?) (hS : va_S A H0 H1 locs1) : wd2 D cA K1 h1 σ K2 h2 τ' A H0 H1 locs1 := by
  refine ⟨va_P.app (fun i q hq => ?_) hP, wd2_D hw, hS⟩
  have h5 := (wd2_1 hw).1 i q hq
  refine h5.kept (hk _ h5.lt ?_)
  obtain ⟨kd, a, b⟩ := wo_inv K1 0 i q hq
  subst b
  rintro (⟨z, hz1, hz2⟩ | hz2)
  · refine wd2_apart hw (List.getElem?_eq_some_iff.mp a).1 hz1 ?_
    simpa using hz2
  · exact absurd h5.lt (Nat.not_lt.mpr hz2)
end
section
variable {p : Program} {l : Launch} {e : Env} {R : Room} {s : State} {m : MethodId} {args : Array Value} {below : List Frame} {meth : Method} {c : Code} {H : Heap} {locs : List Loc} {cells slots : Nat} {Q : State → Prop} {pc : Nat} {ls : Array Slot} {st st0 : List Value}
variable {ws : List Cond} {own : String} {cc : ByteArray} {nL : Nat} {ret : Option FieldType} {D : va_G} {cA : FieldType → ClassId} {K1 K2 : List Kd} {h1 h2 : Nat → Nat} {σ τ : St} {A : Nat → Prop} {H0 : Heap} {vl : List (Option Value)}
theorem r2_1I (hA : ∀ q, s.heap.size ≤ q → A q) (hw : wd2 D cA K1 h1 σ K2 h2 τ A s.heap H locs) {a : Array Value} {post : Int → St → Prop}
    (hr : va_Run p l e R s m args below meth c H locs cells slots 0 0 (F0 m pc ls st0) st (QI D cA K1 h1 H.size post a) (aA K1.length h1 H.size))
    (k : ∀ (r : Int) (σ' : St) (H1 : Heap) (locs1 : List Loc), post r σ' → wd2 D cA K1 h1 σ' K2 h2 τ A s.heap H1 locs1 → W p l e R s m args below meth c H1 locs1 cells slots Q (F0 m (pc + 3) ls (iv r :: st))) : W p l e R s m args below meth c H locs cells slots Q (F0 m pc ls st0) :=
  va_calli hr hw.2.2 (fun q _ hq => wd_self (wd2_1 hw) hA q hq) (wd_self (wd2_1 hw) hA) (fun r u t H1 locs1 ht hvm hp hB hz hk hS => by
    obtain ⟨rfl, hp⟩ := hp
    subst ht
    exact k u.1 u.2 _ locs1 hp (wd2_set1 hw hB hk hS))
theorem r2_1L (hA : ∀ q, s.heap.size ≤ q → A q) (hw : wd2 D cA K1 h1 σ K2 h2 τ A s.heap H locs) {a : Array Value} {post : Int → St → Prop}
    (hr : va_Run p l e R s m args below meth c H locs cells slots 0 0 (F0 m pc ls st0) st (QL D cA K1 h1 H.size post a) (aA K1.length h1 H.size))
    (k : ∀ (r : Int) (σ' : St) (H1 : Heap) (locs1 : List Loc), post r σ' → wd2 D cA K1 h1 σ' K2 h2 τ A s.heap H1 locs1 → W p l e R s m args below meth c H1 locs1 cells slots Q (F0 m (pc + 3) ls (jv r :: st))) : W p l e R s m args below meth c H locs cells slots Q (F0 m pc ls st0) :=
  va_calll hr hw.2.2 (fun q _ hq => wd_self (wd2_1 hw) hA q hq) (wd_self (wd2_1 hw) hA) (fun r u t H1 locs1 ht hvm hp hB hz hk hS => by
    obtain ⟨rfl, hp⟩ := hp
    subst ht
    exact k u.1 u.2 _ locs1 hp (wd2_set1 hw hB hk hS))
theorem r2_2I (hA : ∀ q, s.heap.size ≤ q → A q) (hw : wd2 D cA K1 h1 σ K2 h2 τ A s.heap H locs) {a : Array Value} {post : Int → St → Prop}
    (hr : va_Run p l e R s m args below meth c H locs cells slots 0 0 (F0 m pc ls st0) st (QI D cA K2 h2 H.size post a) (aA K2.length h2 H.size))
    (k : ∀ (r : Int) (τ' : St) (H1 : Heap) (locs1 : List Loc), post r τ' → wd2 D cA K1 h1 σ K2 h2 τ' A s.heap H1 locs1 → W p l e R s m args below meth c H1 locs1 cells slots Q (F0 m (pc + 3) ls (iv r :: st))) : W p l e R s m args below meth c H locs cells slots Q (F0 m pc ls st0) :=
  va_calli hr hw.2.2 (fun q _ hq => wd_self (wd2_2 hw) hA q hq) (wd_self (wd2_2 hw) hA) (fun r u t H1 locs1 ht hvm hp hB hz hk hS => by
    obtain ⟨rfl, hp⟩ := hp
    subst ht
    exact k u.1 u.2 _ locs1 hp (wd2_set2 hw hB hk hS))
theorem r2_2L (hA : ∀ q, s.heap.size ≤ q → A q) (hw : wd2 D cA K1 h1 σ K2 h2 τ A s.heap H locs) {a : Array Value} {post : Int → St → Prop}
    (hr : va_Run p l e R s m args below meth c H locs cells slots 0 0 (F0 m pc ls st0) st (QL D cA K2 h2 H.size post a) (aA K2.length h2 H.size))
    (k : ∀ (r : Int) (τ' : St) (H1 : Heap) (locs1 : List Loc), post r τ' → wd2 D cA K1 h1 σ K2 h2 τ' A s.heap H1 locs1 → W p l e R s m args below meth c H1 locs1 cells slots Q (F0 m (pc + 3) ls (jv r :: st))) : W p l e R s m args below meth c H locs cells slots Q (F0 m pc ls st0) :=
  va_calll hr hw.2.2 (fun q _ hq => wd_self (wd2_2 hw) hA q hq) (wd_self (wd2_2 hw) hA) (fun r u t H1 locs1 ht hvm hp hB hz hk hS => by
    obtain ⟨rfl, hp⟩ := hp
    subst ht
    exact k u.1 u.2 _ locs1 hp (wd2_set2 hw hB hk hS))
/-- a second object beside the first -/
theorem r_ctor2 {kd : Kd} (C : cx p s m args meth c ws own cc nL ret D cA) (hw : wd D cA (K1 ++ [kd]) h1 σ A s.heap H locs) (hA : ∀ q, s.heap.size ≤ q → A q) (hrf : rfOK 0 kd = true) (hcl : clK K1 K1.length = true) {mc ms : Nat} {post : St → Prop} {a : Array Value}
    (hr : va_Run p l e R s m args below meth c H locs cells slots mc ms (F0 m pc ls st0) st (QC D cA K2 (hk_ h1 K1.length) H.size post a) (aA 1 (hk_ h1 K1.length) H.size))
    (k : ∀ (h' : Nat → Nat) (σ' : St) (H1 : Heap) (locs1 : List Loc), h' 0 = h1 K1.length → post σ' → wd2 D cA K1 h1 σ K2 h' σ' A s.heap H1 locs1 → W p l e R s m args below meth c H1 locs1 (cells + mc) (slots + ms) Q (F0 m (pc + 3) ls st)) : W p l e R s m args below meth c H locs cells slots Q (F0 m pc ls st0) := by
  have h3 : (K1 ++ [kd])[K1.length]? = some kd := by simp
  have hlast := wo_get (cA := cA) (h := h1) (σ := σ) (K1 ++ [kd]) 0 K1.length _ h3
  rw [Nat.zero_add] at hlast
  have hfst : ∀ i q, (wo cA h1 σ 0 K1)[i]? = some q → (wo cA h1 σ 0 (K1 ++ [kd]))[i]? = some q := fun i q hq => by
    rw [wo_app, List.getElem?_append_left (List.getElem?_eq_some_iff.mp hq).1]; exact hq
  have hsub : ∀ q, aA 1 (hk_ h1 K1.length) H.size q → A q := by
    rintro q (⟨i, hi, rfl⟩ | hq)
    · have : i = 0 := by omega
      subst this
      exact hw.2.1.2 _ _ hlast
    · exact hA q (Nat.le_trans hw.2.2.1 hq)
  refine va_callv hr hw.2.2 (fun q _ hq => hsub q hq) hsub (fun u t H1 locs1 ht hvm hp hB hz hk hS => ?_)
  subst ht
  obtain ⟨h0, hp⟩ := hp
  refine k u.1 u.2 _ locs1 h0 hp ⟨?_, ?_, hS⟩
  · refine va_P.app (fun i q hq => ?_) hB.1
    have h5 := hw.1 i q (hfst i q hq)
    refine h5.kept (hk _ h5.lt ?_)
    rintro (⟨z, hz1, hz2⟩ | hz2)
    · have : z = 0 := by omega
      subst this
      have h6 := hw.2.1.1 i K1.length _ _ (hfst i q hq) hlast hz2
      have h7 := (List.getElem?_eq_some_iff.mp hq).1
      rw [wo_len] at h7; omega
    · exact absurd h5.lt (Nat.not_lt.mpr hz2)
  · refine va_D.app ⟨fun i j q1 q2 e1 e2 e3 => hw.2.1.1 i j q1 q2 (hfst i q1 e1) (hfst j q2 e2) e3, fun i q1 e1 => hw.2.1.2 i q1 (hfst i q1 e1)⟩ (hB.2.weaken (fun _ q _ hq => hsub q.1 hq)) (fun i j q1 q2 e1 e2 e3 => ?_)
    have h5 := (hw.1 i q1 (hfst i q1 e1)).lt
    rcases hB.2.2 j q2 e2 with ⟨z, hz1, hz2⟩ | hz2
    · have : z = 0 := by omega
      subst this
      have h6 := hw.2.1.1 i K1.length _ _ (hfst i q1 e1) hlast (e3.trans hz2)
      have h7 := (List.getElem?_eq_some_iff.mp e1).1
      rw [wo_len] at h7; omega
    · rw [e3] at h5; omega
def lsl (a b : Int) : Int := (Int64.ofInt a <<< ((Int32.ofInt b).toInt64 &&& 63)).toInt
def lnd (a b : Int) : Int := (Int64.ofInt a &&& Int64.ofInt b).toInt
def lor (a b : Int) : Int := (Int64.ofInt a ||| Int64.ofInt b).toInt
theorem r_lshl (C : cx p s m args meth c ws own cc nL ret D cA) {a b : Int} (hd : decode cc pc = .ok (.lshl, 1)) (k : W p l e R s m args below meth c H locs cells slots Q (F0 m (pc + 1) ls (jv (lsl a b) :: st))) : W p l e R s m args below meth c H locs cells slots Q (F0 m pc ls (iv b :: jv a :: st)) := lv_lshl C.1 C.2.1 hd rfl (by rw [lsl, jvt] at k; exact k)
theorem r_land (C : cx p s m args meth c ws own cc nL ret D cA) {a b : Int} (hd : decode cc pc = .ok (.land, 1)) (k : W p l e R s m args below meth c H locs cells slots Q (F0 m (pc + 1) ls (jv (lnd a b) :: st))) : W p l e R s m args below meth c H locs cells slots Q (F0 m pc ls (jv b :: jv a :: st)) := lv_land C.1 C.2.1 hd (by rw [lnd, jvt] at k; exact k)
theorem r_lor (C : cx p s m args meth c ws own cc nL ret D cA) {a b : Int} (hd : decode cc pc = .ok (.lor, 1)) (k : W p l e R s m args below meth c H locs cells slots Q (F0 m (pc + 1) ls (jv (lor a b) :: st))) : W p l e R s m args below meth c H locs cells slots Q (F0 m pc ls (jv b :: jv a :: st)) := lv_lor C.1 C.2.1 hd (by rw [lor, jvt] at k; exact k)
/-- the script's items, as numbers -/
def sc (xs : Nat → Int32) (a : Int) : Int := (xs a.toNat).toInt
theorem sc_rg (xs : Nat → Int32) (a : Int) : rg (sc xs a) := ⟨Int32.le_toInt _, Int32.toInt_lt _⟩
theorem r_sld (C : cx p s m args meth c ws own cc nL ret D cA) {b L : Nat} {xs : Nat → Int32} (hX : va_X b L xs s s.heap) (hbl : b < s.heap.size) (hbA : ¬ A b) (hS : va_S A s.heap H locs) (hL : L ≤ 3072) {a : Int} (h0 : 0 ≤ a) (h1 : a < (L : Int)) (hd : decode cc pc = .ok (.iaload, 1))
    (kk : W p l e R s m args below meth c H locs cells slots Q (F0 m (pc + 1) ls (iv (sc xs a) :: st))) : W p l e R s m args below meth c H locs cells slots Q (F0 m pc ls (iv a :: .ref b :: st)) := by
  refine va_sld (i := Int32.ofInt a) C.1 C.2.1 hX hbl hbA hS (oi_in h0 h1 (by omega)) hd ?_
  rw [oi_cl h0 (by omega)]
  rw [sc, ivt] at kk
  exact kk
theorem r_slen (C : cx p s m args meth c ws own cc nL ret D cA) {b L : Nat} {xs : Nat → Int32} (hX : va_X b L xs s s.heap) (hbl : b < s.heap.size) (hbA : ¬ A b) (hS : va_S A s.heap H locs) (hd : decode cc pc = .ok (.arraylength, 1))
    (kk : W p l e R s m args below meth c H locs cells slots Q (F0 m (pc + 1) ls (iv (L : Int) :: st))) : W p l e R s m args below meth c H locs cells slots Q (F0 m pc ls (.ref b :: st)) := by
  refine va_slen C.1 C.2.1 hX hbl hbA hS hd ?_
  rw [iv, Int32.ofInt_eq_ofNat] at kk
  exact kk
end
