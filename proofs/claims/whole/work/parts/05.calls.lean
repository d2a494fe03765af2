/-- the place of a cell among the callee's -/
def ixo : List Nat → Nat → Option Nat
  | [], _ => none
  | a :: r, k => if a = k then some 0 else (ixo r k).map (· + 1)
def renF (js : List Nat) (fd : Option (Option Nat)) : Option (Option Nat) := fd.map fun o => o.map fun k => js.getD k 0
def renK (js : List Nat) : Kd → Kd
  | .inl o => .inl (o.1, o.2.map (renF js))
  | .inr (.inl a) => .inr (.inl a)
  | .inr (.inr a) => .inr (.inr (a.1, a.2.map fun o => o.map fun k => js.getD k 0))
/-- the callee's cells K' are the caller's cells js -/
def sbK (K K' : List Kd) (js : List Nat) : Prop := K'.map (fun kd => some (renK js kd)) = js.map (fun k => K[k]?) ∧ va_nd js = true
def hm (h : Nat → Nat) (js : List Nat) : Nat → Nat := fun i => h (js.getD i 0)
def pk (σ : St) (js : List Nat) : St := fun i => σ (js.getD i 0)
def mrg (σ : St) (js : List Nat) (σ' : St) : St := fun k => match ixo js k with | some i => σ' i | none => σ k
theorem ixo_some : ∀ {js : List Nat} {k i : Nat}, ixo js k = some i → js[i]? = some k
  | [], k, i, e => by simp [ixo] at e
  | a :: r, k, i, e => by
    simp only [ixo] at e
    by_cases h : a = k
    · rw [if_pos h] at e; simp at e; subst e; subst h; rfl
    · rw [if_neg h] at e
      cases e2 : ixo r k with
      | none => rw [e2] at e; simp at e
      | some j => rw [e2] at e; simp at e; subst e; simpa using ixo_some e2
theorem ixo_none : ∀ {js : List Nat} {k : Nat}, ixo js k = none → ∀ i : Nat, js[i]? ≠ some k
  | [], k, e, i => by simp
  | a :: r, k, e, i => by
    simp only [ixo] at e
    by_cases h : a = k
    · rw [if_pos h] at e; simp at e
    · rw [if_neg h] at e
      cases e2 : ixo r k with
      | none =>
        cases i with
        | zero => simpa using h
        | succ i => simpa using ixo_none e2 i
      | some j => rw [e2] at e; simp at e
theorem ixo_at : ∀ {js : List Nat} (k i : Nat), va_nd js = true → js[i]? = some k → ixo js k = some i := by
  intro js k i hn hi
  cases e : ixo js k with
  | none => exact absurd hi (ixo_none e i)
  | some j => rw [va_nd_inj js hn _ _ _ (ixo_some e) hi]
theorem sbk_at {K K' : List Kd} {js : List Nat} (hs : sbK K K' js) {i : Nat} {kd : Kd} (hk : K'[i]? = some kd) : ∃ k, js[i]? = some k ∧ K[k]? = some (renK js kd) := by
  have h1 := congrArg (fun l : List (Option Kd) => l[i]?) hs.1
  simp only [List.getElem?_map, hk] at h1
  cases e : js[i]? with
  | none => rw [e] at h1; simp at h1
  | some k => rw [e] at h1; simp at h1; exact ⟨k, rfl, h1.symm⟩
theorem sbk_inv {K K' : List Kd} {js : List Nat} (hs : sbK K K' js) {i k : Nat} (hk : js[i]? = some k) : ∃ kd, K'[i]? = some kd ∧ K[k]? = some (renK js kd) := by
  have h1 := congrArg (fun l : List (Option Kd) => l[i]?) hs.1
  simp only [List.getElem?_map, hk] at h1
  cases e : K'[i]? with
  | none => rw [e] at h1; simp at h1
  | some kd => rw [e] at h1; simp at h1; exact ⟨kd, rfl, h1.symm⟩
theorem fvs_ren {h : Nat → Nat} {f : Int → Int} {js : List Nat} : ∀ (fd : List (Option (Option Nat))) (j0 : Nat), fvs h f j0 (fd.map (renF js)) = fvs (hm h js) f j0 fd
  | [], _ => rfl
  | a :: r, j0 => by
    have := fvs_ren (h := h) (f := f) (js := js) r (j0 + 1)
    rcases a with _ | _ | k <;> simp [fvs, renF, hm] <;> simpa [renF] using this
theorem ent_ren {cA : FieldType → ClassId} {h : Nat → Nat} {f : Int → Int} {js : List Nat} (kd : Kd) : ent cA h f (renK js kd) = ent cA (hm h js) f kd := by
  rcases kd with o | a | a
  · simp only [renK, ent, fvs_ren]
  · rfl
  · simp only [renK, ent, List.length_map]
    congr 7
    funext i
    simp only [List.getD_eq_getElem?_getD, List.getElem?_map]
    cases a.2[i]? with
    | none => rfl
    | some o => cases o <;> rfl
section
variable {D : va_G} {cA : FieldType → ClassId} {K K' : List Kd} {h : Nat → Nat} {σ σ' : St} {A : Nat → Prop} {H0 H : Heap} {locs : List Loc} {js : List Nat}
theorem wd_pk (hw : wd D cA K h σ A H0 H locs) (hs : sbK K K' js) : va_P D vwCl (wo cA (hm h js) (pk σ js) 0 K') H := by
  intro i q hq
  obtain ⟨kd, h1, h2⟩ := wo_inv K' 0 i q hq
  obtain ⟨k, h3, h4⟩ := sbk_at hs h1
  have := hw.1 k _ (wo_get K 0 k _ h4)
  rw [Nat.zero_add] at this h2
  rw [ent_ren] at this
  subst h2
  have e : hm h js i = h k := by simp [hm, List.getD_eq_getElem?_getD, h3]
  have e2 : pk σ js i = σ k := by simp [pk, List.getD_eq_getElem?_getD, h3]
  rw [e, e2]; exact this
theorem wd_pkD (hw : wd D cA K h σ A H0 H locs) (hs : sbK K K' js) : va_D (fun _ => True) (wo cA (hm h js) (pk σ js) 0 K') := by
  refine ⟨fun i j p q hp hq e => ?_, fun _ _ _ => trivial⟩
  obtain ⟨kp, a1, b1⟩ := wo_inv K' 0 i p hp
  obtain ⟨kq, a2, b2⟩ := wo_inv K' 0 j q hq
  obtain ⟨x, c1, d1⟩ := sbk_at hs a1
  obtain ⟨y, c2, d2⟩ := sbk_at hs a2
  subst b1; subst b2
  simp only [Nat.zero_add, hm, List.getD_eq_getElem?_getD, c1, c2, Option.getD_some] at e
  have := hw.2.1.1 x y _ _ (wo_get K 0 x _ d1) (wo_get K 0 y _ d2) (by simpa using e)
  subst this
  exact va_nd_inj js hs.2 _ _ _ c1 c2
theorem aA_sub (hw : wd D cA K h σ A H0 H locs) (hA : ∀ q, H0.size ≤ q → A q) (hs : sbK K K' js) : ∀ q, aA K'.length (hm h js) H.size q → A q := by
  rintro q (⟨i, hi, rfl⟩ | hq)
  · obtain ⟨k, h3, h4⟩ := sbk_at hs (List.getElem?_eq_getElem hi)
    have := hw.2.1.2 k _ (wo_get K 0 k _ h4)
    simpa [hm, List.getD_eq_getElem?_getD, h3] using this
  · exact hA q (Nat.le_trans hw.2.2.1 hq)
theorem wd_back {H1 : Heap} {locs1 : List Loc} (hw : wd D cA K h σ A H0 H locs) (hs : sbK K K' js) (hP : va_P D vwCl (wo cA (hm h js) σ' 0 K') H1) (hk : ∀ q : Nat, q < H.size → ¬ aA K'.length (hm h js) H.size q → H1[q]? = H[q]?) (hS : va_S A H0 H1 locs1) : wd D cA K h (mrg σ js σ') A H0 H1 locs1 := by
  refine ⟨fun k q hq => ?_, wo_D hw.2.1, hS⟩
  obtain ⟨kd, h1, h2⟩ := wo_inv K 0 k q hq
  subst h2
  rw [Nat.zero_add]
  cases e : ixo js k with
  | some i =>
    have h3 := ixo_some e
    obtain ⟨kd', h4, h5⟩ := sbk_inv hs h3
    rw [h1] at h5
    have h6 := hP i _ (wo_get K' 0 i _ h4)
    rw [Nat.zero_add, ← ent_ren, ← Option.some.inj h5] at h6
    have e1 : hm h js i = h k := by simp [hm, List.getD_eq_getElem?_getD, h3]
    have e2 : mrg σ js σ' k = σ' i := by simp [mrg, e]
    rw [e1] at h6; rw [e2]; exact h6
  | none =>
    have e2 : mrg σ js σ' k = σ k := by simp [mrg, e]
    rw [e2]
    have h3 := hw.1 k _ (wo_get K 0 k _ h1)
    rw [Nat.zero_add] at h3
    refine h3.kept (hk _ h3.lt ?_)
    rintro (⟨i, hi, hq⟩ | hq)
    · obtain ⟨k2, h4, h5⟩ := sbk_at hs (List.getElem?_eq_getElem hi)
      have h6 : h k = h k2 := by simpa [hm, List.getD_eq_getElem?_getD, h4] using hq
      have := hw.2.1.1 k k2 _ _ (wo_get K 0 k _ h1) (wo_get K 0 k2 _ h5) (by simpa using h6)
      subst this
      exact ixo_none e i h4
    · exact absurd h3.lt (Nat.not_lt.mpr hq)
theorem mrg_pk : mrg σ js (pk σ js) = σ := by
  funext k
  unfold mrg
  cases e : ixo js k with
  | none => rfl
  | some i => simp [pk, List.getD_eq_getElem?_getD, ixo_some e]
end
/-- a contract's start: the cells K at h hold σ, the heap has sz cells -/
def preS (D : va_G) (cA : FieldType → ClassId) (K : List Kd) (h : Nat → Nat) (σ : St) (sz : Nat) : State → Prop := fun U => U.heap.size = sz ∧ va_P D vwCl (wo cA h σ 0 K) U.heap ∧ va_K D vwCl (tyL cA) U ∧ va_D (fun _ => True) (wo cA h σ 0 K)
theorem preS_blind {D : va_G} {cA : FieldType → ClassId} {K : List Kd} {h : Nat → Nat} {σ : St} {sz : Nat} {As : List Value} : FrameBlind (va_Pc As (preS D cA K h σ sz)) := fun a U g mk q => by
  obtain ⟨q0, q1, qP, qK, qD⟩ := q
  exact ⟨q0, q1, qP, va_K.moved (u := U) (U := U.calling g mk a) (Vm.Alike.refl U.vm) qK, qD⟩
def QI (D : va_G) (cA : FieldType → ClassId) (K : List Kd) (h : Nat → Nat) (sz : Nat) (post : Int → St → Prop) : Array Value → State → Outcome → State → Prop := va_Qi (fun (r : Int32) (u : Int × St) => r = Int32.ofInt u.1 ∧ post u.1 u.2) (fun u t => va_P D vwCl (wo cA h u.2 0 K) t.heap) (aA K.length h sz)
def QL (D : va_G) (cA : FieldType → ClassId) (K : List Kd) (h : Nat → Nat) (sz : Nat) (post : Int → St → Prop) : Array Value → State → Outcome → State → Prop := va_Ql (fun (r : Int64) (u : Int × St) => r = Int64.ofInt u.1 ∧ post u.1 u.2) (fun u t => va_P D vwCl (wo cA h u.2 0 K) t.heap) (aA K.length h sz)
def QV (D : va_G) (cA : FieldType → ClassId) (K : List Kd) (h : Nat → Nat) (sz : Nat) (post : St → Prop) : Array Value → State → Outcome → State → Prop := va_Qv (fun (u : St) => post u) (fun u t => va_P D vwCl (wo cA h u 0 K) t.heap) (aA K.length h sz)
def QR (D : va_G) (cA : FieldType → ClassId) (K : List Kd) (h : Nat → Nat) (sz : Nat) (rk : Nat) (post : St → Prop) : Array Value → State → Outcome → State → Prop := va_Qr (fun (u : St) => post u) (fun u a t => a = h rk ∧ va_P D vwCl (wo cA h u 0 K) t.heap) (aA K.length h sz)
section
variable {p : Program} {l : Launch} {e : Env} {R : Room} {s : State} {m : MethodId} {args : Array Value} {below : List Frame} {meth : Method} {c : Code} {H : Heap} {locs : List Loc} {cells slots : Nat} {Q : State → Prop} {pc : Nat} {ls : Array Slot} {st st0 : List Value}
variable {ws : List Cond} {own : String} {cc : ByteArray} {nL : Nat} {ret : Option FieldType} {D : va_G} {cA : FieldType → ClassId} {K K' : List Kd} {h : Nat → Nat} {σ : St} {A : Nat → Prop} {js : List Nat} {vl : List (Option Value)}
theorem run_v (C : cx p s m args meth c ws own cc nL ret D cA) (hw : wd D cA K h σ A s.heap H locs) (hs : sbK K K' js) {ci : Nat} {fds : List (Option (Option Nat))} {Cn : String} {T : u_T} {N : Nat} {ty : Nat → FieldType} (hc : clo ci Cn T N ty) (h0 : K'[0]? = some (.inl (ci, fds))) {y : MethodName} {ws' : List Cond} {rm' : Room} {As : List Value} {Qc : Array Value → State → Outcome → State → Prop} {ix n maxL : Nat} {bytes : ByteArray} {ret' : Option FieldType}
    (hM : Met l y ws' rm' (va_Pc (.ref (hm h js 0) :: As) (preS D cA K' (hm h js) (pk σ js) H.size)) Qc 0 0 (aA K'.length (hm h js) H.size)) (cw : CallW R s args own Cn ix y bytes maxL ret' ws' rm' 0 0 n) (hn : As.length = n) (hst : st0 = As.reverse ++ .ref (hm h js 0) :: st) (hcat : Nat.ble (st.map fun v => v.category).sum 8 = true) (hl : lh ls nL vl) (hd : decode cc pc = .ok (.invokevirtual ix, 3)) (hf : cells ≤ R.cells ∧ slots ≤ R.slots) :
    va_Run p l e R s m args below meth c H locs cells slots 0 0 (F0 m pc ls st0) st (Qc (Value.ref (hm h js 0) :: As).toArray) (aA K'.length (hm h js) H.size) :=
  va_runV ⟨C.1, C.2.1, C.2.2.1, C.2.2.2.1, C.2.2.2.2.1⟩ hM cw
    ⟨preS_blind, va_recv C.2.2.2.2.2.2.2 (wd_pk hw hs) hc.1 (wo_get K' 0 0 _ h0), fun U hU hW => ⟨rfl, by rw [hU], by rw [hU]; exact wd_pk hw hs, va_K.moved hW.alike C.2.2.2.2.2.2.2, wd_pkD hw hs⟩⟩
    rfl hn hl.1 hst (lv_room (Nat.le_of_ble_eq_true hcat)) hd hf
theorem run_s (C : cx p s m args meth c ws own cc nL ret D cA) (hw : wd D cA K h σ A s.heap H locs) (hs : sbK K K' js) {y : MethodName} {ws' : List Cond} {rm' : Room} {As : List Value} {Qc : Array Value → State → Outcome → State → Prop} {ix n maxL : Nat} {bytes : ByteArray} {ret' : Option FieldType}
    (hM : Met l y ws' rm' (va_Pc As (preS D cA K' (hm h js) (pk σ js) H.size)) Qc 0 0 (aA K'.length (hm h js) H.size)) (cw : CallB R s args own ix y bytes maxL ret' ws' rm' 0 0 n ∧ (Cond.static y).before args s = true) (hn : As.length = n) (hst : st0 = As.reverse ++ st) (hcat : Nat.ble (st.map fun v => v.category).sum 8 = true) (hl : lh ls nL vl) (hd : decode cc pc = .ok (.invokestatic ix, 3)) (hf : cells ≤ R.cells ∧ slots ≤ R.slots) :
    va_Run p l e R s m args below meth c H locs cells slots 0 0 (F0 m pc ls st0) st (Qc As.toArray) (aA K'.length (hm h js) H.size) :=
  va_runS ⟨C.1, C.2.1, C.2.2.1, C.2.2.2.1, C.2.2.2.2.1⟩ hM cw
    ⟨preS_blind, fun U hU hW => ⟨rfl, by rw [hU], by rw [hU]; exact wd_pk hw hs, va_K.moved hW.alike C.2.2.2.2.2.2.2, wd_pkD hw hs⟩⟩
    rfl hn hl.1 hst (lv_room (Nat.le_of_ble_eq_true hcat)) hd hf
theorem r_cI (hA : ∀ q, s.heap.size ≤ q → A q) (hw : wd D cA K h σ A s.heap H locs) (hs : sbK K K' js) {a : Array Value} {post : Int → St → Prop}
    (hr : va_Run p l e R s m args below meth c H locs cells slots 0 0 (F0 m pc ls st0) st (QI D cA K' (hm h js) H.size post a) (aA K'.length (hm h js) H.size))
    (k : ∀ (r : Int) (σ' : St) (H1 : Heap) (locs1 : List Loc), post r σ' → wd D cA K h (mrg σ js σ') A s.heap H1 locs1 → W p l e R s m args below meth c H1 locs1 cells slots Q (F0 m (pc + 3) ls (iv r :: st))) : W p l e R s m args below meth c H locs cells slots Q (F0 m pc ls st0) :=
  va_calli hr hw.2.2 (fun q _ hq => aA_sub hw hA hs q hq) (aA_sub hw hA hs) (fun r u t H1 locs1 ht hvm hp hB hz hk hS => by
    obtain ⟨rfl, hp⟩ := hp
    subst ht
    exact k u.1 u.2 _ locs1 hp (wd_back hw hs hB hk hS))
theorem r_cL (hA : ∀ q, s.heap.size ≤ q → A q) (hw : wd D cA K h σ A s.heap H locs) (hs : sbK K K' js) {a : Array Value} {post : Int → St → Prop}
    (hr : va_Run p l e R s m args below meth c H locs cells slots 0 0 (F0 m pc ls st0) st (QL D cA K' (hm h js) H.size post a) (aA K'.length (hm h js) H.size))
    (k : ∀ (r : Int) (σ' : St) (H1 : Heap) (locs1 : List Loc), post r σ' → wd D cA K h (mrg σ js σ') A s.heap H1 locs1 → W p l e R s m args below meth c H1 locs1 cells slots Q (F0 m (pc + 3) ls (jv r :: st))) : W p l e R s m args below meth c H locs cells slots Q (F0 m pc ls st0) :=
  va_calll hr hw.2.2 (fun q _ hq => aA_sub hw hA hs q hq) (aA_sub hw hA hs) (fun r u t H1 locs1 ht hvm hp hB hz hk hS => by
    obtain ⟨rfl, hp⟩ := hp
    subst ht
    exact k u.1 u.2 _ locs1 hp (wd_back hw hs hB hk hS))
theorem r_cV (hA : ∀ q, s.heap.size ≤ q → A q) (hw : wd D cA K h σ A s.heap H locs) (hs : sbK K K' js) {a : Array Value} {post : St → Prop}
    (hr : va_Run p l e R s m args below meth c H locs cells slots 0 0 (F0 m pc ls st0) st (QV D cA K' (hm h js) H.size post a) (aA K'.length (hm h js) H.size))
    (k : ∀ (σ' : St) (H1 : Heap) (locs1 : List Loc), post σ' → wd D cA K h (mrg σ js σ') A s.heap H1 locs1 → W p l e R s m args below meth c H1 locs1 cells slots Q (F0 m (pc + 3) ls st)) : W p l e R s m args below meth c H locs cells slots Q (F0 m pc ls st0) :=
  va_callv hr hw.2.2 (fun q _ hq => aA_sub hw hA hs q hq) (aA_sub hw hA hs) (fun u t H1 locs1 ht hvm hp hB hz hk hS => by
    subst ht
    exact k u _ locs1 hp (wd_back hw hs hB hk hS))
theorem r_cR (hA : ∀ q, s.heap.size ≤ q → A q) (hw : wd D cA K h σ A s.heap H locs) (hs : sbK K K' js) {a : Array Value} {rk : Nat} {post : St → Prop}
    (hr : va_Run p l e R s m args below meth c H locs cells slots 0 0 (F0 m pc ls st0) st (QR D cA K' (hm h js) H.size rk post a) (aA K'.length (hm h js) H.size))
    (k : ∀ (σ' : St) (H1 : Heap) (locs1 : List Loc), post σ' → wd D cA K h (mrg σ js σ') A s.heap H1 locs1 → W p l e R s m args below meth c H1 locs1 cells slots Q (F0 m (pc + 3) ls (.ref (hm h js rk) :: st))) : W p l e R s m args below meth c H locs cells slots Q (F0 m pc ls st0) :=
  va_callr hr hw.2.2 (fun q _ hq => aA_sub hw hA hs q hq) (aA_sub hw hA hs) (fun u ra t H1 locs1 ht hvm hp hB hz hk hS => by
    subst ht
    obtain ⟨rfl, hB⟩ := hB
    exact k u _ locs1 hp (wd_back hw hs hB hk hS))
/-- a reader's answer: the cells are as they were -/
theorem r_cIr (hA : ∀ q, s.heap.size ≤ q → A q) (hw : wd D cA K h σ A s.heap H locs) (hs : sbK K K' js) {a : Array Value} {post : Int → Prop}
    (hr : va_Run p l e R s m args below meth c H locs cells slots 0 0 (F0 m pc ls st0) st (QI D cA K' (hm h js) H.size (fun r σ' => σ' = pk σ js ∧ post r) a) (aA K'.length (hm h js) H.size))
    (k : ∀ (r : Int) (H1 : Heap) (locs1 : List Loc), post r → wd D cA K h σ A s.heap H1 locs1 → W p l e R s m args below meth c H1 locs1 cells slots Q (F0 m (pc + 3) ls (iv r :: st))) : W p l e R s m args below meth c H locs cells slots Q (F0 m pc ls st0) :=
  r_cI hA hw hs hr (fun r σ' H1 locs1 hp hw1 => by
    obtain ⟨rfl, hp⟩ := hp
    rw [mrg_pk] at hw1
    exact k r H1 locs1 hp hw1)
theorem r_cLr (hA : ∀ q, s.heap.size ≤ q → A q) (hw : wd D cA K h σ A s.heap H locs) (hs : sbK K K' js) {a : Array Value} {post : Int → Prop}
    (hr : va_Run p l e R s m args below meth c H locs cells slots 0 0 (F0 m pc ls st0) st (QL D cA K' (hm h js) H.size (fun r σ' => σ' = pk σ js ∧ post r) a) (aA K'.length (hm h js) H.size))
    (k : ∀ (r : Int) (H1 : Heap) (locs1 : List Loc), post r → wd D cA K h σ A s.heap H1 locs1 → W p l e R s m args below meth c H1 locs1 cells slots Q (F0 m (pc + 3) ls (jv r :: st))) : W p l e R s m args below meth c H locs cells slots Q (F0 m pc ls st0) :=
  r_cL hA hw hs hr (fun r σ' H1 locs1 hp hw1 => by
    obtain ⟨rfl, hp⟩ := hp
    rw [mrg_pk] at hw1
    exact k r H1 locs1 hp hw1)
/-- the ends -/
def RtI (p : Program) (l : Launch) (e : Env) (R : Room) (s : State) (m : MethodId) (args : Array Value) (below : List Frame) (meth : Method) (c : Code) (Q : State → Prop) (cc : ByteArray) (D : va_G) (cA : FieldType → ClassId) (K : List Kd) (h : Nat → Nat) (A : Nat → Prop) (ok : Int → Prop) (post : Int → St → Prop) : Prop :=
  ∀ (x : Int) (σ' : St) (H : Heap) (locs : List Loc) (pc : Nat) (ls : Array Slot), decode cc pc = .ok (.ireturn, 1) → ok x → post x σ' → wd D cA K h σ' A s.heap H locs → W p l e R s m args below meth c H locs 0 0 Q (F0 m pc ls [iv x])
def RtL (p : Program) (l : Launch) (e : Env) (R : Room) (s : State) (m : MethodId) (args : Array Value) (below : List Frame) (meth : Method) (c : Code) (Q : State → Prop) (cc : ByteArray) (D : va_G) (cA : FieldType → ClassId) (K : List Kd) (h : Nat → Nat) (A : Nat → Prop) (post : Int → St → Prop) : Prop :=
  ∀ (x : Int) (σ' : St) (H : Heap) (locs : List Loc) (pc : Nat) (ls : Array Slot), decode cc pc = .ok (.lreturn, 1) → post x σ' → wd D cA K h σ' A s.heap H locs → W p l e R s m args below meth c H locs 0 0 Q (F0 m pc ls [jv x])
def RtV (p : Program) (l : Launch) (e : Env) (R : Room) (s : State) (m : MethodId) (args : Array Value) (below : List Frame) (meth : Method) (c : Code) (Q : State → Prop) (cc : ByteArray) (D : va_G) (cA : FieldType → ClassId) (K : List Kd) (h : Nat → Nat) (A : Nat → Prop) (post : St → Prop) : Prop :=
  ∀ (σ' : St) (H : Heap) (locs : List Loc) (pc : Nat) (ls : Array Slot), decode cc pc = .ok (.return_, 1) → post σ' → wd D cA K h σ' A s.heap H locs → W p l e R s m args below meth c H locs 0 0 Q (F0 m pc ls [])
def RtR (p : Program) (l : Launch) (e : Env) (R : Room) (s : State) (m : MethodId) (args : Array Value) (below : List Frame) (meth : Method) (c : Code) (Q : State → Prop) (cc : ByteArray) (D : va_G) (cA : FieldType → ClassId) (K : List Kd) (h : Nat → Nat) (A : Nat → Prop) (rk : Nat) (post : St → Prop) : Prop :=
  ∀ (σ' : St) (H : Heap) (locs : List Loc) (pc : Nat) (ls : Array Slot), decode cc pc = .ok (.areturn, 1) → post σ' → wd D cA K h σ' A s.heap H locs → W p l e R s m args below meth c H locs 0 0 Q (F0 m pc ls [.ref (h rk)])
theorem rt_i (C : cx p s m args meth c ws own cc nL (some .int) D cA) (post : Int → St → Prop) : RtI p l e R s m args below meth c (MQ below (QI D cA K h s.heap.size post) args s 0 0 (aA K.length h s.heap.size)) cc D cA K h (aA K.length h s.heap.size) (fun _ => True) post := fun x σ' H locs pc ls hd _ hp hw =>
  W.iret C.1 C.2.1 C.2.2.2.2.2.1 (fun t ht _ => ⟨⟨_, (x, σ'), rfl, ⟨rfl, hp⟩, by dsimp only; rw [ht]; exact hw.1⟩, hw.2.2.F ht⟩) hw.2.2.2.2 hd C.2.2.2.2.2.2.1
theorem rt_z (C : cx p s m args meth c ws own cc nL (some .boolean) D cA) (post : Int → St → Prop) : RtI p l e R s m args below meth c (MQ below (QI D cA K h s.heap.size post) args s 0 0 (aA K.length h s.heap.size)) cc D cA K h (aA K.length h s.heap.size) (fun x => x = 0 ∨ x = 1) post := fun x σ' H locs pc ls hd hx hp hw =>
  W.zret C.1 C.2.1 C.2.2.2.2.2.1 (oi_z hx).1 (fun t ht _ => ⟨⟨_, (x, σ'), rfl, ⟨rfl, hp⟩, by dsimp only; rw [ht]; exact hw.1⟩, hw.2.2.F ht⟩) hw.2.2.2.2 hd C.2.2.2.2.2.2.1
theorem rt_l (C : cx p s m args meth c ws own cc nL (some .long) D cA) (post : Int → St → Prop) : RtL p l e R s m args below meth c (MQ below (QL D cA K h s.heap.size post) args s 0 0 (aA K.length h s.heap.size)) cc D cA K h (aA K.length h s.heap.size) post := fun x σ' H locs pc ls hd hp hw =>
  W.lret C.1 C.2.1 C.2.2.2.2.2.1 (fun t ht _ => ⟨⟨_, (x, σ'), rfl, ⟨rfl, hp⟩, by dsimp only; rw [ht]; exact hw.1⟩, hw.2.2.F ht⟩) hw.2.2.2.2 hd C.2.2.2.2.2.2.1
theorem rt_v (C : cx p s m args meth c ws own cc nL none D cA) (post : St → Prop) : RtV p l e R s m args below meth c (MQ below (QV D cA K h s.heap.size post) args s 0 0 (aA K.length h s.heap.size)) cc D cA K h (aA K.length h s.heap.size) post := fun σ' H locs pc ls hd hp hw =>
  W.vret C.1 C.2.1 C.2.2.2.2.2.1 (fun t ht _ => ⟨⟨σ', rfl, hp, by dsimp only; rw [ht]; exact hw.1⟩, hw.2.2.F ht⟩) hw.2.2.2.2 hd C.2.2.2.2.2.2.1
theorem rt_r {Cr : String} (C : cx p s m args meth c ws own cc nL (some (.object Cr)) D cA) (rk : Nat) (post : St → Prop) : RtR p l e R s m args below meth c (MQ below (QR D cA K h s.heap.size rk post) args s 0 0 (aA K.length h s.heap.size)) cc D cA K h (aA K.length h s.heap.size) rk post := fun σ' H locs pc ls hd hp hw =>
  W.aret C.1 C.2.1 C.2.2.2.2.2.1 (Or.inl ⟨Cr, rfl⟩) (Or.inr ⟨_, rfl⟩) (fun t ht _ => ⟨⟨σ', _, rfl, hp, rfl, by rw [ht]; exact hw.1⟩, hw.2.2.F ht⟩) hw.2.2.2.2 hd C.2.2.2.2.2.2.1
end
/-- a method's arguments in its locals -/
def slv : List Value → List (Option Value)
  | [] => []
  | v :: r => if v.category = 2 then some v :: none :: slv r else some v :: slv r
theorem slv_args : ∀ (vs : List Value) (k i : Nat) (v : Value), (slv vs)[i]? = some (some v) → (k + i, v) ∈ lv_args k vs
  | [], k, i, v, e => by simp [slv] at e
  | a :: r, k, i, v, e => by
    unfold slv at e
    unfold lv_args
    by_cases hc : a.category = 2
    · rw [if_pos hc] at e
      rw [if_pos hc]
      match i, e with
      | 0, e => simp at e; subst e; exact List.mem_cons_self
      | 1, e => simp at e
      | i + 2, e =>
        have := slv_args r (k + 2) i v (by simpa using e)
        rw [show k + 2 + i = k + (i + 2) by omega] at this
        exact List.mem_cons_of_mem _ this
    · rw [if_neg hc] at e
      rw [if_neg hc]
      match i, e with
      | 0, e => simp at e; subst e; exact List.mem_cons_self
      | i + 1, e =>
        have := slv_args r (k + 1) i v (by simpa using e)
        rw [show k + 1 + i = k + (i + 1) by omega] at this
        exact List.mem_cons_of_mem _ this
theorem lh_entry (vs : List Value) {n : Nat} (hn : (lg_sl vs).length ≤ n) (k : Nat) : lh ((lg_sl vs ++ List.replicate (n - (lg_sl vs).length) Slot.unset).toArray) n (slv vs ++ List.replicate k none) := by
  have hl := lv_entry vs hn
  refine ⟨hl.1, hl.2.1, fun i v e => ?_⟩
  have e2 : (slv vs)[i]? = some (some v) := by
    rcases Nat.lt_or_ge i (slv vs).length with q | q
    · rwa [List.getElem?_append_left q] at e
    · rw [List.getElem?_append_right q] at e
      have := List.getElem?_replicate (a := (none : Option Value)) (n := k) (i := i - (slv vs).length)
      rw [this] at e
      split at e <;> simp at e
  have := slv_args vs 0 i v e2
  rw [Nat.zero_add] at this
  exact hl.2.2 (i, v) this
/-- a contract out of a walk of the body -/
theorem mk_met {l : Launch} {y : MethodName} {ws ws' : List Cond} {rm : Room} {cc : ByteArray} {nL : Nat} {ret : Option FieldType} {own : String} {D : va_G} {cA : FieldType → ClassId} {K : List Kd} {h : Nat → Nat} {σ : St} {sz : Nat} {As : List Value} {Qc : Array Value → State → Outcome → State → Prop} (k : Nat)
    (hy : plainName y.cls = true) (hw : ws = Cond.code y cc nL ret :: ws') (hown : y.cls = own) (hrm : (headSpec ws rm).room = rm) (hn : Nat.ble (lg_sl As).length nL = true)
    (body : ∀ (p : Program) (e : Env) (s : State) (m : MethodId) (args : Array Value) (below : List Frame) (meth : Method) (c : Code) (ls : Array Slot), s.heap.size = sz → cx p s m args meth c ws own cc nL ret D cA → wd D cA K h σ (aA K.length h s.heap.size) s.heap s.heap [] → lh ls nL (slv As ++ List.replicate k none) → (∀ q, s.heap.size ≤ q → aA K.length h s.heap.size q) → W p l e rm s m args below meth c s.heap [] 0 0 (MQ below Qc args s 0 0 (aA K.length h s.heap.size)) (F0 m 0 ls [])) : Met l y ws rm (va_Pc As (preS D cA K h σ sz)) Qc 0 0 (aA K.length h sz) := by
  refine Met.ofW (cc := cc) (maxL := nL) (ret := ret) hy hw ?_
  intro p e s m args below meth c s₁ B hml hv
  obtain ⟨rfl, hsz, hP, hK, hD0⟩ := hv
  subst hsz
  rw [lg_entry_eq, hrm]
  refine body p e s m _ below meth c _ rfl ⟨B.exec, B.bytes, hml, ?_, atoms_spec (ws := ws) B.pre, B.returns, B.notSynchronized, hK⟩ ⟨hP, ?_, va_S.rf⟩ (lh_entry As (Nat.le_of_ble_eq_true hn) k) (fun q hq => Or.inr hq)
  · rw [← hown]; exact findClass_of_methodNamed B.named
  · refine ⟨hD0.1, fun i q hq => ?_⟩
    obtain ⟨kd, a1, b1⟩ := wo_inv K 0 i q hq
    subst b1
    exact Or.inl ⟨i, (List.getElem?_eq_some_iff.mp a1).1, by rw [Nat.zero_add]⟩
