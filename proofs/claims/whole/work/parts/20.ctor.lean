/-! making objects: the cells grow -/
def hs (h : Nat → Nat) (n q : Nat) : Nat → Nat := fun i => if i = n then q else h i
def zr (σ : St) (n : Nat) : St := fun k => if k = n then fun _ => 0 else σ k
def hj (h : Nat → Nat) (k : Nat) (h' : Nat → Nat) : Nat → Nat := fun i => if i ≤ k then h i else h' (i - k)
def sj (σ : St) (k : Nat) (σ' : St) : St := fun i => if i < k then σ i else σ' (i - k)
def sk (σ : St) (k : Nat) : St := fun i => σ (k + i)
def hk_ (h : Nat → Nat) (k : Nat) : Nat → Nat := fun i => h (k + i)
def shF (k : Nat) (fd : Option (Option Nat)) : Option (Option Nat) := fd.map fun o => o.map fun i => i + k
def shK (k : Nat) : Kd → Kd
  | .inl o => .inl (o.1, o.2.map (shF k))
  | .inr (.inl a) => .inr (.inl a)
  | .inr (.inr a) => .inr (.inr (a.1, a.2.map fun o => o.map fun i => i + k))
def rfOK (n : Nat) : Kd → Bool
  | .inl o => o.2.all fun f => match f with | some (some k) => decide (k < n) | _ => true
  | .inr (.inl _) => true
  | .inr (.inr a) => a.2.all fun f => match f with | some k => decide (k < n) | none => true
def clK (K : List Kd) (n : Nat) : Bool := K.all (rfOK n)
theorem fvs_hcong {h h' : Nat → Nat} {f : Int → Int} {n : Nat} (e : ∀ i, i < n → h' i = h i) : ∀ (fd : List (Option (Option Nat))) (j0 : Nat), (fd.all fun f => match f with | some (some k) => decide (k < n) | _ => true) = true → fvs h' f j0 fd = fvs h f j0 fd
  | [], _, _ => rfl
  | a :: r, j0, hr => by
    rw [List.all_cons, Bool.and_eq_true] at hr
    have h1 := fvs_hcong (f := f) e r (j0 + 1) hr.2
    rcases a with _ | _ | k
    · simp only [fvs, h1]
    · simp only [fvs, h1]
    · have : k < n := by simpa using hr.1
      simp only [fvs, h1, e k this]
theorem ent_hcong {cA : FieldType → ClassId} {h h' : Nat → Nat} {f : Int → Int} {n : Nat} (e : ∀ i, i < n → h' i = h i) (kd : Kd) (hr : rfOK n kd = true) : ent cA h' f kd = ent cA h f kd := by
  rcases kd with o | a | a
  · simp only [ent, fvs_hcong e o.2 0 hr]
  · rfl
  · simp only [ent]
    have : (fun i => (a.2.getD i none).map h') = fun i => (a.2.getD i none).map h := by
      funext i
      cases q : a.2[i]? with
      | none => simp [List.getD_eq_getElem?_getD, q]
      | some o =>
        cases o with
        | none => simp [List.getD_eq_getElem?_getD, q]
        | some k =>
          have hm := List.all_eq_true.mp hr _ (List.mem_of_getElem? q)
          have : k < n := by simpa using hm
          simp [List.getD_eq_getElem?_getD, q, e k this]
    rw [this]
theorem wo_hcong {cA : FieldType → ClassId} {h h' : Nat → Nat} {σ σ' : St} {n : Nat} (e : ∀ i, i < n → h' i = h i) (es : ∀ i, i < n → σ' i = σ i) : ∀ (K : List Kd) (k0 : Nat), k0 + K.length ≤ n → clK K n = true → wo cA h' σ' k0 K = wo cA h σ k0 K
  | [], _, _, _ => rfl
  | kd :: r, k0, hl, hc => by
    simp only [clK, List.all_cons, Bool.and_eq_true] at hc
    simp only [List.length_cons] at hl
    simp only [wo]
    rw [wo_hcong e es r (k0 + 1) (by omega) hc.2, e k0 (by omega), es k0 (by omega), ent_hcong e kd hc.1]
theorem wo_app {cA : FieldType → ClassId} {h : Nat → Nat} {σ : St} : ∀ (K K2 : List Kd) (k0 : Nat), wo cA h σ k0 (K ++ K2) = wo cA h σ k0 K ++ wo cA h σ (k0 + K.length) K2
  | [], _, _ => rfl
  | kd :: r, K2, k0 => by
    have := wo_app (cA := cA) (h := h) (σ := σ) r K2 (k0 + 1)
    rw [show k0 + 1 + r.length = k0 + (r.length + 1) by omega] at this
    simp only [List.cons_append, wo, this, List.length_cons]
theorem wo_one {cA : FieldType → ClassId} {h : Nat → Nat} {σ : St} {K : List Kd} {kd : Kd} {q : Nat} (hc : clK K K.length = true) (hr : rfOK 0 kd = true) : wo cA (hs h K.length q) (zr σ K.length) 0 (K ++ [kd]) = wo cA h σ 0 K ++ [(q, ent cA (hs h K.length q) (fun _ => 0) kd)] := by
  rw [wo_app, wo_hcong (h := h) (h' := hs h K.length q) (σ := σ) (σ' := zr σ K.length) (n := K.length) (fun i hi => by simp [hs]; omega) (fun i hi => by simp [zr]; omega) K 0 (by omega) hc]
  simp [wo, hs, zr]
def ndf (ty : FieldType) : Prop := ty = .int ∨ ty = .byte ∨ ty = .boolean ∨ ty = .long
theorem ndf_cell {ty : FieldType} (ht : ndf ty) {c : ClassId} {N : Nat} : vp_cell c (N, ear ty (fun _ => 0)) = arrV c N (fun _ => defaultValue ty) := by
  rcases ht with rfl | rfl | rfl | rfl <;> rfl
theorem ndf_ty {ty : FieldType} (ht : ndf ty) {D : va_G} {cA : FieldType → ClassId} {s : State} (hK : va_K D vwCl (tyL cA) s) {c : ClassId} (hc : s.vm.findClass ("[" ++ ty.toString) = some c) : c = cA ty := by
  rcases ht with rfl | rfl | rfl | rfl
  · exact Option.some.inj (hc.symm.trans (hK.2 0 _ rfl).2)
  · exact Option.some.inj (hc.symm.trans (hK.2 2 _ rfl).2)
  · exact Option.some.inj (hc.symm.trans (hK.2 3 _ rfl).2)
  · exact Option.some.inj (hc.symm.trans (hK.2 1 _ rfl).2)
section
variable {p : Program} {l : Launch} {e : Env} {R : Room} {s : State} {m : MethodId} {args : Array Value} {below : List Frame} {meth : Method} {c : Code} {H : Heap} {locs : List Loc} {cells slots : Nat} {Q : State → Prop} {pc : Nat} {ls : Array Slot} {st st0 : List Value}
variable {ws : List Cond} {own : String} {cc : ByteArray} {nL : Nat} {ret : Option FieldType} {D : va_G} {cA : FieldType → ClassId} {K : List Kd} {h : Nat → Nat} {σ : St} {A : Nat → Prop} {H0 : Heap} {vl : List (Option Value)}
theorem r_newarr (C : cx p s m args meth c ws own cc nL ret D cA) (hw : wd D cA K h σ A H0 H locs) (hA : ∀ q, H0.size ≤ q → A q) (hcl : clK K K.length = true) {aty : ArrayType} {ty : FieldType} (hty : newarray.typeOf aty = ty) (ht : ndf ty) (harr : Cond.arrayClass ty ∈ ws) {a : Int} (N : Nat) (ha : a = (N : Int)) (hN : Nat.ble (N + 1) 1000000 = true) (hc : cells + 1 ≤ R.cells) (hs_ : slots + N ≤ R.slots) (hd : decode cc pc = .ok (.newarray aty, 2))
    (kk : ∀ (q : Nat) (H1 : Heap), wd D cA (K ++ [.inr (.inl (ty, N))]) (hs h K.length q) (zr σ K.length) A H0 H1 locs → W p l e R s m args below meth c H1 locs (cells + 1) (slots + N) Q (F0 m (pc + 2) ls (.ref q :: st))) : W p l e R s m args below meth c H locs cells slots Q (F0 m pc ls (iv a :: st)) := by
  subst hty
  have hN' : N < 1000000 := Nat.le_of_ble_eq_true hN
  subst ha
  have hbytes : N * componentBytes (newarray.typeOf aty) ≤ 536870912 := by
    rcases ht with e | e | e | e <;> rw [e] <;> simp [componentBytes] <;> omega
  refine va_newaK (n := Int32.ofInt N) (N := N) C.1 C.2.1 (C.2.2.2.2.1 _ harr) rfl hd rfl (oi_n (by omega) (by omega)) (by rw [oi_cl (by omega) (by omega)]; omega) hbytes hc hs_ rfl fun H1 cA' e1 z1 o1 hAr hNm => ?_
  have e0 := ndf_ty ht C.2.2.2.2.2.2.2 hNm
  subst e0
  have hk : ∀ (k : Nat) (x : Nat × va_E), (wo cA h σ 0 K)[k]? = some x → H1[x.1]? = H[x.1]? := fun k x hx => o1 x.1 ((hw.1 k x hx).lt)
  have hP1 : va_P D vwCl (wo cA h σ 0 K ++ [(H.size, ent cA (hs h K.length H.size) (fun _ => 0) (.inr (.inl (newarray.typeOf aty, N))))]) H1 := by
    refine (hw.1.kept hk).app (fun k x hx => ?_)
    have hz : k < 1 := (List.getElem?_eq_some_iff.mp hx).1
    rw [show k = 0 by omega] at hx
    cases hx
    show H1[H.size]? = some (vp_cell _ (N, ear (newarray.typeOf aty) (fun _ => 0)))
    rw [ndf_cell ht]; exact e1
  refine kk H.size H1 ⟨?_, ?_, ?_⟩
  · rw [wo_one hcl rfl]; exact hP1
  · rw [wo_one hcl rfl]; exact hw.2.1.push hw.1 rfl (hA _ hw.2.2.1)
  · exact ⟨Nat.le_trans hw.2.2.1 (by omega), fun x h1 h2 => (o1 x (Nat.lt_of_lt_of_le h1 hw.2.2.1)).trans (hw.2.2.2.1 x h1 h2), hw.2.2.2.2⟩
theorem r_newq (C : cx p s m args meth c ws own cc nL ret D cA) (hw : wd D cA K h σ A H0 H locs) (hA : ∀ q, H0.size ≤ q → A q) (hcl : clK K K.length = true) (hover : va_AO "BellTouches$Tape" s) {ix : Nat} (hcl2 : Cond.classLink own ix "BellTouches$Tape" ∈ ws) {a : Int} (N : Nat) (ha : a = (N : Int)) (hN : Nat.ble (N + 1) 1000000 = true) (hc : cells + 1 ≤ R.cells) (hs_ : slots + N ≤ R.slots) (hd : decode cc pc = .ok (.anewarray ix, 3))
    (kk : ∀ (q : Nat) (H1 : Heap), wd D cA (K ++ [.inr (.inr ("BellTouches$Tape", List.replicate N none))]) (hs h K.length q) (zr σ K.length) A H0 H1 locs → W p l e R s m args below meth c H1 locs (cells + 1) (slots + N) Q (F0 m (pc + 3) ls (.ref q :: st))) : W p l e R s m args below meth c H locs cells slots Q (F0 m pc ls (iv a :: st)) := by
  have hN' : N < 1000000 := Nat.le_of_ble_eq_true hN
  subst ha
  refine va_newq (D := D) (n := Int32.ofInt N) (N' := N) C.1 C.2.1 C.2.2.2.1 (C.2.2.2.2.1 _ hcl2) hover C.2.2.2.2.2.2.2 hw.1 hw.2.1 hw.2.2 hA (oi_n (by omega) (by omega)) (by rw [oi_cl (by omega) (by omega)]; omega) (by omega) hc hs_ hd fun q cA' H1 hK1 hP1 hD1 hS1 => ?_
  have r1 := (hK1.2 5 _ rfl).2
  have r2 := (C.2.2.2.2.2.2.2.2 4 _ rfl).2
  obtain ⟨k1, c1, a1, a2, a3, a4⟩ := r1
  obtain ⟨k2, c2, b1, b2, b3, b4⟩ := r2
  have e0 : cA' = cA (.object "BellTouches$Tape") := Option.some.inj (a4.symm.trans b4)
  subst e0
  have hrf : rfOK 0 (.inr (.inr ("BellTouches$Tape", List.replicate N none))) = true := by simp [rfOK]
  have he : (ent cA (hs h K.length q) (fun _ => 0) (.inr (.inr ("BellTouches$Tape", List.replicate N none)))) = .inl (cA (.object "BellTouches$Tape"), N, .inr (.inr (.inr (.inr (fun _ => none))))) := by
    simp only [ent, List.length_replicate]
    congr 7
    funext i
    simp [List.getD_eq_getElem?_getD, List.getElem?_replicate]
    split <;> rfl
  refine kk q H1 ⟨?_, ?_, hS1⟩
  · rw [wo_one hcl hrf, he]; exact hP1
  · rw [wo_one hcl hrf, he]; exact hD1
theorem r_new (C : cx p s m args meth c ws own cc nL ret D cA) (hw : wd D cA K h σ A H0 H locs) (hA : ∀ q, H0.size ≤ q → A q) (hcl : clK K K.length = true) {ci : Nat} {Cn : String} {T : u_T} {N : Nat} {ty : Nat → FieldType} (hc0 : clo ci Cn T N ty) (fds : List (Option (Option Nat))) (hrf : rfOK 0 (.inl (ci, fds)) = true) (hdf : ∀ (h : Nat → Nat) (j : Nat), j < N → defaultValue (ty j) = vp_V (fvs h (fun _ => 0) 0 fds) j) {ix : Nat} (hin : ∀ w ∈ u_ws Cn T N, w ∈ ws) (q1 : Cond.classLink own ix Cn ∈ ws) (q2 : Cond.instantiable Cn N ∈ ws) (q3 : Cond.initialized Cn ∈ ws) (hc : cells + 1 ≤ R.cells) (hs_ : slots + N ≤ R.slots) (hd : decode cc pc = .ok (.new ix, 3))
    (kk : ∀ (q : Nat) (H1 : Heap), wd D cA (K ++ [.inl (ci, fds)]) (hs h K.length q) (zr σ K.length) A H0 H1 locs → W p l e R s m args below meth c H1 locs (cells + 1) (slots + N) Q (F0 m (pc + 3) ls (.ref q :: st))) : W p l e R s m args below meth c H locs cells slots Q (F0 m pc ls st) := by
  refine va_new (D := D) (fs := fvs h (fun _ => 0) 0 fds) C.1 C.2.1 C.2.2.2.2.1 hin ty hc0.2.1 C.2.2.2.1 (C.2.2.2.2.1 _ q1) (C.2.2.2.2.1 _ q2) (C.2.2.2.2.1 _ q3) C.2.2.2.2.2.2.2 hw.1 hw.2.1 hw.2.2 hA hc0.1 (hdf h) hc hs_ hd fun q H1 hP1 hD1 hS1 => ?_
  have he : ent cA (hs h K.length q) (fun _ => 0) (.inl (ci, fds)) = .inr (ci, fvs h (fun _ => 0) 0 fds) := by
    rw [ent_hcong (h := h) (h' := hs h K.length q) (n := 0) (fun i hi => by omega) _ hrf]; rfl
  refine kk q H1 ⟨?_, ?_, hS1⟩
  · rw [wo_one hcl hrf, he]; exact hP1
  · rw [wo_one hcl hrf, he]; exact hD1
theorem fvs_setr {h : Nat → Nat} {f : Int → Int} {r : Nat} : ∀ (fd : List (Option (Option Nat))) (j0 j : Nat), j < fd.length → (fvs h f j0 fd).set j (.ref (h r)) = fvs h f j0 (fd.set j (some (some r)))
  | [], _, _, e => by simp at e
  | a :: t, j0, 0, e => by rcases a with _ | _ | k <;> rfl
  | a :: t, j0, j + 1, e => by
    have h1 := fvs_setr (h := h) (f := f) (r := r) t (j0 + 1) j (by simpa using e)
    rcases a with _ | _ | k <;> simp only [fvs, List.set_cons_succ, h1]
theorem wo_setK {cA : FieldType → ClassId} {h : Nat → Nat} {σ : St} : ∀ (K : List Kd) (k0 i : Nat) (kd : Kd), i < K.length → (wo cA h σ k0 K).set i (h (k0 + i), ent cA h (σ (k0 + i)) kd) = wo cA h σ k0 (K.set i kd)
  | [], _, i, _, e => by simp at e
  | c :: r, k0, 0, kd, _ => rfl
  | c :: r, k0, i + 1, kd, e => by
    have := wo_setK (cA := cA) (h := h) (σ := σ) r (k0 + 1) i kd (by simpa using e)
    rw [show k0 + 1 + i = k0 + (i + 1) by omega] at this
    simp only [wo, List.set_cons_succ, this]
theorem r_putr (C : cx p s m args meth c ws own cc nL ret D cA) (hw : wd D cA K h σ A H0 H locs) {ci : Nat} {Cn : String} {T : u_T} {N : Nat} {ty : Nat → FieldType} (hc : clo ci Cn T N ty) (k : Nat) {fds : List (Option (Option Nat))} (hk : K[k]? = some (.inl (ci, fds))) (j r : Nat) (hj : j < fds.length) (hN : j < N) {ix : Nat} (hin : ∀ w ∈ u_ws Cn T N, w ∈ ws) (hlink : Cond.fieldLink own ix (T j).1 (T j).2.1 (T j).2.2.1 ∈ ws) (hfin : (T j).2.2.2 = true) (hin2 : meth.name = "<init>") (hdecl : (T j).1 = own) (hty : narrow (ty j) (.ref (h r)) = .ref (h r) ∧ fits (ty j) (.ref (h r)) = true) (hd : decode cc pc = .ok (.putfield ix, 3))
    (kk : ∀ (H1 : Heap) (locs1 : List Loc), wd D cA (K.set k (.inl (ci, fds.set j (some (some r))))) h σ A H0 H1 locs1 → W p l e R s m args below meth c H1 locs1 cells slots Q (F0 m (pc + 3) ls st)) : W p l e R s m args below meth c H locs cells slots Q (F0 m pc ls (.ref (h r) :: .ref (h k) :: st)) := by
  have he := wo_get (cA := cA) (h := h) (σ := σ) K 0 k _ hk
  rw [Nat.zero_add] at he
  have hkl : k < K.length := (List.getElem?_eq_some_iff.mp hk).1
  refine va_putF (D := D) C.1 C.2.1 C.2.2.2.2.1 hin ty hc.2.1 hc.2.2 C.2.2.2.1 C.2.2.2.2.2.2.2 hw.1 hw.2.1 hw.2.2 k he hc.1 j hN (C.2.2.2.2.1 _ hlink) (fun _ h9 => h9) hfin hin2 hdecl (hc.2.1 j hN) hty.1 hty.2 ?_ hd (fun H1 locs1 hP hD hS => kk H1 locs1 ?_)
  · rw [fvs_len]; exact hj
  · rw [fvs_setr fds 0 j hj] at hP hD
    have e1 := wo_setK (cA := cA) (h := h) (σ := σ) K 0 k (.inl (ci, fds.set j (some (some r)))) hkl
    rw [Nat.zero_add] at e1
    have hP : va_P D vwCl ((wo cA h σ 0 K).set k (h k, ent cA h (σ k) (.inl (ci, fds.set j (some (some r)))))) H1 := hP
    have hD : va_D A ((wo cA h σ 0 K).set k (h k, ent cA h (σ k) (.inl (ci, fds.set j (some (some r)))))) := hD
    rw [e1] at hP hD
    exact ⟨hP, hD, hS⟩
theorem r_aast (C : cx p s m args meth c ws own cc nL ret D cA) (hw : wd D cA K h σ A H0 H locs) (k : Nat) {rs : List (Option Nat)} (hk : K[k]? = some (.inr (.inr ("BellTouches$Tape", rs)))) (r : Nat) {fds : List (Option (Option Nat))} (hr : K[r]? = some (.inl (5, fds))) (i : Nat) {a : Int} (ha : a = (i : Int)) (hi : i < rs.length) (hn : Nat.ble (rs.length + 1) 2147483648 = true) (hd : decode cc pc = .ok (.aastore, 1))
    (kk : ∀ (H1 : Heap) (locs1 : List Loc), wd D cA (K.set k (.inr (.inr ("BellTouches$Tape", rs.set i (some r))))) h σ A H0 H1 locs1 → W p l e R s m args below meth c H1 locs1 cells slots Q (F0 m (pc + 1) ls st)) : W p l e R s m args below meth c H locs cells slots Q (F0 m pc ls (.ref (h r) :: iv a :: .ref (h k) :: st)) := by
  have he := wo_get (cA := cA) (h := h) (σ := σ) K 0 k _ hk
  have hv := wo_get (cA := cA) (h := h) (σ := σ) K 0 r _ hr
  rw [Nat.zero_add] at he hv
  have hkl : k < K.length := (List.getElem?_eq_some_iff.mp hk).1
  have hn' : rs.length < 2147483648 := Nat.le_of_ble_eq_true hn
  subst ha
  refine va_astq (D := D) (i := Int32.ofInt i) (f := fun i => (rs.getD i none).map h) (r := (RX6, TX6, 3)) C.1 C.2.1 C.2.2.2.2.2.2.2 hw.1 hw.2.1 hw.2.2 k 4 r 5 he rfl hv rfl (oi_in (by omega) (show (i : Int) < ((rs.length : Nat) : Int) by omega) hn') hd (fun H1 locs1 hP hD hS => kk H1 locs1 ?_)
  rw [oi_cl (by omega) (by omega), Int.toNat_natCast] at hP hD
  have e1 := wo_setK (cA := cA) (h := h) (σ := σ) K 0 k (.inr (.inr ("BellTouches$Tape", rs.set i (some r)))) hkl
  rw [Nat.zero_add] at e1
  have e2 : (va_up (fun i => (rs.getD i none).map h) i (some (h r))) = fun j => ((rs.set i (some r)).getD j none).map h := by
    funext j
    by_cases q : j = i
    · subst q; simp [va_up, List.getD_eq_getElem?_getD, hi]
    · simp [va_up, q, List.getD_eq_getElem?_getD, List.getElem?_set_ne (fun z => q z.symm)]
  have e3 : ent cA h (σ k) (.inr (.inr ("BellTouches$Tape", rs.set i (some r)))) = .inl (cA (.object "BellTouches$Tape"), rs.length, .inr (.inr (.inr (.inr (va_up (fun i => (rs.getD i none).map h) i (some (h r))))))) := by
    simp only [ent, List.length_set, e2]
  rw [e3] at e1
  rw [e1] at hP hD
  exact ⟨hP, hD, hS⟩
end
/-- what a constructor takes beside the tables' words -/
def nwF (U : State) : Prop := va_AO "BellTouches$Tape" U ∧ va_Nw (.methodLinkNest RX8 13 yX4_init RX8) U ∧ va_Nw (.methodLinkNest RX8 26 yX7_init RX8) U ∧ va_Nw (.methodLinkNest RX8 36 yX0_init RX8) U ∧ va_Nw (.methodLinkNest RX8 43 yX5_init RX8) U ∧ va_Nw (.methodLinkNest RX8 61 yX6_init RX8) U ∧ va_Nw (.methodLinkNest RX7 33 yX3_init RX8) U ∧ va_Nw (.methodLinkNest RX0 20 yX7_init RX8) U ∧ va_Nw (.methodLinkNest RX0 27 yX3_init RX8) U
theorem nwF.warm {s U : State} (hW : s.WarmedH U.vm) (h : nwF s) : nwF U :=
  ⟨va_AO.moved hW.alike h.1, va_Nw.warmM hW h.2.1, va_Nw.warmM hW h.2.2.1, va_Nw.warmM hW h.2.2.2.1, va_Nw.warmM hW h.2.2.2.2.1, va_Nw.warmM hW h.2.2.2.2.2.1, va_Nw.warmM hW h.2.2.2.2.2.2.1, va_Nw.warmM hW h.2.2.2.2.2.2.2.1, va_Nw.warmM hW h.2.2.2.2.2.2.2.2⟩
theorem nwF.same {s U : State} (e : s.vm = U.vm) (h : nwF s) : nwF U :=
  ⟨va_AO.moved (by rw [e]; exact Vm.Alike.refl _) h.1, va_Nw.same rfl e h.2.1, va_Nw.same rfl e h.2.2.1, va_Nw.same rfl e h.2.2.2.1, va_Nw.same rfl e h.2.2.2.2.1, va_Nw.same rfl e h.2.2.2.2.2.1, va_Nw.same rfl e h.2.2.2.2.2.2.1, va_Nw.same rfl e h.2.2.2.2.2.2.2.1, va_Nw.same rfl e h.2.2.2.2.2.2.2.2⟩
def preN (D : va_G) (cA : FieldType → ClassId) (K : List Kd) (h : Nat → Nat) (σ : St) (sz : Nat) : State → Prop := fun U => preS D cA K h σ sz U ∧ nwF U
theorem preN_blind {D : va_G} {cA : FieldType → ClassId} {K : List Kd} {h : Nat → Nat} {σ : St} {sz : Nat} {As : List Value} : FrameBlind (va_Pc As (preN D cA K h σ sz)) := fun a U g mk q => by
  obtain ⟨q0, ⟨q1, qP, qK, qD⟩, qN⟩ := q
  exact ⟨q0, ⟨q1, qP, va_K.moved (u := U) (U := U.calling g mk a) (Vm.Alike.refl U.vm) qK, qD⟩, nwF.same rfl qN⟩
/-- a constructor's end: the new object's cells K1 at h' hold σ' -/
def QC (D : va_G) (cA : FieldType → ClassId) (K1 : List Kd) (h : Nat → Nat) (sz : Nat) (post : St → Prop) : Array Value → State → Outcome → State → Prop := va_Qv (fun (u : (Nat → Nat) × St) => u.1 0 = h 0 ∧ post u.2) (fun u t => va_P D vwCl (wo cA u.1 u.2 0 K1) t.heap ∧ va_D (aA 1 h sz) (wo cA u.1 u.2 0 K1)) (aA 1 h sz)
theorem fvs_sh {h h' : Nat → Nat} {f : Int → Int} {k : Nat} (h0 : h' 0 = h k) : ∀ (fd : List (Option (Option Nat))) (j0 : Nat), fvs (hj h k h') f j0 (fd.map (shF k)) = fvs h' f j0 fd
  | [], _ => rfl
  | a :: r, j0 => by
    have h1 := fvs_sh (f := f) h0 r (j0 + 1)
    have e : ∀ i, hj h k h' (i + k) = h' i := fun i => by
      simp only [hj]
      by_cases q : i = 0
      · subst q; rw [if_pos (by omega), Nat.zero_add]; exact h0.symm
      · rw [if_neg (by omega)]; congr 1; omega
    rcases a with _ | _ | i <;> simp only [List.map_cons, shF, fvs, Option.map_none, Option.map_some, h1, e]
theorem ent_sh {cA : FieldType → ClassId} {h h' : Nat → Nat} {f : Int → Int} {k : Nat} (h0 : h' 0 = h k) (kd : Kd) : ent cA (hj h k h') f (shK k kd) = ent cA h' f kd := by
  rcases kd with o | a | a
  · simp only [shK, ent, fvs_sh h0]
  · rfl
  · simp only [shK, ent, List.length_map]
    congr 7
    funext i
    simp only [List.getD_eq_getElem?_getD, List.getElem?_map]
    cases a.2[i]? with
    | none => rfl
    | some o =>
      cases o with
      | none => rfl
      | some r =>
        simp only [Option.map_some, Option.getD_some, hj]
        by_cases q : r = 0
        · subst q; rw [if_pos (by omega), Nat.zero_add, h0]
        · rw [if_neg (by omega)]; congr 2; omega
theorem wo_sh {cA : FieldType → ClassId} {h h' : Nat → Nat} {σ σ' : St} {k : Nat} (h0 : h' 0 = h k) : ∀ (K : List Kd) (i0 : Nat), wo cA (hj h k h') (sj σ k σ') (k + i0) (K.map (shK k)) = wo cA h' σ' i0 K
  | [], _ => rfl
  | kd :: r, i0 => by
    have h1 := wo_sh (cA := cA) (σ := σ) (σ' := σ') h0 r (i0 + 1)
    have e1 : hj h k h' (k + i0) = h' i0 := by
      simp only [hj]
      by_cases q : i0 = 0
      · subst q; rw [if_pos (by omega), Nat.add_zero]; exact h0.symm
      · rw [if_neg (by omega)]; congr 1; omega
    have e2 : sj σ k σ' (k + i0) = σ' i0 := by
      simp only [sj]
      rw [if_neg (by omega)]; congr 1; omega
    simp only [List.map_cons, wo]
    rw [e1, e2, ent_sh h0, show k + i0 + 1 = k + (i0 + 1) by omega, h1]
section
variable {p : Program} {l : Launch} {e : Env} {R : Room} {s : State} {m : MethodId} {args : Array Value} {below : List Frame} {meth : Method} {c : Code} {H : Heap} {locs : List Loc} {cells slots : Nat} {Q : State → Prop} {pc : Nat} {ls : Array Slot} {st st0 : List Value}
variable {ws : List Cond} {own : String} {cc : ByteArray} {nL : Nat} {ret : Option FieldType} {D : va_G} {cA : FieldType → ClassId} {K0 K1 : List Kd} {kd : Kd} {h : Nat → Nat} {σ : St} {A : Nat → Prop} {H0 : Heap} {vl : List (Option Value)}
theorem wd_last (hw : wd D cA (K0 ++ [kd]) h σ A H0 H locs) (hrf : rfOK 0 kd = true) : va_P D vwCl (wo cA (hk_ h K0.length) (sk σ K0.length) 0 [kd]) H := by
  intro i q hq
  obtain ⟨kd', h1, h2⟩ := wo_inv [kd] 0 i q hq
  have hi : i = 0 := by have := (List.getElem?_eq_some_iff.mp h1).1; simp at this; exact this
  subst hi
  simp at h1; subst h1
  have h3 : (K0 ++ [kd])[K0.length]? = some kd := by simp
  have h4 := hw.1 _ _ (wo_get (K0 ++ [kd]) 0 K0.length _ h3)
  rw [Nat.zero_add] at h4 h2
  subst h2
  rw [show ent cA (hk_ h K0.length) (sk σ K0.length 0) kd = ent cA h (σ K0.length) kd by
    rw [ent_hcong (h := h) (h' := hk_ h K0.length) (n := 0) (fun i hi => by omega) _ hrf]; rfl]
  exact h4
theorem r_ctor (C : cx p s m args meth c ws own cc nL ret D cA) (hw : wd D cA (K0 ++ [kd]) h σ A s.heap H locs) (hA : ∀ q, s.heap.size ≤ q → A q) (hcl : clK K0 K0.length = true) (hrf : rfOK 0 kd = true) {mc ms : Nat} {post : St → Prop} {a : Array Value}
    (hr : va_Run p l e R s m args below meth c H locs cells slots mc ms (F0 m pc ls st0) st (QC D cA K1 (hk_ h K0.length) H.size post a) (aA 1 (hk_ h K0.length) H.size))
    (k : ∀ (h' : Nat → Nat) (σ' : St) (H1 : Heap) (locs1 : List Loc), post σ' → wd D cA (K0 ++ K1.map (shK K0.length)) (hj h K0.length h') (sj σ K0.length σ') A s.heap H1 locs1 → W p l e R s m args below meth c H1 locs1 (cells + mc) (slots + ms) Q (F0 m (pc + 3) ls st)) : W p l e R s m args below meth c H locs cells slots Q (F0 m pc ls st0) := by
  have h3 : (K0 ++ [kd])[K0.length]? = some kd := by simp
  have hlast := wo_get (cA := cA) (h := h) (σ := σ) (K0 ++ [kd]) 0 K0.length _ h3
  have hsub : ∀ q, aA 1 (hk_ h K0.length) H.size q → A q := by
    rintro q (⟨i, hi, rfl⟩ | hq)
    · have : i = 0 := by omega
      subst this
      have := hw.2.1.2 _ _ hlast
      rw [Nat.zero_add] at this
      exact this
    · exact hA q (Nat.le_trans hw.2.2.1 hq)
  refine va_callv hr hw.2.2 (fun q _ hq => hsub q hq) hsub (fun u t H1 locs1 ht hvm hp hB hz hk hS => ?_)
  subst ht
  obtain ⟨h0, hp⟩ := hp
  have h0' : u.1 0 = h K0.length := h0
  refine k u.1 u.2 _ locs1 hp ⟨?_, ?_, hS⟩
  all_goals rw [wo_app, Nat.zero_add]; rw [show wo cA (hj h K0.length u.1) (sj σ K0.length u.2) K0.length (K1.map (shK K0.length)) = wo cA u.1 u.2 0 K1 from by simpa using wo_sh (cA := cA) (σ := σ) (σ' := u.2) h0' K1 0]; rw [wo_hcong (h := h) (h' := hj h K0.length u.1) (σ := σ) (σ' := sj σ K0.length u.2) (n := K0.length) (fun i hi => by simp only [hj]; rw [if_pos (by omega)]) (fun i hi => by simp only [sj]; rw [if_pos hi]) K0 0 (by omega) hcl]
  · refine va_P.app (fun i q hq => ?_) hB.1
    have hq2 : (wo cA h σ 0 (K0 ++ [kd]))[i]? = some q := by
      rw [wo_app, List.getElem?_append_left (List.getElem?_eq_some_iff.mp hq).1]; exact hq
    have h5 := hw.1 i q hq2
    refine h5.kept (hk _ h5.lt ?_)
    rintro (⟨z, hz1, hz2⟩ | hz2)
    · have : z = 0 := by omega
      subst this
      have h6 := hw.2.1.1 i K0.length _ _ hq2 hlast (by rw [Nat.zero_add]; exact hz2)
      have h7 := (List.getElem?_eq_some_iff.mp hq).1
      have h8 : (wo cA h σ 0 K0).length = K0.length := by
        have : ∀ (K : List Kd) (k0 : Nat), (wo cA h σ k0 K).length = K.length := by
          intro K; induction K with
          | nil => intro k0; rfl
          | cons x r ih => intro k0; simp [wo, ih]
        exact this K0 0
      omega
    · exact absurd h5.lt (Nat.not_lt.mpr hz2)
  · refine va_D.app ?_ (hB.2.weaken (fun _ q _ hq => hsub q.1 hq)) (fun i j q1 q2 e1 e2 e3 => ?_)
    · refine ⟨fun i j q1 q2 e1 e2 e3 => ?_, fun i q1 e1 => ?_⟩
      · refine hw.2.1.1 i j q1 q2 ?_ ?_ e3
        · rw [wo_app, List.getElem?_append_left (List.getElem?_eq_some_iff.mp e1).1]; exact e1
        · rw [wo_app, List.getElem?_append_left (List.getElem?_eq_some_iff.mp e2).1]; exact e2
      · refine hw.2.1.2 i q1 ?_
        rw [wo_app, List.getElem?_append_left (List.getElem?_eq_some_iff.mp e1).1]; exact e1
    · have hq2 : (wo cA h σ 0 (K0 ++ [kd]))[i]? = some q1 := by
        rw [wo_app, List.getElem?_append_left (List.getElem?_eq_some_iff.mp e1).1]; exact e1
      have h5 := (hw.1 i q1 hq2).lt
      rcases hB.2.2 j q2 e2 with ⟨z, hz1, hz2⟩ | hz2
      · have : z = 0 := by omega
        subst this
        have h6 := hw.2.1.1 i K0.length _ _ hq2 hlast (by rw [Nat.zero_add]; exact e3.trans hz2)
        have h7 := (List.getElem?_eq_some_iff.mp e1).1
        have h8 : (wo cA h σ 0 K0).length = K0.length := by
          have : ∀ (K : List Kd) (k0 : Nat), (wo cA h σ k0 K).length = K.length := by
            intro K; induction K with
            | nil => intro k0; rfl
            | cons x r ih => intro k0; simp [wo, ih]
          exact this K0 0
        omega
      · rw [e3] at h5; omega
theorem preN_of (C : cx p s m args meth c ws own cc nL ret D cA) (hw : wd D cA (K0 ++ [kd]) h σ A s.heap H locs) (hrf : rfOK 0 kd = true) (hN : nwF s) {U : State} (hU : U.heap = H) (hW : s.WarmedH U.vm) : preN D cA [kd] (hk_ h K0.length) (sk σ K0.length) H.size U := by
  refine ⟨⟨by rw [hU], by rw [hU]; exact wd_last hw hrf, va_K.moved hW.alike C.2.2.2.2.2.2.2, ⟨fun i j q1 q2 e1 e2 e3 => ?_, fun _ _ _ => trivial⟩⟩, nwF.warm hW hN⟩
  have h1 := (List.getElem?_eq_some_iff.mp e1).1
  have h2 := (List.getElem?_eq_some_iff.mp e2).1
  simp [wo] at h1 h2
  omega
theorem run_i (C : cx p s m args meth c ws own cc nL ret D cA) (hw : wd D cA (K0 ++ [kd]) h σ A s.heap H locs) (hrf : rfOK 0 kd = true) (hN : nwF s) {y : MethodName} {ws' : List Cond} {rm' : Room} {As : List Value} {Qc : Array Value → State → Outcome → State → Prop} {ix n maxL mc ms : Nat} {bytes : ByteArray}
    (hM : Met l y ws' rm' (va_Pc (.ref (hk_ h K0.length 0) :: As) (preN D cA [kd] (hk_ h K0.length) (sk σ K0.length) H.size)) Qc mc ms (aA 1 (hk_ h K0.length) H.size)) (cw : CallB R s args own ix y bytes maxL none ws' rm' mc ms n ∧ y.name = "<init>" ∧ (Cond.instanceMethod y).before args s = true) (hn : As.length = n) (hst : st0 = As.reverse ++ .ref (hk_ h K0.length 0) :: st) (hcat : Nat.ble (st.map fun v => v.category).sum 8 = true) (hl : lh ls nL vl) (hd : decode cc pc = .ok (.invokespecial ix, 3)) (hf : cells + mc ≤ R.cells ∧ slots + ms ≤ R.slots) :
    va_Run p l e R s m args below meth c H locs cells slots mc ms (F0 m pc ls st0) st (Qc (Value.ref (hk_ h K0.length 0) :: As).toArray) (aA 1 (hk_ h K0.length) H.size) :=
  va_runI ⟨C.1, C.2.1, C.2.2.1, C.2.2.2.1, C.2.2.2.2.1⟩ hM cw ⟨preN_blind, fun U hU hW => ⟨rfl, preN_of C hw hrf hN hU hW⟩⟩ rfl hn hl.1 hst (lv_room (Nat.le_of_ble_eq_true hcat)) hd hf
theorem run_in (C : cx p s m args meth c ws own cc nL ret D cA) (hw : wd D cA (K0 ++ [kd]) h σ A s.heap H locs) (hrf : rfOK 0 kd = true) (hN : nwF s) {y : MethodName} {ws' : List Cond} {rm' : Room} {As : List Value} {Qc : Array Value → State → Outcome → State → Prop} {ix n maxL mc ms : Nat} {bytes : ByteArray} {host : String}
    (hM : Met l y ws' rm' (va_Pc (.ref (hk_ h K0.length 0) :: As) (preN D cA [kd] (hk_ h K0.length) (sk σ K0.length) H.size)) Qc mc ms (aA 1 (hk_ h K0.length) H.size)) (cw : va_CN R s args own ix y host bytes maxL none ws' rm' mc ms n ∧ y.name = "<init>" ∧ (Cond.instanceMethod y).before args s = true) (hn : As.length = n) (hst : st0 = As.reverse ++ .ref (hk_ h K0.length 0) :: st) (hcat : Nat.ble (st.map fun v => v.category).sum 8 = true) (hl : lh ls nL vl) (hd : decode cc pc = .ok (.invokespecial ix, 3)) (hf : cells + mc ≤ R.cells ∧ slots + ms ≤ R.slots) :
    va_Run p l e R s m args below meth c H locs cells slots mc ms (F0 m pc ls st0) st (Qc (Value.ref (hk_ h K0.length 0) :: As).toArray) (aA 1 (hk_ h K0.length) H.size) :=
  va_runIN ⟨C.1, C.2.1, C.2.2.1, C.2.2.2.1, C.2.2.2.2.1⟩ hM cw ⟨preN_blind, fun U hU hW => ⟨rfl, preN_of C hw hrf hN hU hW⟩⟩ rfl hn hl.1 hst (lv_room (Nat.le_of_ble_eq_true hcat)) hd hf
theorem r_objinit (C : cx p s m args meth c ws own cc nL ret D cA) (hl : lh ls nL vl) {ix : Nat} (q1 : Cond.methodLink own ix Lib.objectInit ∈ ws) (q2 : Cond.instanceMethod Lib.objectInit ∈ ws) (q3 : Cond.code Lib.objectInit ⟨#[0xb1]⟩ 1 none ∈ ws) {a : Addr} (hd : decode cc pc = .ok (.invokespecial ix, 3)) (hfr : 1 ≤ R.frames) (hlo : 2 * (F0 m pc ls (.ref a :: st)).monitorRoom + (st.map fun v => v.category).sum + 12 ≤ R.locals)
    (kk : W p l e R s m args below meth c H locs cells slots Q (F0 m (pc + 3) ls st)) : W p l e R s m args below meth c H locs cells slots Q (F0 m pc ls (.ref a :: st)) :=
  W.objInit C.1 C.2.1 C.2.2.2.1 (C.2.2.2.2.1 _ q1) (C.2.2.2.2.1 _ q2) (C.2.2.2.2.1 _ q3) rfl (hl.1.trans C.2.2.1.symm) rfl hd hfr hlo kk
/-- a constructor's contract out of a walk of its body -/
theorem mk_ctor {y : MethodName} {ws' : List Cond} {rm : Room} {As : List Value} {sz mc ms : Nat} {post : St → Prop} (k : Nat)
    (hy : plainName y.cls = true) (hw : ws = Cond.code y cc nL none :: ws') (hown : y.cls = own) (hyi : y.name = "<init>") (hrm : (headSpec ws rm).room = rm) (hn : Nat.ble (lg_sl As).length nL = true)
    (body : ∀ (p : Program) (e : Env) (s : State) (m : MethodId) (args : Array Value) (below : List Frame) (meth : Method) (c : Code) (ls : Array Slot), s.heap.size = sz → cx p s m args meth c ws own cc nL none D cA → meth.name = "<init>" → nwF s → wd D cA [kd] h σ (aA 1 h s.heap.size) s.heap s.heap [] → lh ls nL (slv As ++ List.replicate k none) → (∀ q, s.heap.size ≤ q → aA 1 h s.heap.size q) →
      (∀ (h' : Nat → Nat) (σ' : St) (H : Heap) (locs : List Loc) (cells slots pc : Nat) (ls : Array Slot), decode cc pc = .ok (.return_, 1) → cells ≤ mc → slots ≤ ms → h' 0 = h 0 → post σ' → wd D cA K1 h' σ' (aA 1 h s.heap.size) s.heap H locs → W p l e rm s m args below meth c H locs cells slots (MQ below (QC D cA K1 h s.heap.size post) args s mc ms (aA 1 h s.heap.size)) (F0 m pc ls [])) →
      W p l e rm s m args below meth c s.heap [] 0 0 (MQ below (QC D cA K1 h s.heap.size post) args s mc ms (aA 1 h s.heap.size)) (F0 m 0 ls [])) : Met l y ws rm (va_Pc As (preN D cA [kd] h σ sz)) (QC D cA K1 h sz post) mc ms (aA 1 h sz) := by
  refine Met.ofW (cc := cc) (maxL := nL) (ret := none) hy hw ?_
  intro p e s m args below meth c s₁ B hml hv
  obtain ⟨rfl, ⟨hsz, hP, hK, hD0⟩, hN⟩ := hv
  subst hsz
  have C : cx p s m As.toArray meth c ws own cc nL none D cA := ⟨B.exec, B.bytes, hml, (by rw [← hown]; exact findClass_of_methodNamed B.named), atoms_spec (ws := ws) B.pre, B.returns, B.notSynchronized, hK⟩
  rw [lg_entry_eq, hrm]
  refine body p e s m _ below meth c _ rfl C ((name_of_methodNamed B.named B.method).1.trans hyi) hN ⟨hP, ?_, va_S.rf⟩ (lh_entry As (Nat.le_of_ble_eq_true hn) k) (fun q hq => Or.inr hq) ?_
  · refine ⟨hD0.1, fun i q hq => ?_⟩
    obtain ⟨kd', a1, b1⟩ := wo_inv [kd] 0 i q hq
    subst b1
    exact Or.inl ⟨i, (List.getElem?_eq_some_iff.mp a1).1, by rw [Nat.zero_add]⟩
  · intro h' σ' H locs cells slots pc ls hd h1 h2 h3 hp hw
    refine W.widen h1 h2 ?_
    exact W.vret C.1 C.2.1 C.2.2.2.2.2.1 (fun t ht _ => ⟨⟨(h', σ'), rfl, ⟨h3, hp⟩, by dsimp only; rw [ht]; exact ⟨hw.1, hw.2.1⟩⟩, hw.2.2.F ht⟩) hw.2.2.2.2 hd C.2.2.2.2.2.2.1
end
