/-- class ci of the world's classes: its name, fields, how many, their types -/
def clo (ci : Nat) (Cn : String) (T : u_T) (N : Nat) (ty : Nat → FieldType) : Prop := vwCl[ci]? = some (Cn, T, N) ∧ (∀ k, k < N → parseFieldDescriptor (T k).2.2.1 = some (ty k)) ∧ ∀ a, a < N → ∀ b, b < N → a ≠ b → (T a).2.1 ≠ (T b).2.1
theorem up_ne {σ : St} {k : Nat} {j x : Int} (k' : Nat) (h : k' ≠ k) : up σ k j x k' = σ k' := by
  funext j'; simp [up, h]
theorem up_same {σ : St} {k : Nat} {j x : Int} : up σ k j x k j = x := by simp [up]
theorem nar_i (x : Int) : narrow .int (iv x) = iv x := rfl
theorem fit_i (x : Int) : fits .int (iv x) = true := rfl
theorem oi_z {x : Int} (h : x = 0 ∨ x = 1) : narrow .boolean (iv x) = iv x ∧ fits .boolean (iv x) = true := by
  rcases h with h | h <;> subst h <;> exact ⟨rfl, rfl⟩
theorem wo_D {cA : FieldType → ClassId} {h : Nat → Nat} {σ σ' : St} {A : Nat → Prop} {K : List Kd} (hD : va_D A (wo cA h σ 0 K)) : va_D A (wo cA h σ' 0 K) := by
  refine ⟨fun i j p q hp hq e => ?_, fun k q hq => ?_⟩
  · obtain ⟨k1, a1, b1⟩ := wo_inv K 0 i p hp
    obtain ⟨k2, a2, b2⟩ := wo_inv K 0 j q hq
    refine hD.1 i j _ _ (wo_get K 0 i k1 a1) (wo_get K 0 j k2 a2) ?_
    subst b1; subst b2; exact e
  · obtain ⟨k1, a1, b1⟩ := wo_inv K 0 k q hq
    have := hD.2 k _ (wo_get K 0 k k1 a1)
    subst b1; exact this
section
variable {p : Program} {l : Launch} {e : Env} {R : Room} {s : State} {m : MethodId} {args : Array Value} {below : List Frame} {meth : Method} {c : Code} {H : Heap} {locs : List Loc} {cells slots : Nat} {Q : State → Prop} {pc : Nat} {ls : Array Slot} {st : List Value}
variable {ws : List Cond} {own : String} {cc : ByteArray} {nL : Nat} {ret : Option FieldType} {D : va_G} {cA : FieldType → ClassId} {K : List Kd} {h : Nat → Nat} {σ : St} {A : Nat → Prop} {H0 : Heap} {vl : List (Option Value)}
theorem r_get (C : cx p s m args meth c ws own cc nL ret D cA) (hw : wd D cA K h σ A H0 H locs) {ci : Nat} {Cn : String} {T : u_T} {N : Nat} {ty : Nat → FieldType} (hc : clo ci Cn T N ty) (k : Nat) {fds : List (Option (Option Nat))} (hk : K[k]? = some (.inl (ci, fds))) (j : Nat) (ji : Int) (hj : (j : Int) = ji) (hf : fds[j]? = some none) (hN : j < N) {ix : Nat} (hin : ∀ w ∈ u_ws Cn T N, w ∈ ws) (hlink : Cond.fieldLink own ix (T j).1 (T j).2.1 (T j).2.2.1 ∈ ws) (hd : decode cc pc = .ok (.getfield ix, 3))
    (kk : W p l e R s m args below meth c H locs cells slots Q (F0 m (pc + 3) ls (iv (σ k ji) :: st))) : W p l e R s m args below meth c H locs cells slots Q (F0 m pc ls (.ref (h k) :: st)) := by
  have he := wo_get (cA := cA) (h := h) (σ := σ) K 0 k _ hk
  rw [Nat.zero_add] at he
  have hv := fvs_get (h := h) (f := σ k) fds 0 j hf
  rw [Nat.zero_add, hj] at hv
  exact va_get (D := D) C.1 C.2.1 C.2.2.2.2.1 hin C.2.2.2.1 C.2.2.2.2.2.2.2 hw.1 k he hc.1 j hN (C.2.2.2.2.1 _ hlink) (fun _ h9 => h9) hv hd kk
theorem r_getr (C : cx p s m args meth c ws own cc nL ret D cA) (hw : wd D cA K h σ A H0 H locs) {ci : Nat} {Cn : String} {T : u_T} {N : Nat} {ty : Nat → FieldType} (hc : clo ci Cn T N ty) (k : Nat) {fds : List (Option (Option Nat))} (hk : K[k]? = some (.inl (ci, fds))) (j r : Nat) (hf : fds[j]? = some (some (some r))) (hN : j < N) {ix : Nat} (hin : ∀ w ∈ u_ws Cn T N, w ∈ ws) (hlink : Cond.fieldLink own ix (T j).1 (T j).2.1 (T j).2.2.1 ∈ ws) (hd : decode cc pc = .ok (.getfield ix, 3))
    (kk : W p l e R s m args below meth c H locs cells slots Q (F0 m (pc + 3) ls (.ref (h r) :: st))) : W p l e R s m args below meth c H locs cells slots Q (F0 m pc ls (.ref (h k) :: st)) := by
  have he := wo_get (cA := cA) (h := h) (σ := σ) K 0 k _ hk
  rw [Nat.zero_add] at he
  have hv := fvs_ref (h := h) (f := σ k) fds 0 j hf
  exact va_get (D := D) C.1 C.2.1 C.2.2.2.2.1 hin C.2.2.2.1 C.2.2.2.2.2.2.2 hw.1 k he hc.1 j hN (C.2.2.2.2.1 _ hlink) (fun _ h9 => h9) hv hd kk
theorem wd_obj (hw : wd D cA K h σ A H0 H locs) {k : Nat} {ci : Nat} {fds : List (Option (Option Nat))} (hk : K[k]? = some (.inl (ci, fds))) {j : Nat} {ji : Int} (hj : (j : Int) = ji) (hf : fds[j]? = some none) {x : Int} : (wo cA h σ 0 K).set k (h k, .inr (ci, (fvs h (σ k) 0 fds).set j (iv x))) = wo cA h (up σ k ji x) 0 K := by
  have h1 := wo_set (cA := cA) (h := h) (σ := σ) (σ' := up σ k ji x) K 0 k _ hk (fun k' hk' => up_ne k' (by omega))
  have h2 := fvs_set (h := h) (f := σ k) (g := up σ k ji x k) fds 0 j hf (fun i hi => by simp only [up]; rw [if_neg]; omega)
  rw [Nat.zero_add, hj, up_same] at h2
  rw [Nat.zero_add] at h1
  rw [← h1, h2]; rfl
theorem r_put (C : cx p s m args meth c ws own cc nL ret D cA) (hw : wd D cA K h σ A H0 H locs) {ci : Nat} {Cn : String} {T : u_T} {N : Nat} {ty : Nat → FieldType} (hc : clo ci Cn T N ty) (k : Nat) {fds : List (Option (Option Nat))} (hk : K[k]? = some (.inl (ci, fds))) (j : Nat) (ji : Int) (hj : (j : Int) = ji) (hf : fds[j]? = some none) (hN : j < N) {ix : Nat} (hin : ∀ w ∈ u_ws Cn T N, w ∈ ws) (hlink : Cond.fieldLink own ix (T j).1 (T j).2.1 (T j).2.2.1 ∈ ws) (hfin : (T j).2.2.2 = false) {x : Int} (hty : narrow (ty j) (iv x) = iv x ∧ fits (ty j) (iv x) = true) (hd : decode cc pc = .ok (.putfield ix, 3))
    (kk : ∀ (H1 : Heap) (locs1 : List Loc), wd D cA K h (up σ k ji x) A H0 H1 locs1 → W p l e R s m args below meth c H1 locs1 cells slots Q (F0 m (pc + 3) ls st)) : W p l e R s m args below meth c H locs cells slots Q (F0 m pc ls (iv x :: .ref (h k) :: st)) := by
  have he := wo_get (cA := cA) (h := h) (σ := σ) K 0 k _ hk
  rw [Nat.zero_add] at he
  refine va_put (D := D) C.1 C.2.1 C.2.2.2.2.1 hin ty hc.2.1 hc.2.2 C.2.2.2.1 C.2.2.2.2.2.2.2 hw.1 hw.2.1 hw.2.2 k he hc.1 j hN (C.2.2.2.2.1 _ hlink) (fun _ h9 => h9) hfin (hc.2.1 j hN) hty.1 hty.2 ?_ hd (fun H1 locs1 hP hD hS => kk H1 locs1 ?_)
  · rw [fvs_len]; exact (List.getElem?_eq_some_iff.mp hf).1
  · rw [wd_obj hw hk hj hf] at hP hD
    exact ⟨hP, hD, hS⟩
theorem wd_arr (hw : wd D cA K h σ A H0 H locs) {k n : Nat} {ty : FieldType} (hk : K[k]? = some (.inr (.inl (ty, n)))) {a x : Int} (h0 : 0 ≤ a) {f' : (Nat → Int32) ⊕ (Nat → Int64) ⊕ (Nat → UInt32) ⊕ (Nat → UInt64) ⊕ (Nat → Option Nat)} (hf : f' = ear ty (fun i => if i = a then x else σ k i)) : (wo cA h σ 0 K).set k (h k, .inl (cA ty, n, f')) = wo cA h (up σ k a x) 0 K := by
  have h1 := wo_set (cA := cA) (h := h) (σ := σ) (σ' := up σ k a x) K 0 k _ hk (fun k' hk' => up_ne k' (by omega))
  rw [Nat.zero_add] at h1
  rw [← h1, hf]
  have : up σ k a x k = fun i => if i = a then x else σ k i := by funext i; simp [up]
  rw [this]; rfl
theorem ear_i {ty : FieldType} (ht : refKind ty = false ∧ ty ≠ .long) {f : Int → Int} : ear ty f = .inl fun i => Int32.ofInt (f (i : Int)) := by
  unfold ear; split
  · exact absurd rfl ht.2
  · rfl
theorem upd_i {f : Int → Int} {a x : Int} (h0 : 0 ≤ a) : upd (fun i => Int32.ofInt (f (i : Int))) a.toNat (Int32.ofInt x) = fun i : Nat => Int32.ofInt ((fun j => if j = a then x else f j) (i : Int)) := by
  funext i
  simp only [upd]
  by_cases hi : i = a.toNat
  · rw [if_pos hi, if_pos (by omega)]
  · rw [if_neg hi, if_neg (by omega)]
theorem upd_l {f : Int → Int} {a x : Int} (h0 : 0 ≤ a) : vp_updL (fun i => Int64.ofInt (f (i : Int))) a.toNat (Int64.ofInt x) = fun i : Nat => Int64.ofInt ((fun j => if j = a then x else f j) (i : Int)) := by
  funext i
  simp only [vp_updL]
  by_cases hi : i = a.toNat
  · rw [if_pos hi, if_pos (by omega)]
  · rw [if_neg hi, if_neg (by omega)]
theorem r_iald (C : cx p s m args meth c ws own cc nL ret D cA) (hw : wd D cA K h σ A H0 H locs) (k : Nat) {n : Nat} (hk : K[k]? = some (.inr (.inl (.int, n)))) (hn : Nat.ble (n + 1) 2147483648 = true) {a : Int} (h0 : 0 ≤ a) (h1 : a < (n : Int)) (hd : decode cc pc = .ok (.iaload, 1))
    (kk : W p l e R s m args below meth c H locs cells slots Q (F0 m (pc + 1) ls (iv (σ k a) :: st))) : W p l e R s m args below meth c H locs cells slots Q (F0 m pc ls (iv a :: .ref (h k) :: st)) := by
  have he := wo_get (cA := cA) (h := h) (σ := σ) K 0 k _ hk
  rw [Nat.zero_add] at he
  have hn' : n < 2147483648 := Nat.le_of_ble_eq_true hn
  refine va_iald (D := D) (i := Int32.ofInt a) (f := fun i => Int32.ofInt (σ k (i : Int))) C.1 C.2.1 C.2.2.2.2.2.2.2 hw.1 k 0 he rfl (oi_in h0 h1 hn') hd ?_
  rw [oi_cl h0 (by omega), Int.toNat_of_nonneg h0]; exact kk
theorem r_bald (C : cx p s m args meth c ws own cc nL ret D cA) (hw : wd D cA K h σ A H0 H locs) (k : Nat) {n : Nat} (hk : K[k]? = some (.inr (.inl (.byte, n)))) (hn : Nat.ble (n + 1) 2147483648 = true) {a : Int} (h0 : 0 ≤ a) (h1 : a < (n : Int)) (hd : decode cc pc = .ok (.baload, 1))
    (kk : W p l e R s m args below meth c H locs cells slots Q (F0 m (pc + 1) ls (iv (σ k a) :: st))) : W p l e R s m args below meth c H locs cells slots Q (F0 m pc ls (iv a :: .ref (h k) :: st)) := by
  have he := wo_get (cA := cA) (h := h) (σ := σ) K 0 k _ hk
  rw [Nat.zero_add] at he
  have hn' : n < 2147483648 := Nat.le_of_ble_eq_true hn
  refine va_bald (D := D) (i := Int32.ofInt a) (f := fun i => Int32.ofInt (σ k (i : Int))) C.1 C.2.1 C.2.2.2.2.2.2.2 hw.1 k 2 he rfl (oi_in h0 h1 hn') hd ?_
  rw [oi_cl h0 (by omega), Int.toNat_of_nonneg h0]; exact kk
theorem r_zald (C : cx p s m args meth c ws own cc nL ret D cA) (hw : wd D cA K h σ A H0 H locs) (k : Nat) {n : Nat} (hk : K[k]? = some (.inr (.inl (.boolean, n)))) (hn : Nat.ble (n + 1) 2147483648 = true) {a : Int} (h0 : 0 ≤ a) (h1 : a < (n : Int)) (hd : decode cc pc = .ok (.baload, 1))
    (kk : W p l e R s m args below meth c H locs cells slots Q (F0 m (pc + 1) ls (iv (σ k a) :: st))) : W p l e R s m args below meth c H locs cells slots Q (F0 m pc ls (iv a :: .ref (h k) :: st)) := by
  have he := wo_get (cA := cA) (h := h) (σ := σ) K 0 k _ hk
  rw [Nat.zero_add] at he
  have hn' : n < 2147483648 := Nat.le_of_ble_eq_true hn
  refine va_zald (D := D) (i := Int32.ofInt a) (f := fun i => Int32.ofInt (σ k (i : Int))) C.1 C.2.1 C.2.2.2.2.2.2.2 hw.1 k 3 he rfl (oi_in h0 h1 hn') hd ?_
  rw [oi_cl h0 (by omega), Int.toNat_of_nonneg h0]; exact kk
theorem r_lald (C : cx p s m args meth c ws own cc nL ret D cA) (hw : wd D cA K h σ A H0 H locs) (k : Nat) {n : Nat} (hk : K[k]? = some (.inr (.inl (.long, n)))) (hn : Nat.ble (n + 1) 2147483648 = true) {a : Int} (h0 : 0 ≤ a) (h1 : a < (n : Int)) (hd : decode cc pc = .ok (.laload, 1))
    (kk : W p l e R s m args below meth c H locs cells slots Q (F0 m (pc + 1) ls (jv (σ k a) :: st))) : W p l e R s m args below meth c H locs cells slots Q (F0 m pc ls (iv a :: .ref (h k) :: st)) := by
  have he := wo_get (cA := cA) (h := h) (σ := σ) K 0 k _ hk
  rw [Nat.zero_add] at he
  have hn' : n < 2147483648 := Nat.le_of_ble_eq_true hn
  refine va_lald (D := D) (i := Int32.ofInt a) (f := fun i => Int64.ofInt (σ k (i : Int))) C.1 C.2.1 C.2.2.2.2.2.2.2 hw.1 k 1 he rfl (oi_in h0 h1 hn') hd ?_
  rw [oi_cl h0 (by omega), Int.toNat_of_nonneg h0]; exact kk
theorem r_iast (C : cx p s m args meth c ws own cc nL ret D cA) (hw : wd D cA K h σ A H0 H locs) (k : Nat) {n : Nat} (hk : K[k]? = some (.inr (.inl (.int, n)))) (hn : Nat.ble (n + 1) 2147483648 = true) {a x : Int} (h0 : 0 ≤ a) (h1 : a < (n : Int)) (hd : decode cc pc = .ok (.iastore, 1))
    (kk : ∀ (H1 : Heap) (locs1 : List Loc), wd D cA K h (up σ k a x) A H0 H1 locs1 → W p l e R s m args below meth c H1 locs1 cells slots Q (F0 m (pc + 1) ls st)) : W p l e R s m args below meth c H locs cells slots Q (F0 m pc ls (iv x :: iv a :: .ref (h k) :: st)) := by
  have he := wo_get (cA := cA) (h := h) (σ := σ) K 0 k _ hk
  rw [Nat.zero_add] at he
  have hn' : n < 2147483648 := Nat.le_of_ble_eq_true hn
  refine va_iast (D := D) (i := Int32.ofInt a) (f := fun i => Int32.ofInt (σ k (i : Int))) C.1 C.2.1 C.2.2.2.2.2.2.2 hw.1 hw.2.1 hw.2.2 k 0 he rfl (oi_in h0 h1 hn') hd (fun H1 locs1 hP hD hS => kk H1 locs1 ?_)
  rw [oi_cl h0 (by omega), upd_i h0] at hP hD
  have hP : va_P D vwCl ((wo cA h σ 0 K).set k (h k, .inl (cA .int, n, ear .int fun i => if i = a then x else σ k i))) H1 := hP
  have hD : va_D A ((wo cA h σ 0 K).set k (h k, .inl (cA .int, n, ear .int fun i => if i = a then x else σ k i))) := hD
  rw [wd_arr hw hk h0 rfl] at hP hD
  exact ⟨hP, hD, hS⟩
theorem r_bast (C : cx p s m args meth c ws own cc nL ret D cA) (hw : wd D cA K h σ A H0 H locs) (k : Nat) {n : Nat} (hk : K[k]? = some (.inr (.inl (.byte, n)))) (hn : Nat.ble (n + 1) 2147483648 = true) {a x : Int} (h0 : 0 ≤ a) (h1 : a < (n : Int)) (hx : i2b x = x) (hd : decode cc pc = .ok (.bastore, 1))
    (kk : ∀ (H1 : Heap) (locs1 : List Loc), wd D cA K h (up σ k a x) A H0 H1 locs1 → W p l e R s m args below meth c H1 locs1 cells slots Q (F0 m (pc + 1) ls st)) : W p l e R s m args below meth c H locs cells slots Q (F0 m pc ls (iv x :: iv a :: .ref (h k) :: st)) := by
  have he := wo_get (cA := cA) (h := h) (σ := σ) K 0 k _ hk
  rw [Nat.zero_add] at he
  have hn' : n < 2147483648 := Nat.le_of_ble_eq_true hn
  have hx2 : vp_nar .byte (Int32.ofInt x) = Int32.ofInt x := by
    rw [vp_nar_byte, ← Int32.ofInt_int8ToInt]
    exact congrArg Int32.ofInt hx
  refine va_bast (D := D) (i := Int32.ofInt a) (f := fun i => Int32.ofInt (σ k (i : Int))) C.1 C.2.1 C.2.2.2.2.2.2.2 hw.1 hw.2.1 hw.2.2 k 2 he rfl (oi_in h0 h1 hn') hd (fun H1 locs1 hP hD hS => kk H1 locs1 ?_)
  rw [oi_cl h0 (by omega), hx2, upd_i h0] at hP hD
  have hP : va_P D vwCl ((wo cA h σ 0 K).set k (h k, .inl (cA .byte, n, ear .byte fun i => if i = a then x else σ k i))) H1 := hP
  have hD : va_D A ((wo cA h σ 0 K).set k (h k, .inl (cA .byte, n, ear .byte fun i => if i = a then x else σ k i))) := hD
  rw [wd_arr hw hk h0 rfl] at hP hD
  exact ⟨hP, hD, hS⟩
theorem r_zast (C : cx p s m args meth c ws own cc nL ret D cA) (hw : wd D cA K h σ A H0 H locs) (k : Nat) {n : Nat} (hk : K[k]? = some (.inr (.inl (.boolean, n)))) (hn : Nat.ble (n + 1) 2147483648 = true) {a x : Int} (h0 : 0 ≤ a) (h1 : a < (n : Int)) (hx : x = 0 ∨ x = 1) (hd : decode cc pc = .ok (.bastore, 1))
    (kk : ∀ (H1 : Heap) (locs1 : List Loc), wd D cA K h (up σ k a x) A H0 H1 locs1 → W p l e R s m args below meth c H1 locs1 cells slots Q (F0 m (pc + 1) ls st)) : W p l e R s m args below meth c H locs cells slots Q (F0 m pc ls (iv x :: iv a :: .ref (h k) :: st)) := by
  have he := wo_get (cA := cA) (h := h) (σ := σ) K 0 k _ hk
  rw [Nat.zero_add] at he
  have hn' : n < 2147483648 := Nat.le_of_ble_eq_true hn
  have hx2 : vp_nar .boolean (Int32.ofInt x) = Int32.ofInt x := by rcases hx with hx | hx <;> subst hx <;> rfl
  refine va_zast (D := D) (i := Int32.ofInt a) (f := fun i => Int32.ofInt (σ k (i : Int))) C.1 C.2.1 C.2.2.2.2.2.2.2 hw.1 hw.2.1 hw.2.2 k 3 he rfl (oi_in h0 h1 hn') hd (fun H1 locs1 hP hD hS => kk H1 locs1 ?_)
  rw [oi_cl h0 (by omega), hx2, upd_i h0] at hP hD
  have hP : va_P D vwCl ((wo cA h σ 0 K).set k (h k, .inl (cA .boolean, n, ear .boolean fun i => if i = a then x else σ k i))) H1 := hP
  have hD : va_D A ((wo cA h σ 0 K).set k (h k, .inl (cA .boolean, n, ear .boolean fun i => if i = a then x else σ k i))) := hD
  rw [wd_arr hw hk h0 rfl] at hP hD
  exact ⟨hP, hD, hS⟩
theorem r_last (C : cx p s m args meth c ws own cc nL ret D cA) (hw : wd D cA K h σ A H0 H locs) (k : Nat) {n : Nat} (hk : K[k]? = some (.inr (.inl (.long, n)))) (hn : Nat.ble (n + 1) 2147483648 = true) {a x : Int} (h0 : 0 ≤ a) (h1 : a < (n : Int)) (hd : decode cc pc = .ok (.lastore, 1))
    (kk : ∀ (H1 : Heap) (locs1 : List Loc), wd D cA K h (up σ k a x) A H0 H1 locs1 → W p l e R s m args below meth c H1 locs1 cells slots Q (F0 m (pc + 1) ls st)) : W p l e R s m args below meth c H locs cells slots Q (F0 m pc ls (jv x :: iv a :: .ref (h k) :: st)) := by
  have he := wo_get (cA := cA) (h := h) (σ := σ) K 0 k _ hk
  rw [Nat.zero_add] at he
  have hn' : n < 2147483648 := Nat.le_of_ble_eq_true hn
  refine va_last (D := D) (i := Int32.ofInt a) (f := fun i => Int64.ofInt (σ k (i : Int))) C.1 C.2.1 C.2.2.2.2.2.2.2 hw.1 hw.2.1 hw.2.2 k 1 he rfl (oi_in h0 h1 hn') hd (fun H1 locs1 hP hD hS => kk H1 locs1 ?_)
  rw [oi_cl h0 (by omega), upd_l h0] at hP hD
  have hP : va_P D vwCl ((wo cA h σ 0 K).set k (h k, .inl (cA .long, n, ear .long fun i => if i = a then x else σ k i))) H1 := hP
  have hD : va_D A ((wo cA h σ 0 K).set k (h k, .inl (cA .long, n, ear .long fun i => if i = a then x else σ k i))) := hD
  rw [wd_arr hw hk h0 rfl] at hP hD
  exact ⟨hP, hD, hS⟩
theorem r_alen (C : cx p s m args meth c ws own cc nL ret D cA) (hw : wd D cA K h σ A H0 H locs) (k : Nat) {n : Nat} (hk : K[k]? = some (.inr (.inl (.int, n)))) (hd : decode cc pc = .ok (.arraylength, 1))
    (kk : W p l e R s m args below meth c H locs cells slots Q (F0 m (pc + 1) ls (iv (n : Int) :: st))) : W p l e R s m args below meth c H locs cells slots Q (F0 m pc ls (.ref (h k) :: st)) := by
  have he := wo_get (cA := cA) (h := h) (σ := σ) K 0 k _ hk
  rw [Nat.zero_add] at he
  exact va_alen (D := D) (x := (n, .inl fun i => Int32.ofInt (σ k (i : Int)))) C.1 C.2.1 C.2.2.2.2.2.2.2 hw.1 k 0 he rfl (Int32.ofInt_eq_ofNat).symm hd kk
theorem r_aald (C : cx p s m args meth c ws own cc nL ret D cA) (hw : wd D cA K h σ A H0 H locs) (k : Nat) {rs : List (Option Nat)} (hk : K[k]? = some (.inr (.inr ("BellTouches$Tape", rs)))) (hn : Nat.ble (rs.length + 1) 2147483648 = true) {a : Int} (h0 : 0 ≤ a) (h1 : a < (rs.length : Int)) (r : Nat) (hr : rs.getD a.toNat none = some r) (hd : decode cc pc = .ok (.aaload, 1))
    (kk : W p l e R s m args below meth c H locs cells slots Q (F0 m (pc + 1) ls (.ref (h r) :: st))) : W p l e R s m args below meth c H locs cells slots Q (F0 m pc ls (iv a :: .ref (h k) :: st)) := by
  have he := wo_get (cA := cA) (h := h) (σ := σ) K 0 k _ hk
  rw [Nat.zero_add] at he
  have hn' : rs.length < 2147483648 := Nat.le_of_ble_eq_true hn
  refine va_aldq (D := D) (i := Int32.ofInt a) (f := fun i => (rs.getD i none).map h) C.1 C.2.1 C.2.2.2.2.2.2.2 hw.1 k 4 he rfl (oi_in h0 h1 hn') hd ?_
  rw [oi_cl h0 (by omega), hr]; exact kk
end
