section
variable {p : Program} {l : Launch} {e : Env} {s : State} {m : MethodId} {args : Array Value} {below : List Frame} {meth : Method} {c : Code} {Q : State → Prop} {D : va_G} {cA : FieldType → ClassId} {h : Nat → Nat} {A : Nat → Prop}
-- X1_append
theorem hi_X1_append_X1 : ∀ w ∈ u_ws RX1 TX1 4, w ∈ wsX1_append := by decide +kernel
theorem hf_X1_append_13 : Cond.fieldLink RX1 13 (TX1 0).1 (TX1 0).2.1 (TX1 0).2.2.1 ∈ wsX1_append := by decide +kernel
theorem hf_X1_append_17 : Cond.fieldLink RX1 17 (TX1 1).1 (TX1 1).2.1 (TX1 1).2.2.1 ∈ wsX1_append := by decide +kernel
theorem hf_X1_append_20 : Cond.fieldLink RX1 20 (TX1 2).1 (TX1 2).2.1 (TX1 2).2.2.1 ∈ wsX1_append := by decide +kernel
theorem hf_X1_append_7 : Cond.fieldLink RX1 7 (TX1 3).1 (TX1 3).2.1 (TX1 3).2.2.1 ∈ wsX1_append := by decide +kernel
def rm_X1_append : Room := { frames := 0, cells := 0, slots := 0, locals := 0 }
set_option maxRecDepth 100000 in
theorem b_X1_append_0 {N : Nat} {post : Int → St → Prop} (C : cx p s m args meth c wsX1_append RX1 cX1_append 4 (some .boolean) D cA) (hA : ∀ q, s.heap.size ≤ q → A q) (hR : RtI p l e rm_X1_append s m args below meth c Q cX1_append D cA (K_HR N) h A (fun x => x = 0 ∨ x = 1) post) (hN : Nat.ble (N + 1) 2147483648 = true) : ∀ {v1 v2 v3 : Int} {σ : St} {H : Heap} {locs : List Loc} {ls : Array Slot}, wp_X1_append N σ v1 v2 v3 post → wd D cA (K_HR N) h σ A s.heap H locs → lh ls 4 [some (.ref (h 0)), some (iv v1), some (iv v2), some (iv v3)] → W p l e rm_X1_append s m args below meth c H locs 0 0 Q (F0 m 0 ls []) := by
  intro v1 v2 v3 σ H locs ls hwp hw hl
  refine r_aload_n C dX1_append_0 hl rfl ?_
  refine r_get C hw clX1 0 rfl 3 3 rfl rfl (Nat.le_of_ble_eq_true rfl) hi_X1_append_X1 hf_X1_append_7 dX1_append_1 ?_
  obtain ⟨ra, hT, hF⟩ := hwp
  refine r_if_lt C (tgt := 19) dX1_append_4 rfl ra (fun hc => ?_) (fun hc => ?_)
  · have hwp := hT hc
    refine r_const C dX1_append_19 ?_
    exact hR _ _ _ _ _ _ dX1_append_20 (Or.inl rfl) hwp hw
  · have hwp := hF hc
    refine r_aload_n C dX1_append_7 hl rfl ?_
    refine r_get C hw clX1 0 rfl 3 3 rfl rfl (Nat.le_of_ble_eq_true rfl) hi_X1_append_X1 hf_X1_append_7 dX1_append_8 ?_
    refine r_aload_n C dX1_append_11 hl rfl ?_
    refine r_getr C hw clX1 0 rfl 0 1 rfl (Nat.le_of_ble_eq_true rfl) hi_X1_append_X1 hf_X1_append_13 dX1_append_12 ?_
    refine r_alen C hw 1 rfl dX1_append_15 ?_
    obtain ⟨ra, rb, hT, hF⟩ := hwp
    refine r_icmp_lt C (tgt := 21) dX1_append_16 rfl ra rb (fun hc => ?_) (fun hc => ?_)
    · have hwp := hT hc
      refine r_aload_n C dX1_append_21 hl rfl ?_
      refine r_getr C hw clX1 0 rfl 0 1 rfl (Nat.le_of_ble_eq_true rfl) hi_X1_append_X1 hf_X1_append_13 dX1_append_22 ?_
      refine r_aload_n C dX1_append_25 hl rfl ?_
      refine r_get C hw clX1 0 rfl 3 3 rfl rfl (Nat.le_of_ble_eq_true rfl) hi_X1_append_X1 hf_X1_append_7 dX1_append_26 ?_
      refine r_iload_n C dX1_append_29 hl rfl ?_
      obtain ⟨h0, h1, hwp⟩ := hwp
      refine r_iast C hw 1 rfl hN h0 h1 dX1_append_30 (fun H locs hw => ?_)
      have hwp := hwp _ rfl
      refine r_aload_n C dX1_append_31 hl rfl ?_
      refine r_getr C hw clX1 0 rfl 1 2 rfl (Nat.le_of_ble_eq_true rfl) hi_X1_append_X1 hf_X1_append_17 dX1_append_32 ?_
      refine r_aload_n C dX1_append_35 hl rfl ?_
      refine r_get C hw clX1 0 rfl 3 3 rfl rfl (Nat.le_of_ble_eq_true rfl) hi_X1_append_X1 hf_X1_append_7 dX1_append_36 ?_
      refine r_iload_n C dX1_append_39 hl rfl ?_
      obtain ⟨h0, h1, hwp⟩ := hwp
      refine r_iast C hw 2 rfl hN h0 h1 dX1_append_40 (fun H locs hw => ?_)
      have hwp := hwp _ rfl
      refine r_aload_n C dX1_append_41 hl rfl ?_
      refine r_getr C hw clX1 0 rfl 2 3 rfl (Nat.le_of_ble_eq_true rfl) hi_X1_append_X1 hf_X1_append_20 dX1_append_42 ?_
      refine r_aload_n C dX1_append_45 hl rfl ?_
      refine r_get C hw clX1 0 rfl 3 3 rfl rfl (Nat.le_of_ble_eq_true rfl) hi_X1_append_X1 hf_X1_append_7 dX1_append_46 ?_
      refine r_iload_n C dX1_append_49 hl rfl ?_
      obtain ⟨h0, h1, hwp⟩ := hwp
      refine r_iast C hw 3 rfl hN h0 h1 dX1_append_50 (fun H locs hw => ?_)
      have hwp := hwp _ rfl
      refine r_aload_n C dX1_append_51 hl rfl ?_
      refine r_dup C dX1_append_52 rfl ?_
      refine r_get C hw clX1 0 rfl 3 3 rfl rfl (Nat.le_of_ble_eq_true rfl) hi_X1_append_X1 hf_X1_append_7 dX1_append_53 ?_
      refine r_const C dX1_append_56 ?_
      refine r_iadd C dX1_append_57 ?_
      refine r_put C hw clX1 0 rfl 3 3 rfl rfl (Nat.le_of_ble_eq_true rfl) hi_X1_append_X1 hf_X1_append_7 rfl ⟨nar_i _, fit_i _⟩ dX1_append_58 (fun H locs hw => ?_)
      have hwp := hwp _ rfl
      refine r_const C dX1_append_61 ?_
      exact hR _ _ _ _ _ _ dX1_append_62 (Or.inr rfl) hwp hw
    · have hwp := hF hc
      refine r_const C dX1_append_19 ?_
      exact hR _ _ _ _ _ _ dX1_append_20 (Or.inl rfl) hwp hw
set_option maxRecDepth 100000 in
theorem c_X1_append {N : Nat} {l : Launch} {D : va_G} {cA : FieldType → ClassId} {h : Nat → Nat} {σ : St} {sz : Nat} {v1 v2 v3 : Int} {post : Int → St → Prop} (hN : Nat.ble (N + 1) 2147483648 = true) (hwp : wp_X1_append N σ v1 v2 v3 post) : Met l yX1_append wsX1_append rm_X1_append (va_Pc [.ref (h 0), iv v1, iv v2, iv v3] (preS D cA (K_HR N) h σ sz)) (QI D cA (K_HR N) h sz post) 0 0 (aA (K_HR N).length h sz) := by
  refine mk_met (cc := cX1_append) (nL := 4) (ret := (some .boolean)) (own := RX1) 0 (by decide) rfl rfl rfl rfl ?_
  intro p e s m args below meth c ls hsz C hw hl hA
  subst hsz
  exact b_X1_append_0 C hA (rt_z C _) hN hwp hw hl
-- X1_copyFrom
theorem hi_X1_copyFrom_X1 : ∀ w ∈ u_ws RX1 TX1 4, w ∈ wsX1_copyFrom := by decide +kernel
theorem hf_X1_copyFrom_13 : Cond.fieldLink RX1 13 (TX1 0).1 (TX1 0).2.1 (TX1 0).2.2.1 ∈ wsX1_copyFrom := by decide +kernel
theorem hf_X1_copyFrom_17 : Cond.fieldLink RX1 17 (TX1 1).1 (TX1 1).2.1 (TX1 1).2.2.1 ∈ wsX1_copyFrom := by decide +kernel
theorem hf_X1_copyFrom_20 : Cond.fieldLink RX1 20 (TX1 2).1 (TX1 2).2.1 (TX1 2).2.2.1 ∈ wsX1_copyFrom := by decide +kernel
theorem hf_X1_copyFrom_7 : Cond.fieldLink RX1 7 (TX1 3).1 (TX1 3).2.1 (TX1 3).2.2.1 ∈ wsX1_copyFrom := by decide +kernel
def rm_X1_copyFrom : Room := { frames := 1, cells := 0, slots := 0, locals := 23 }
set_option maxRecDepth 100000 in
theorem b_X1_copyFrom_7 {N : Nat} {post : St → Prop} (C : cx p s m args meth c wsX1_copyFrom RX1 cX1_copyFrom 3 none D cA) (hA : ∀ q, s.heap.size ≤ q → A q) (hR : RtV p l e rm_X1_copyFrom s m args below meth c Q cX1_copyFrom D cA (K_HR2 N) h A post) (hN : Nat.ble (N + 1) 2147483648 = true) : ∀ (n : Nat) {v2 : Int} {σ : St} {H : Heap} {locs : List Loc} {ls : Array Slot}, wp_X1_copyFrom_7 N post n v2 σ → wd D cA (K_HR2 N) h σ A s.heap H locs → lh ls 3 [some (.ref (h 0)), some (.ref (h 4)), some (iv v2)] → W p l e rm_X1_copyFrom s m args below meth c H locs 0 0 Q (F0 m 7 ls []) := by
  intro n; induction n with
  | zero => intros; rename_i hwp _ _; exact hwp.elim
  | succ n ih =>
    intro v2 σ H locs ls hwp hw hl
    refine r_iload_n C dX1_copyFrom_7 hl rfl ?_
    refine r_aload_n C dX1_copyFrom_8 hl rfl ?_
    refine r_get C hw clX1 4 rfl 3 3 rfl rfl (Nat.le_of_ble_eq_true rfl) hi_X1_copyFrom_X1 hf_X1_copyFrom_7 dX1_copyFrom_9 ?_
    obtain ⟨ra, rb, hT, hF⟩ := hwp
    refine r_icmp_ge C (tgt := 44) dX1_copyFrom_12 rfl ra rb (fun hc => ?_) (fun hc => ?_)
    · have hwp := hT hc
      exact hR _ _ _ _ _ dX1_copyFrom_44 hwp hw
    · have hwp := hF hc
      refine r_aload_n C dX1_copyFrom_15 hl rfl ?_
      refine r_aload_n C dX1_copyFrom_16 hl rfl ?_
      refine r_getr C hw clX1 4 rfl 0 5 rfl (Nat.le_of_ble_eq_true rfl) hi_X1_copyFrom_X1 hf_X1_copyFrom_13 dX1_copyFrom_17 ?_
      refine r_iload_n C dX1_copyFrom_20 hl rfl ?_
      obtain ⟨h0, h1, hwp⟩ := hwp
      refine r_iald C hw 5 rfl hN h0 h1 dX1_copyFrom_21 ?_
      refine r_aload_n C dX1_copyFrom_22 hl rfl ?_
      refine r_getr C hw clX1 4 rfl 1 6 rfl (Nat.le_of_ble_eq_true rfl) hi_X1_copyFrom_X1 hf_X1_copyFrom_17 dX1_copyFrom_23 ?_
      refine r_iload_n C dX1_copyFrom_26 hl rfl ?_
      obtain ⟨h0, h1, hwp⟩ := hwp
      refine r_iald C hw 6 rfl hN h0 h1 dX1_copyFrom_27 ?_
      refine r_aload_n C dX1_copyFrom_28 hl rfl ?_
      refine r_getr C hw clX1 4 rfl 2 7 rfl (Nat.le_of_ble_eq_true rfl) hi_X1_copyFrom_X1 hf_X1_copyFrom_20 dX1_copyFrom_29 ?_
      refine r_iload_n C dX1_copyFrom_32 hl rfl ?_
      obtain ⟨h0, h1, hwp⟩ := hwp
      refine r_iald C hw 7 rfl hN h0 h1 dX1_copyFrom_33 ?_
      refine r_cI hA hw (sb_HR2_HR_0_2 N) (run_v C hw (sb_HR2_HR_0_2 N) clX1 rfl (c_X1_append hN hwp) (cwV 3 C.2.2.2.2.1 gX1_copyFrom_X1_append rfl rfl rfl hd_X1_append ⟨Nat.le_of_ble_eq_true rfl, Nat.le_of_ble_eq_true rfl⟩) rfl rfl rfl hl dX1_copyFrom_34 ⟨Nat.zero_le _, Nat.zero_le _⟩) (fun r σ H locs hwp hw => ?_)
      have hwp := hwp _ rfl
      refine r_pop C dX1_copyFrom_37 rfl ?_
      refine r_iinc C dX1_copyFrom_38 hl rfl (Nat.le_of_ble_eq_true rfl) rfl (fun ls hl => ?_)
      refine r_goto C (tgt := 7) dX1_copyFrom_41 rfl ?_
      exact ih hwp hw (lh_mask hl [true, true, true])
set_option maxRecDepth 100000 in
theorem b_X1_copyFrom_0 {N : Nat} {post : St → Prop} (C : cx p s m args meth c wsX1_copyFrom RX1 cX1_copyFrom 3 none D cA) (hA : ∀ q, s.heap.size ≤ q → A q) (hR : RtV p l e rm_X1_copyFrom s m args below meth c Q cX1_copyFrom D cA (K_HR2 N) h A post) (hN : Nat.ble (N + 1) 2147483648 = true) : ∀ {σ : St} {H : Heap} {locs : List Loc} {ls : Array Slot}, wp_X1_copyFrom N σ post → wd D cA (K_HR2 N) h σ A s.heap H locs → lh ls 3 [some (.ref (h 0)), some (.ref (h 4)), none] → W p l e rm_X1_copyFrom s m args below meth c H locs 0 0 Q (F0 m 0 ls []) := by
  intro σ H locs ls hwp hw hl
  refine r_aload_n C dX1_copyFrom_0 hl rfl ?_
  refine r_const C dX1_copyFrom_1 ?_
  refine r_put C hw clX1 0 rfl 3 3 rfl rfl (Nat.le_of_ble_eq_true rfl) hi_X1_copyFrom_X1 hf_X1_copyFrom_7 rfl ⟨nar_i _, fit_i _⟩ dX1_copyFrom_2 (fun H locs hw => ?_)
  have hwp := hwp _ rfl
  refine r_const C dX1_copyFrom_5 ?_
  refine r_istore_n C dX1_copyFrom_6 hl (Nat.le_of_ble_eq_true rfl) (Nat.le_of_ble_eq_true rfl) rfl (fun ls hl => ?_)
  obtain ⟨n9, hwp⟩ := hwp
  exact b_X1_copyFrom_7 C hA hR hN n9 hwp hw (lh_mask hl [true, true, true])
set_option maxRecDepth 100000 in
theorem c_X1_copyFrom {N : Nat} {l : Launch} {D : va_G} {cA : FieldType → ClassId} {h : Nat → Nat} {σ : St} {sz : Nat} {post : St → Prop} (hN : Nat.ble (N + 1) 2147483648 = true) (hwp : wp_X1_copyFrom N σ post) : Met l yX1_copyFrom wsX1_copyFrom rm_X1_copyFrom (va_Pc [.ref (h 0), .ref (h 4)] (preS D cA (K_HR2 N) h σ sz)) (QV D cA (K_HR2 N) h sz post) 0 0 (aA (K_HR2 N).length h sz) := by
  refine mk_met (cc := cX1_copyFrom) (nL := 3) (ret := none) (own := RX1) 1 (by decide) rfl rfl rfl rfl ?_
  intro p e s m args below meth c ls hsz C hw hl hA
  subst hsz
  exact b_X1_copyFrom_0 C hA (rt_v C _) hN hwp hw hl
end
