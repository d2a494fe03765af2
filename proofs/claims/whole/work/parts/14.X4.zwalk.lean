section
variable {p : Program} {l : Launch} {e : Env} {s : State} {m : MethodId} {args : Array Value} {below : List Frame} {meth : Method} {c : Code} {Q : State → Prop} {D : va_G} {cA : FieldType → ClassId} {h : Nat → Nat} {A : Nat → Prop}
-- X4_begin
theorem hi_X4_begin_X1 : ∀ w ∈ u_ws RX1 TX1 4, w ∈ wsX4_begin := by decide +kernel
theorem hi_X4_begin_X4 : ∀ w ∈ u_ws RX4 TX4 11, w ∈ wsX4_begin := by decide +kernel
theorem hf_X4_begin_52 : Cond.fieldLink RX4 52 (TX1 3).1 (TX1 3).2.1 (TX1 3).2.2.1 ∈ wsX4_begin := by decide +kernel
theorem hf_X4_begin_9 : Cond.fieldLink RX4 9 (TX4 0).1 (TX4 0).2.1 (TX4 0).2.2.1 ∈ wsX4_begin := by decide +kernel
theorem hf_X4_begin_19 : Cond.fieldLink RX4 19 (TX4 2).1 (TX4 2).2.1 (TX4 2).2.2.1 ∈ wsX4_begin := by decide +kernel
theorem hf_X4_begin_22 : Cond.fieldLink RX4 22 (TX4 3).1 (TX4 3).2.1 (TX4 3).2.2.1 ∈ wsX4_begin := by decide +kernel
theorem hf_X4_begin_25 : Cond.fieldLink RX4 25 (TX4 4).1 (TX4 4).2.1 (TX4 4).2.2.1 ∈ wsX4_begin := by decide +kernel
theorem hf_X4_begin_28 : Cond.fieldLink RX4 28 (TX4 5).1 (TX4 5).2.1 (TX4 5).2.2.1 ∈ wsX4_begin := by decide +kernel
theorem hf_X4_begin_31 : Cond.fieldLink RX4 31 (TX4 6).1 (TX4 6).2.1 (TX4 6).2.2.1 ∈ wsX4_begin := by decide +kernel
theorem hf_X4_begin_34 : Cond.fieldLink RX4 34 (TX4 7).1 (TX4 7).2.1 (TX4 7).2.2.1 ∈ wsX4_begin := by decide +kernel
theorem hf_X4_begin_42 : Cond.fieldLink RX4 42 (TX4 8).1 (TX4 8).2.1 (TX4 8).2.2.1 ∈ wsX4_begin := by decide +kernel
theorem hf_X4_begin_46 : Cond.fieldLink RX4 46 (TX4 9).1 (TX4 9).2.1 (TX4 9).2.2.1 ∈ wsX4_begin := by decide +kernel
theorem hf_X4_begin_49 : Cond.fieldLink RX4 49 (TX4 10).1 (TX4 10).2.1 (TX4 10).2.2.1 ∈ wsX4_begin := by decide +kernel
def rm_X4_begin : Room := { frames := 0, cells := 0, slots := 0, locals := 0 }
set_option maxRecDepth 100000 in
theorem b_X4_begin_48 {post : St → Prop} (C : cx p s m args meth c wsX4_begin RX4 cX4_begin 3 none D cA) (hA : ∀ q, s.heap.size ≤ q → A q) (hR : RtV p l e rm_X4_begin s m args below meth c Q cX4_begin D cA K_Setup h A post) : ∀ (n : Nat) {v2 : Int} {σ : St} {H : Heap} {locs : List Loc} {ls : Array Slot}, wp_X4_begin_48 post n v2 σ → wd D cA K_Setup h σ A s.heap H locs → lh ls 3 [some (.ref (h 0)), none, some (iv v2)] → W p l e rm_X4_begin s m args below meth c H locs 0 0 Q (F0 m 48 ls []) := by
  intro n; induction n with
  | zero => intros; rename_i hwp _ _; exact hwp.elim
  | succ n ih =>
    intro v2 σ H locs ls hwp hw hl
    refine r_iload_n C dX4_begin_48 hl rfl ?_
    refine r_bipush C dX4_begin_49 bpb_8 ?_
    obtain ⟨ra, hT, hF⟩ := hwp
    refine r_icmp_ge C (tgt := 67) dX4_begin_51 rfl ra (by decide) (fun hc => ?_) (fun hc => ?_)
    · have hwp := hT hc
      refine r_aload_n C dX4_begin_67 hl rfl ?_
      refine r_getr C hw clX4 0 rfl 8 4 rfl (Nat.le_of_ble_eq_true rfl) hi_X4_begin_X4 hf_X4_begin_42 dX4_begin_68 ?_
      refine r_const C dX4_begin_71 ?_
      refine r_put C hw clX1 4 rfl 3 3 rfl rfl (Nat.le_of_ble_eq_true rfl) hi_X4_begin_X1 hf_X4_begin_52 rfl ⟨nar_i _, fit_i _⟩ dX4_begin_72 (fun H locs hw => ?_)
      have hwp := hwp _ rfl
      refine r_aload_n C dX4_begin_75 hl rfl ?_
      refine r_getr C hw clX4 0 rfl 9 8 rfl (Nat.le_of_ble_eq_true rfl) hi_X4_begin_X4 hf_X4_begin_46 dX4_begin_76 ?_
      refine r_const C dX4_begin_79 ?_
      refine r_put C hw clX1 8 rfl 3 3 rfl rfl (Nat.le_of_ble_eq_true rfl) hi_X4_begin_X1 hf_X4_begin_52 rfl ⟨nar_i _, fit_i _⟩ dX4_begin_80 (fun H locs hw => ?_)
      have hwp := hwp _ rfl
      refine r_aload_n C dX4_begin_83 hl rfl ?_
      refine r_getr C hw clX4 0 rfl 10 12 rfl (Nat.le_of_ble_eq_true rfl) hi_X4_begin_X4 hf_X4_begin_49 dX4_begin_84 ?_
      refine r_const C dX4_begin_87 ?_
      refine r_put C hw clX1 12 rfl 3 3 rfl rfl (Nat.le_of_ble_eq_true rfl) hi_X4_begin_X1 hf_X4_begin_52 rfl ⟨nar_i _, fit_i _⟩ dX4_begin_88 (fun H locs hw => ?_)
      have hwp := hwp _ rfl
      exact hR _ _ _ _ _ dX4_begin_91 hwp hw
    · have hwp := hF hc
      refine r_aload_n C dX4_begin_54 hl rfl ?_
      refine r_getr C hw clX4 0 rfl 7 3 rfl (Nat.le_of_ble_eq_true rfl) hi_X4_begin_X4 hf_X4_begin_34 dX4_begin_55 ?_
      refine r_iload_n C dX4_begin_58 hl rfl ?_
      refine r_const C dX4_begin_59 ?_
      obtain ⟨h0, h1, hwp⟩ := hwp
      refine r_iast C hw 3 rfl rfl h0 h1 dX4_begin_60 (fun H locs hw => ?_)
      have hwp := hwp _ rfl
      refine r_iinc C dX4_begin_61 hl rfl (Nat.le_of_ble_eq_true rfl) rfl (fun ls hl => ?_)
      refine r_goto C (tgt := 48) dX4_begin_64 rfl ?_
      exact ih hwp hw (lh_mask hl [true, false, true])
set_option maxRecDepth 100000 in
theorem b_X4_begin_27 {post : St → Prop} (C : cx p s m args meth c wsX4_begin RX4 cX4_begin 3 none D cA) (hA : ∀ q, s.heap.size ≤ q → A q) (hR : RtV p l e rm_X4_begin s m args below meth c Q cX4_begin D cA K_Setup h A post) : ∀ (n : Nat) {v2 : Int} {σ : St} {H : Heap} {locs : List Loc} {ls : Array Slot}, wp_X4_begin_27 post n v2 σ → wd D cA K_Setup h σ A s.heap H locs → lh ls 3 [some (.ref (h 0)), none, some (iv v2)] → W p l e rm_X4_begin s m args below meth c H locs 0 0 Q (F0 m 27 ls []) := by
  intro n; induction n with
  | zero => intros; rename_i hwp _ _; exact hwp.elim
  | succ n ih =>
    intro v2 σ H locs ls hwp hw hl
    refine r_iload_n C dX4_begin_27 hl rfl ?_
    refine r_bipush C dX4_begin_28 bpb_12 ?_
    obtain ⟨ra, hT, hF⟩ := hwp
    refine r_icmp_ge C (tgt := 46) dX4_begin_30 rfl ra (by decide) (fun hc => ?_) (fun hc => ?_)
    · have hwp := hT hc
      refine r_const C dX4_begin_46 ?_
      refine r_istore_n C dX4_begin_47 hl (Nat.le_of_ble_eq_true rfl) (Nat.le_of_ble_eq_true rfl) rfl (fun ls hl => ?_)
      obtain ⟨n9, hwp⟩ := hwp
      exact b_X4_begin_48 C hA hR n9 hwp hw (lh_mask hl [true, false, true])
    · have hwp := hF hc
      refine r_aload_n C dX4_begin_33 hl rfl ?_
      refine r_getr C hw clX4 0 rfl 5 2 rfl (Nat.le_of_ble_eq_true rfl) hi_X4_begin_X4 hf_X4_begin_28 dX4_begin_34 ?_
      refine r_iload_n C dX4_begin_37 hl rfl ?_
      refine r_const C dX4_begin_38 ?_
      obtain ⟨h0, h1, hwp⟩ := hwp
      refine r_iast C hw 2 rfl rfl h0 h1 dX4_begin_39 (fun H locs hw => ?_)
      have hwp := hwp _ rfl
      refine r_iinc C dX4_begin_40 hl rfl (Nat.le_of_ble_eq_true rfl) rfl (fun ls hl => ?_)
      refine r_goto C (tgt := 27) dX4_begin_43 rfl ?_
      exact ih hwp hw (lh_mask hl [true, false, true])
set_option maxRecDepth 100000 in
theorem b_X4_begin_0 {post : St → Prop} (C : cx p s m args meth c wsX4_begin RX4 cX4_begin 3 none D cA) (hA : ∀ q, s.heap.size ≤ q → A q) (hR : RtV p l e rm_X4_begin s m args below meth c Q cX4_begin D cA K_Setup h A post) : ∀ {v1 : Int} {σ : St} {H : Heap} {locs : List Loc} {ls : Array Slot}, wp_X4_begin σ v1 post → wd D cA K_Setup h σ A s.heap H locs → lh ls 3 [some (.ref (h 0)), some (iv v1), none] → W p l e rm_X4_begin s m args below meth c H locs 0 0 Q (F0 m 0 ls []) := by
  intro v1 σ H locs ls hwp hw hl
  refine r_aload_n C dX4_begin_0 hl rfl ?_
  refine r_iload_n C dX4_begin_1 hl rfl ?_
  refine r_put C hw clX4 0 rfl 0 0 rfl rfl (Nat.le_of_ble_eq_true rfl) hi_X4_begin_X4 hf_X4_begin_9 rfl ⟨nar_i _, fit_i _⟩ dX4_begin_2 (fun H locs hw => ?_)
  have hwp := hwp _ rfl
  refine r_aload_n C dX4_begin_5 hl rfl ?_
  refine r_const C dX4_begin_6 ?_
  refine r_put C hw clX4 0 rfl 2 2 rfl rfl (Nat.le_of_ble_eq_true rfl) hi_X4_begin_X4 hf_X4_begin_19 rfl ⟨nar_i _, fit_i _⟩ dX4_begin_7 (fun H locs hw => ?_)
  have hwp := hwp _ rfl
  refine r_aload_n C dX4_begin_10 hl rfl ?_
  refine r_const C dX4_begin_11 ?_
  refine r_put C hw clX4 0 rfl 3 3 rfl rfl (Nat.le_of_ble_eq_true rfl) hi_X4_begin_X4 hf_X4_begin_22 rfl ⟨nar_i _, fit_i _⟩ dX4_begin_12 (fun H locs hw => ?_)
  have hwp := hwp _ rfl
  refine r_aload_n C dX4_begin_15 hl rfl ?_
  refine r_const C dX4_begin_16 ?_
  refine r_put C hw clX4 0 rfl 4 4 rfl rfl (Nat.le_of_ble_eq_true rfl) hi_X4_begin_X4 hf_X4_begin_25 rfl ⟨nar_i _, fit_i _⟩ dX4_begin_17 (fun H locs hw => ?_)
  have hwp := hwp _ rfl
  refine r_aload_n C dX4_begin_20 hl rfl ?_
  refine r_const C dX4_begin_21 ?_
  refine r_put C hw clX4 0 rfl 6 6 rfl rfl (Nat.le_of_ble_eq_true rfl) hi_X4_begin_X4 hf_X4_begin_31 rfl ⟨nar_i _, fit_i _⟩ dX4_begin_22 (fun H locs hw => ?_)
  have hwp := hwp _ rfl
  refine r_const C dX4_begin_25 ?_
  refine r_istore_n C dX4_begin_26 hl (Nat.le_of_ble_eq_true rfl) (Nat.le_of_ble_eq_true rfl) rfl (fun ls hl => ?_)
  obtain ⟨n9, hwp⟩ := hwp
  exact b_X4_begin_27 C hA hR n9 hwp hw (lh_mask hl [true, false, true])
set_option maxRecDepth 100000 in
theorem c_X4_begin {l : Launch} {D : va_G} {cA : FieldType → ClassId} {h : Nat → Nat} {σ : St} {sz : Nat} {v1 : Int} {post : St → Prop} (hwp : wp_X4_begin σ v1 post) : Met l yX4_begin wsX4_begin rm_X4_begin (va_Pc [.ref (h 0), iv v1] (preS D cA K_Setup h σ sz)) (QV D cA K_Setup h sz post) 0 0 (aA K_Setup.length h sz) := by
  refine mk_met (cc := cX4_begin) (nL := 3) (ret := none) (own := RX4) 1 (by decide) rfl rfl rfl rfl ?_
  intro p e s m args below meth c ls hsz C hw hl hA
  subst hsz
  exact b_X4_begin_0 C hA (rt_v C _) hwp hw hl
-- X4_copyFrom
theorem hi_X4_copyFrom_X4 : ∀ w ∈ u_ws RX4 TX4 11, w ∈ wsX4_copyFrom := by decide +kernel
theorem hf_X4_copyFrom_9 : Cond.fieldLink RX4 9 (TX4 0).1 (TX4 0).2.1 (TX4 0).2.2.1 ∈ wsX4_copyFrom := by decide +kernel
theorem hf_X4_copyFrom_15 : Cond.fieldLink RX4 15 (TX4 1).1 (TX4 1).2.1 (TX4 1).2.2.1 ∈ wsX4_copyFrom := by decide +kernel
theorem hf_X4_copyFrom_19 : Cond.fieldLink RX4 19 (TX4 2).1 (TX4 2).2.1 (TX4 2).2.2.1 ∈ wsX4_copyFrom := by decide +kernel
theorem hf_X4_copyFrom_22 : Cond.fieldLink RX4 22 (TX4 3).1 (TX4 3).2.1 (TX4 3).2.2.1 ∈ wsX4_copyFrom := by decide +kernel
theorem hf_X4_copyFrom_25 : Cond.fieldLink RX4 25 (TX4 4).1 (TX4 4).2.1 (TX4 4).2.2.1 ∈ wsX4_copyFrom := by decide +kernel
theorem hf_X4_copyFrom_28 : Cond.fieldLink RX4 28 (TX4 5).1 (TX4 5).2.1 (TX4 5).2.2.1 ∈ wsX4_copyFrom := by decide +kernel
theorem hf_X4_copyFrom_31 : Cond.fieldLink RX4 31 (TX4 6).1 (TX4 6).2.1 (TX4 6).2.2.1 ∈ wsX4_copyFrom := by decide +kernel
theorem hf_X4_copyFrom_34 : Cond.fieldLink RX4 34 (TX4 7).1 (TX4 7).2.1 (TX4 7).2.2.1 ∈ wsX4_copyFrom := by decide +kernel
theorem hf_X4_copyFrom_42 : Cond.fieldLink RX4 42 (TX4 8).1 (TX4 8).2.1 (TX4 8).2.2.1 ∈ wsX4_copyFrom := by decide +kernel
theorem hf_X4_copyFrom_46 : Cond.fieldLink RX4 46 (TX4 9).1 (TX4 9).2.1 (TX4 9).2.2.1 ∈ wsX4_copyFrom := by decide +kernel
theorem hf_X4_copyFrom_49 : Cond.fieldLink RX4 49 (TX4 10).1 (TX4 10).2.1 (TX4 10).2.2.1 ∈ wsX4_copyFrom := by decide +kernel
def rm_X4_copyFrom : Room := { frames := 2, cells := 0, slots := 0, locals := 100 }
set_option maxRecDepth 100000 in
theorem b_X4_copyFrom_0 {post : St → Prop} (C : cx p s m args meth c wsX4_copyFrom RX4 cX4_copyFrom 2 none D cA) (hA : ∀ q, s.heap.size ≤ q → A q) (hR : RtV p l e rm_X4_copyFrom s m args below meth c Q cX4_copyFrom D cA K_Setup2 h A post) : ∀ {σ : St} {H : Heap} {locs : List Loc} {ls : Array Slot}, wp_X4_copyFrom σ post → wd D cA K_Setup2 h σ A s.heap H locs → lh ls 2 [some (.ref (h 0)), some (.ref (h 16))] → W p l e rm_X4_copyFrom s m args below meth c H locs 0 0 Q (F0 m 0 ls []) := by
  intro σ H locs ls hwp hw hl
  refine r_aload_n C dX4_copyFrom_0 hl rfl ?_
  refine r_aload_n C dX4_copyFrom_1 hl rfl ?_
  refine r_get C hw clX4 16 rfl 0 0 rfl rfl (Nat.le_of_ble_eq_true rfl) hi_X4_copyFrom_X4 hf_X4_copyFrom_9 dX4_copyFrom_2 ?_
  refine r_put C hw clX4 0 rfl 0 0 rfl rfl (Nat.le_of_ble_eq_true rfl) hi_X4_copyFrom_X4 hf_X4_copyFrom_9 rfl ⟨nar_i _, fit_i _⟩ dX4_copyFrom_5 (fun H locs hw => ?_)
  have hwp := hwp _ rfl
  refine r_aload_n C dX4_copyFrom_8 hl rfl ?_
  refine r_aload_n C dX4_copyFrom_9 hl rfl ?_
  refine r_get C hw clX4 16 rfl 2 2 rfl rfl (Nat.le_of_ble_eq_true rfl) hi_X4_copyFrom_X4 hf_X4_copyFrom_19 dX4_copyFrom_10 ?_
  refine r_put C hw clX4 0 rfl 2 2 rfl rfl (Nat.le_of_ble_eq_true rfl) hi_X4_copyFrom_X4 hf_X4_copyFrom_19 rfl ⟨nar_i _, fit_i _⟩ dX4_copyFrom_13 (fun H locs hw => ?_)
  have hwp := hwp _ rfl
  refine r_aload_n C dX4_copyFrom_16 hl rfl ?_
  refine r_aload_n C dX4_copyFrom_17 hl rfl ?_
  refine r_get C hw clX4 16 rfl 3 3 rfl rfl (Nat.le_of_ble_eq_true rfl) hi_X4_copyFrom_X4 hf_X4_copyFrom_22 dX4_copyFrom_18 ?_
  refine r_put C hw clX4 0 rfl 3 3 rfl rfl (Nat.le_of_ble_eq_true rfl) hi_X4_copyFrom_X4 hf_X4_copyFrom_22 rfl ⟨nar_i _, fit_i _⟩ dX4_copyFrom_21 (fun H locs hw => ?_)
  have hwp := hwp _ rfl
  refine r_aload_n C dX4_copyFrom_24 hl rfl ?_
  refine r_aload_n C dX4_copyFrom_25 hl rfl ?_
  refine r_get C hw clX4 16 rfl 4 4 rfl rfl (Nat.le_of_ble_eq_true rfl) hi_X4_copyFrom_X4 hf_X4_copyFrom_25 dX4_copyFrom_26 ?_
  refine r_put C hw clX4 0 rfl 4 4 rfl rfl (Nat.le_of_ble_eq_true rfl) hi_X4_copyFrom_X4 hf_X4_copyFrom_25 rfl ⟨nar_i _, fit_i _⟩ dX4_copyFrom_29 (fun H locs hw => ?_)
  have hwp := hwp _ rfl
  refine r_aload_n C dX4_copyFrom_32 hl rfl ?_
  refine r_aload_n C dX4_copyFrom_33 hl rfl ?_
  refine r_get C hw clX4 16 rfl 6 6 rfl rfl (Nat.le_of_ble_eq_true rfl) hi_X4_copyFrom_X4 hf_X4_copyFrom_31 dX4_copyFrom_34 ?_
  refine r_put C hw clX4 0 rfl 6 6 rfl rfl (Nat.le_of_ble_eq_true rfl) hi_X4_copyFrom_X4 hf_X4_copyFrom_31 rfl ⟨nar_i _, fit_i _⟩ dX4_copyFrom_37 (fun H locs hw => ?_)
  have hwp := hwp _ rfl
  refine r_aload_n C dX4_copyFrom_40 hl rfl ?_
  refine r_getr C hw clX4 16 rfl 1 17 rfl (Nat.le_of_ble_eq_true rfl) hi_X4_copyFrom_X4 hf_X4_copyFrom_15 dX4_copyFrom_41 ?_
  refine r_const C dX4_copyFrom_44 ?_
  refine r_aload_n C dX4_copyFrom_45 hl rfl ?_
  refine r_getr C hw clX4 0 rfl 1 1 rfl (Nat.le_of_ble_eq_true rfl) hi_X4_copyFrom_X4 hf_X4_copyFrom_15 dX4_copyFrom_46 ?_
  refine r_const C dX4_copyFrom_49 ?_
  refine r_bipush C dX4_copyFrom_50 bpb_16 ?_
  refine r_copy_int C hw hl 17 1 rfl rfl rfl rfl (by decide +kernel) (by decide +kernel) (by decide +kernel) (by decide +kernel) (by decide) (by decide) (by decide) (by decide) (by decide) (Nat.le_of_ble_eq_true rfl) (Nat.le_of_ble_eq_true rfl) dX4_copyFrom_52 (fun H locs hw => ?_)
  have hwp := hwp _ rfl
  refine r_aload_n C dX4_copyFrom_55 hl rfl ?_
  refine r_getr C hw clX4 16 rfl 5 18 rfl (Nat.le_of_ble_eq_true rfl) hi_X4_copyFrom_X4 hf_X4_copyFrom_28 dX4_copyFrom_56 ?_
  refine r_const C dX4_copyFrom_59 ?_
  refine r_aload_n C dX4_copyFrom_60 hl rfl ?_
  refine r_getr C hw clX4 0 rfl 5 2 rfl (Nat.le_of_ble_eq_true rfl) hi_X4_copyFrom_X4 hf_X4_copyFrom_28 dX4_copyFrom_61 ?_
  refine r_const C dX4_copyFrom_64 ?_
  refine r_bipush C dX4_copyFrom_65 bpb_12 ?_
  refine r_copy_int C hw hl 18 2 rfl rfl rfl rfl (by decide +kernel) (by decide +kernel) (by decide +kernel) (by decide +kernel) (by decide) (by decide) (by decide) (by decide) (by decide) (Nat.le_of_ble_eq_true rfl) (Nat.le_of_ble_eq_true rfl) dX4_copyFrom_67 (fun H locs hw => ?_)
  have hwp := hwp _ rfl
  refine r_aload_n C dX4_copyFrom_70 hl rfl ?_
  refine r_getr C hw clX4 16 rfl 7 19 rfl (Nat.le_of_ble_eq_true rfl) hi_X4_copyFrom_X4 hf_X4_copyFrom_34 dX4_copyFrom_71 ?_
  refine r_const C dX4_copyFrom_74 ?_
  refine r_aload_n C dX4_copyFrom_75 hl rfl ?_
  refine r_getr C hw clX4 0 rfl 7 3 rfl (Nat.le_of_ble_eq_true rfl) hi_X4_copyFrom_X4 hf_X4_copyFrom_34 dX4_copyFrom_76 ?_
  refine r_const C dX4_copyFrom_79 ?_
  refine r_bipush C dX4_copyFrom_80 bpb_8 ?_
  refine r_copy_int C hw hl 19 3 rfl rfl rfl rfl (by decide +kernel) (by decide +kernel) (by decide +kernel) (by decide +kernel) (by decide) (by decide) (by decide) (by decide) (by decide) (Nat.le_of_ble_eq_true rfl) (Nat.le_of_ble_eq_true rfl) dX4_copyFrom_82 (fun H locs hw => ?_)
  have hwp := hwp _ rfl
  refine r_aload_n C dX4_copyFrom_85 hl rfl ?_
  refine r_getr C hw clX4 0 rfl 8 4 rfl (Nat.le_of_ble_eq_true rfl) hi_X4_copyFrom_X4 hf_X4_copyFrom_42 dX4_copyFrom_86 ?_
  refine r_aload_n C dX4_copyFrom_89 hl rfl ?_
  refine r_getr C hw clX4 16 rfl 8 20 rfl (Nat.le_of_ble_eq_true rfl) hi_X4_copyFrom_X4 hf_X4_copyFrom_42 dX4_copyFrom_90 ?_
  refine r_cV hA hw sb_Setup2_HR2_4_3 (run_v C hw sb_Setup2_HR2_4_3 clX1 rfl (c_X1_copyFrom rfl hwp) (cwV 1 C.2.2.2.2.1 gX4_copyFrom_X1_copyFrom rfl rfl rfl hd_X1_copyFrom ⟨Nat.le_of_ble_eq_true rfl, Nat.le_of_ble_eq_true rfl⟩) rfl rfl rfl hl dX4_copyFrom_93 ⟨Nat.zero_le _, Nat.zero_le _⟩) (fun σ H locs hwp hw => ?_)
  have hwp := hwp _ rfl
  refine r_aload_n C dX4_copyFrom_96 hl rfl ?_
  refine r_getr C hw clX4 0 rfl 9 8 rfl (Nat.le_of_ble_eq_true rfl) hi_X4_copyFrom_X4 hf_X4_copyFrom_46 dX4_copyFrom_97 ?_
  refine r_aload_n C dX4_copyFrom_100 hl rfl ?_
  refine r_getr C hw clX4 16 rfl 9 24 rfl (Nat.le_of_ble_eq_true rfl) hi_X4_copyFrom_X4 hf_X4_copyFrom_46 dX4_copyFrom_101 ?_
  refine r_cV hA hw sb_Setup2_HR2_8_4 (run_v C hw sb_Setup2_HR2_8_4 clX1 rfl (c_X1_copyFrom rfl hwp) (cwV 1 C.2.2.2.2.1 gX4_copyFrom_X1_copyFrom rfl rfl rfl hd_X1_copyFrom ⟨Nat.le_of_ble_eq_true rfl, Nat.le_of_ble_eq_true rfl⟩) rfl rfl rfl hl dX4_copyFrom_104 ⟨Nat.zero_le _, Nat.zero_le _⟩) (fun σ H locs hwp hw => ?_)
  have hwp := hwp _ rfl
  refine r_aload_n C dX4_copyFrom_107 hl rfl ?_
  refine r_getr C hw clX4 0 rfl 10 12 rfl (Nat.le_of_ble_eq_true rfl) hi_X4_copyFrom_X4 hf_X4_copyFrom_49 dX4_copyFrom_108 ?_
  refine r_aload_n C dX4_copyFrom_111 hl rfl ?_
  refine r_getr C hw clX4 16 rfl 10 28 rfl (Nat.le_of_ble_eq_true rfl) hi_X4_copyFrom_X4 hf_X4_copyFrom_49 dX4_copyFrom_112 ?_
  refine r_cV hA hw sb_Setup2_HR2_12_5 (run_v C hw sb_Setup2_HR2_12_5 clX1 rfl (c_X1_copyFrom rfl hwp) (cwV 1 C.2.2.2.2.1 gX4_copyFrom_X1_copyFrom rfl rfl rfl hd_X1_copyFrom ⟨Nat.le_of_ble_eq_true rfl, Nat.le_of_ble_eq_true rfl⟩) rfl rfl rfl hl dX4_copyFrom_115 ⟨Nat.zero_le _, Nat.zero_le _⟩) (fun σ H locs hwp hw => ?_)
  have hwp := hwp _ rfl
  exact hR _ _ _ _ _ dX4_copyFrom_118 hwp hw
set_option maxRecDepth 100000 in
theorem c_X4_copyFrom {l : Launch} {D : va_G} {cA : FieldType → ClassId} {h : Nat → Nat} {σ : St} {sz : Nat} {post : St → Prop} (hwp : wp_X4_copyFrom σ post) : Met l yX4_copyFrom wsX4_copyFrom rm_X4_copyFrom (va_Pc [.ref (h 0), .ref (h 16)] (preS D cA K_Setup2 h σ sz)) (QV D cA K_Setup2 h sz post) 0 0 (aA K_Setup2.length h sz) := by
  refine mk_met (cc := cX4_copyFrom) (nL := 2) (ret := none) (own := RX4) 0 (by decide) rfl rfl rfl rfl ?_
  intro p e s m args below meth c ls hsz C hw hl hA
  subst hsz
  exact b_X4_copyFrom_0 C hA (rt_v C _) hwp hw hl
-- X4_calledChange
theorem hi_X4_calledChange_X4 : ∀ w ∈ u_ws RX4 TX4 11, w ∈ wsX4_calledChange := by decide +kernel
theorem hf_X4_calledChange_22 : Cond.fieldLink RX4 22 (TX4 3).1 (TX4 3).2.1 (TX4 3).2.2.1 ∈ wsX4_calledChange := by decide +kernel
theorem hf_X4_calledChange_25 : Cond.fieldLink RX4 25 (TX4 4).1 (TX4 4).2.1 (TX4 4).2.2.1 ∈ wsX4_calledChange := by decide +kernel
def rm_X4_calledChange : Room := { frames := 0, cells := 0, slots := 0, locals := 0 }
set_option maxRecDepth 100000 in
theorem b_X4_calledChange_0 {σ : St} {post : Int → Prop} (C : cx p s m args meth c wsX4_calledChange RX4 cX4_calledChange 2 (some .int) D cA) (hA : ∀ q, s.heap.size ≤ q → A q) (hR : RtI p l e rm_X4_calledChange s m args below meth c Q cX4_calledChange D cA K_Setup h A (fun _ => True) (fun r σ' => σ' = σ ∧ post r)) : ∀ {v1 : Int} {H : Heap} {locs : List Loc} {ls : Array Slot}, wp_X4_calledChange σ v1 post → wd D cA K_Setup h σ A s.heap H locs → lh ls 2 [some (.ref (h 0)), some (iv v1)] → W p l e rm_X4_calledChange s m args below meth c H locs 0 0 Q (F0 m 0 ls []) := by
  intro v1 H locs ls hwp hw hl
  refine r_iload_n C dX4_calledChange_0 hl rfl ?_
  obtain ⟨ra, hS0, hS1, hD⟩ := hwp
  rcases lk_1_2 ra with hc | hc | hc
  · have hwp := hS0 hc
    refine r_look C (tgt := 28) dX4_calledChange_1 ra rfl (by rw [hc] <;> rfl) rfl ?_
    refine r_aload_n C dX4_calledChange_28 hl rfl ?_
    refine r_get C hw clX4 0 rfl 3 3 rfl rfl (Nat.le_of_ble_eq_true rfl) hi_X4_calledChange_X4 hf_X4_calledChange_22 dX4_calledChange_29 ?_
    exact hR _ _ _ _ _ _ dX4_calledChange_32 trivial ⟨rfl, hwp⟩ hw
  · have hwp := hS1 hc
    refine r_look C (tgt := 33) dX4_calledChange_1 ra rfl (by rw [hc] <;> rfl) rfl ?_
    refine r_aload_n C dX4_calledChange_33 hl rfl ?_
    refine r_get C hw clX4 0 rfl 4 4 rfl rfl (Nat.le_of_ble_eq_true rfl) hi_X4_calledChange_X4 hf_X4_calledChange_25 dX4_calledChange_34 ?_
    exact hR _ _ _ _ _ _ dX4_calledChange_37 trivial ⟨rfl, hwp⟩ hw
  · have hwp := hD hc
    refine r_look C (tgt := 38) dX4_calledChange_1 ra rfl (lo_1_2 hc) rfl ?_
    refine r_const C dX4_calledChange_38 ?_
    exact hR _ _ _ _ _ _ dX4_calledChange_39 trivial ⟨rfl, hwp⟩ hw
set_option maxRecDepth 100000 in
theorem c_X4_calledChange {l : Launch} {D : va_G} {cA : FieldType → ClassId} {h : Nat → Nat} {σ : St} {sz : Nat} {v1 : Int} {post : Int → Prop} (hwp : wp_X4_calledChange σ v1 post) : Met l yX4_calledChange wsX4_calledChange rm_X4_calledChange (va_Pc [.ref (h 0), iv v1] (preS D cA K_Setup h σ sz)) (QI D cA K_Setup h sz (fun r σ' => σ' = σ ∧ post r)) 0 0 (aA K_Setup.length h sz) := by
  refine mk_met (cc := cX4_calledChange) (nL := 2) (ret := (some .int)) (own := RX4) 0 (by decide) rfl rfl rfl rfl ?_
  intro p e s m args below meth c ls hsz C hw hl hA
  subst hsz
  exact b_X4_calledChange_0 C hA (rt_i C _) hwp hw hl
-- X4_setCalledChange
theorem hi_X4_setCalledChange_X4 : ∀ w ∈ u_ws RX4 TX4 11, w ∈ wsX4_setCalledChange := by decide +kernel
theorem hf_X4_setCalledChange_22 : Cond.fieldLink RX4 22 (TX4 3).1 (TX4 3).2.1 (TX4 3).2.2.1 ∈ wsX4_setCalledChange := by decide +kernel
theorem hf_X4_setCalledChange_25 : Cond.fieldLink RX4 25 (TX4 4).1 (TX4 4).2.1 (TX4 4).2.2.1 ∈ wsX4_setCalledChange := by decide +kernel
def rm_X4_setCalledChange : Room := { frames := 0, cells := 0, slots := 0, locals := 0 }
set_option maxRecDepth 100000 in
theorem b_X4_setCalledChange_0 {post : St → Prop} (C : cx p s m args meth c wsX4_setCalledChange RX4 cX4_setCalledChange 3 none D cA) (hA : ∀ q, s.heap.size ≤ q → A q) (hR : RtV p l e rm_X4_setCalledChange s m args below meth c Q cX4_setCalledChange D cA K_Setup h A post) : ∀ {v1 v2 : Int} {σ : St} {H : Heap} {locs : List Loc} {ls : Array Slot}, wp_X4_setCalledChange σ v1 v2 post → wd D cA K_Setup h σ A s.heap H locs → lh ls 3 [some (.ref (h 0)), some (iv v1), some (iv v2)] → W p l e rm_X4_setCalledChange s m args below meth c H locs 0 0 Q (F0 m 0 ls []) := by
  intro v1 v2 σ H locs ls hwp hw hl
  refine r_iload_n C dX4_setCalledChange_0 hl rfl ?_
  refine r_const C dX4_setCalledChange_1 ?_
  obtain ⟨ra, hT, hF⟩ := hwp
  refine r_icmp_ne C (tgt := 13) dX4_setCalledChange_2 rfl ra (by decide) (fun hc => ?_) (fun hc => ?_)
  · have hwp := hT hc
    refine r_aload_n C dX4_setCalledChange_13 hl rfl ?_
    refine r_iload_n C dX4_setCalledChange_14 hl rfl ?_
    refine r_put C hw clX4 0 rfl 4 4 rfl rfl (Nat.le_of_ble_eq_true rfl) hi_X4_setCalledChange_X4 hf_X4_setCalledChange_25 rfl ⟨nar_i _, fit_i _⟩ dX4_setCalledChange_15 (fun H locs hw => ?_)
    have hwp := hwp _ rfl
    exact hR _ _ _ _ _ dX4_setCalledChange_18 hwp hw
  · have hwp := hF hc
    refine r_aload_n C dX4_setCalledChange_5 hl rfl ?_
    refine r_iload_n C dX4_setCalledChange_6 hl rfl ?_
    refine r_put C hw clX4 0 rfl 3 3 rfl rfl (Nat.le_of_ble_eq_true rfl) hi_X4_setCalledChange_X4 hf_X4_setCalledChange_22 rfl ⟨nar_i _, fit_i _⟩ dX4_setCalledChange_7 (fun H locs hw => ?_)
    have hwp := hwp _ rfl
    refine r_goto C (tgt := 18) dX4_setCalledChange_10 rfl ?_
    exact hR _ _ _ _ _ dX4_setCalledChange_18 hwp hw
set_option maxRecDepth 100000 in
theorem c_X4_setCalledChange {l : Launch} {D : va_G} {cA : FieldType → ClassId} {h : Nat → Nat} {σ : St} {sz : Nat} {v1 v2 : Int} {post : St → Prop} (hwp : wp_X4_setCalledChange σ v1 v2 post) : Met l yX4_setCalledChange wsX4_setCalledChange rm_X4_setCalledChange (va_Pc [.ref (h 0), iv v1, iv v2] (preS D cA K_Setup h σ sz)) (QV D cA K_Setup h sz post) 0 0 (aA K_Setup.length h sz) := by
  refine mk_met (cc := cX4_setCalledChange) (nL := 3) (ret := none) (own := RX4) 0 (by decide) rfl rfl rfl rfl ?_
  intro p e s m args below meth c ls hsz C hw hl hA
  subst hsz
  exact b_X4_setCalledChange_0 C hA (rt_v C _) hwp hw hl
-- X4_holdsPattern
theorem hi_X4_holdsPattern_X4 : ∀ w ∈ u_ws RX4 TX4 11, w ∈ wsX4_holdsPattern := by decide +kernel
theorem hf_X4_holdsPattern_9 : Cond.fieldLink RX4 9 (TX4 0).1 (TX4 0).2.1 (TX4 0).2.2.1 ∈ wsX4_holdsPattern := by decide +kernel
theorem hf_X4_holdsPattern_34 : Cond.fieldLink RX4 34 (TX4 7).1 (TX4 7).2.1 (TX4 7).2.2.1 ∈ wsX4_holdsPattern := by decide +kernel
def rm_X4_holdsPattern : Room := { frames := 1, cells := 0, slots := 0, locals := 21 }
set_option maxRecDepth 100000 in
theorem b_X4_holdsPattern_34 {σ : St} {post : Int → Prop} (C : cx p s m args meth c wsX4_holdsPattern RX4 cX4_holdsPattern 4 (some .boolean) D cA) (hA : ∀ q, s.heap.size ≤ q → A q) (hR : RtI p l e rm_X4_holdsPattern s m args below meth c Q cX4_holdsPattern D cA K_Setup h A (fun x => x = 0 ∨ x = 1) (fun r σ' => σ' = σ ∧ post r)) {k2 : Int → Int → St → Prop} (hk2 : ∀ {v1 v2 : Int} {H : Heap} {locs : List Loc} {ls : Array Slot}, k2 v1 v2 σ → wd D cA K_Setup h σ A s.heap H locs → lh ls 4 [some (.ref (h 0)), some (iv v1), some (iv v2), none] → W p l e rm_X4_holdsPattern s m args below meth c H locs 0 0 Q (F0 m 2 ls [])) : ∀ {v1 v2 : Int} {H : Heap} {locs : List Loc} {ls : Array Slot}, wp_X4_holdsPattern_34 k2 post v1 v2 σ → wd D cA K_Setup h σ A s.heap H locs → lh ls 4 [some (.ref (h 0)), some (iv v1), some (iv v2), none] → W p l e rm_X4_holdsPattern s m args below meth c H locs 0 0 Q (F0 m 34 ls []) := by
  intro v1 v2 H locs ls hwp hw hl
  refine r_iinc C dX4_holdsPattern_34 hl rfl (Nat.le_of_ble_eq_true rfl) rfl (fun ls hl => ?_)
  refine r_goto C (tgt := 2) dX4_holdsPattern_37 rfl ?_
  exact hk2 hwp hw (lh_mask hl [true, true, true, false])
set_option maxRecDepth 100000 in
theorem b_X4_holdsPattern_2 {σ : St} {post : Int → Prop} (C : cx p s m args meth c wsX4_holdsPattern RX4 cX4_holdsPattern 4 (some .boolean) D cA) (hA : ∀ q, s.heap.size ≤ q → A q) (hR : RtI p l e rm_X4_holdsPattern s m args below meth c Q cX4_holdsPattern D cA K_Setup h A (fun x => x = 0 ∨ x = 1) (fun r σ' => σ' = σ ∧ post r)) : ∀ (n : Nat) {v1 v2 : Int} {H : Heap} {locs : List Loc} {ls : Array Slot}, wp_X4_holdsPattern_2 post n v1 v2 σ → wd D cA K_Setup h σ A s.heap H locs → lh ls 4 [some (.ref (h 0)), some (iv v1), some (iv v2), none] → W p l e rm_X4_holdsPattern s m args below meth c H locs 0 0 Q (F0 m 2 ls []) := by
  intro n; induction n with
  | zero => intros; rename_i hwp _ _; exact hwp.elim
  | succ n ih =>
    intro v1 v2 H locs ls hwp hw hl
    refine r_iload_n C dX4_holdsPattern_2 hl rfl ?_
    refine r_aload_n C dX4_holdsPattern_3 hl rfl ?_
    refine r_get C hw clX4 0 rfl 0 0 rfl rfl (Nat.le_of_ble_eq_true rfl) hi_X4_holdsPattern_X4 hf_X4_holdsPattern_9 dX4_holdsPattern_4 ?_
    obtain ⟨ra, rb, hT, hF⟩ := hwp
    refine r_icmp_gt C (tgt := 40) dX4_holdsPattern_7 rfl ra rb (fun hc => ?_) (fun hc => ?_)
    · have hwp := hT hc
      refine r_const C dX4_holdsPattern_40 ?_
      exact hR _ _ _ _ _ _ dX4_holdsPattern_41 (Or.inr rfl) ⟨rfl, hwp⟩ hw
    · have hwp := hF hc
      refine r_aload_n C dX4_holdsPattern_10 hl rfl ?_
      refine r_getr C hw clX4 0 rfl 7 3 rfl (Nat.le_of_ble_eq_true rfl) hi_X4_holdsPattern_X4 hf_X4_holdsPattern_34 dX4_holdsPattern_11 ?_
      refine r_iload_n C dX4_holdsPattern_14 hl rfl ?_
      refine r_const C dX4_holdsPattern_15 ?_
      refine r_isub C dX4_holdsPattern_16 ?_
      obtain ⟨h0, h1, hwp⟩ := hwp
      refine r_iald C hw 3 rfl rfl h0 h1 dX4_holdsPattern_17 ?_
      refine r_istore_n C dX4_holdsPattern_18 hl (Nat.le_of_ble_eq_true rfl) (Nat.le_of_ble_eq_true rfl) rfl (fun ls hl => ?_)
      refine r_iload_n C dX4_holdsPattern_19 hl rfl ?_
      obtain ⟨ra, hT, hF⟩ := hwp
      refine r_if_eq C (tgt := 34) dX4_holdsPattern_20 rfl ra (fun hc => ?_) (fun hc => ?_)
      · have hwp := hT hc
        exact b_X4_holdsPattern_34 C hA hR ih hwp hw (lh_mask hl [true, true, true, false])
      · have hwp := hF hc
        refine r_iload_n C dX4_holdsPattern_23 hl rfl ?_
        refine r_iload_n C dX4_holdsPattern_24 hl rfl ?_
        refine r_iload_n C dX4_holdsPattern_25 hl rfl ?_
        refine r_cIr hA hw sb_Setup_0_0_6 (run_s C hw sb_Setup_0_0_6 (c_X2_bellIn hwp) (va_cwS 2 C.2.2.2.2.1 gX4_holdsPattern_X2_bellIn rfl rfl rfl hd_X2_bellIn ⟨Nat.le_of_ble_eq_true rfl, Nat.le_of_ble_eq_true rfl⟩) rfl rfl rfl hl dX4_holdsPattern_26 ⟨Nat.zero_le _, Nat.zero_le _⟩) (fun r H locs hwp hw => ?_)
        obtain ⟨ra, rb, hT, hF⟩ := hwp
        refine r_icmp_eq C (tgt := 34) dX4_holdsPattern_29 rfl ra rb (fun hc => ?_) (fun hc => ?_)
        · have hwp := hT hc
          exact b_X4_holdsPattern_34 C hA hR ih hwp hw (lh_mask hl [true, true, true, false])
        · have hwp := hF hc
          refine r_const C dX4_holdsPattern_32 ?_
          exact hR _ _ _ _ _ _ dX4_holdsPattern_33 (Or.inl rfl) ⟨rfl, hwp⟩ hw
set_option maxRecDepth 100000 in
theorem b_X4_holdsPattern_0 {σ : St} {post : Int → Prop} (C : cx p s m args meth c wsX4_holdsPattern RX4 cX4_holdsPattern 4 (some .boolean) D cA) (hA : ∀ q, s.heap.size ≤ q → A q) (hR : RtI p l e rm_X4_holdsPattern s m args below meth c Q cX4_holdsPattern D cA K_Setup h A (fun x => x = 0 ∨ x = 1) (fun r σ' => σ' = σ ∧ post r)) : ∀ {v1 : Int} {H : Heap} {locs : List Loc} {ls : Array Slot}, wp_X4_holdsPattern σ v1 post → wd D cA K_Setup h σ A s.heap H locs → lh ls 4 [some (.ref (h 0)), some (iv v1), none, none] → W p l e rm_X4_holdsPattern s m args below meth c H locs 0 0 Q (F0 m 0 ls []) := by
  intro v1 H locs ls hwp hw hl
  refine r_const C dX4_holdsPattern_0 ?_
  refine r_istore_n C dX4_holdsPattern_1 hl (Nat.le_of_ble_eq_true rfl) (Nat.le_of_ble_eq_true rfl) rfl (fun ls hl => ?_)
  obtain ⟨n9, hwp⟩ := hwp
  exact b_X4_holdsPattern_2 C hA hR n9 hwp hw (lh_mask hl [true, true, true, false])
set_option maxRecDepth 100000 in
theorem c_X4_holdsPattern {l : Launch} {D : va_G} {cA : FieldType → ClassId} {h : Nat → Nat} {σ : St} {sz : Nat} {v1 : Int} {post : Int → Prop} (hwp : wp_X4_holdsPattern σ v1 post) : Met l yX4_holdsPattern wsX4_holdsPattern rm_X4_holdsPattern (va_Pc [.ref (h 0), iv v1] (preS D cA K_Setup h σ sz)) (QI D cA K_Setup h sz (fun r σ' => σ' = σ ∧ post r)) 0 0 (aA K_Setup.length h sz) := by
  refine mk_met (cc := cX4_holdsPattern) (nL := 4) (ret := (some .boolean)) (own := RX4) 2 (by decide) rfl rfl rfl rfl ?_
  intro p e s m args below meth c ls hsz C hw hl hA
  subst hsz
  exact b_X4_holdsPattern_0 C hA (rt_z C _) hwp hw hl
-- X4_isMusic
theorem hi_X4_isMusic_X4 : ∀ w ∈ u_ws RX4 TX4 11, w ∈ wsX4_isMusic := by decide +kernel
theorem hf_X4_isMusic_9 : Cond.fieldLink RX4 9 (TX4 0).1 (TX4 0).2.1 (TX4 0).2.2.1 ∈ wsX4_isMusic := by decide +kernel
def rm_X4_isMusic : Room := { frames := 3, cells := 0, slots := 0, locals := 65 }
set_option maxRecDepth 100000 in
theorem b_X4_isMusic_0 {σ : St} {post : Int → Prop} (C : cx p s m args meth c wsX4_isMusic RX4 cX4_isMusic 4 (some .boolean) D cA) (hA : ∀ q, s.heap.size ≤ q → A q) (hR : RtI p l e rm_X4_isMusic s m args below meth c Q cX4_isMusic D cA K_Setup h A (fun x => x = 0 ∨ x = 1) (fun r σ' => σ' = σ ∧ post r)) : ∀ {v1 v2 : Int} {H : Heap} {locs : List Loc} {ls : Array Slot}, wp_X4_isMusic σ v1 v2 post → wd D cA K_Setup h σ A s.heap H locs → lh ls 4 [some (.ref (h 0)), some (iv v1), some (iv v2), none] → W p l e rm_X4_isMusic s m args below meth c H locs 0 0 Q (F0 m 0 ls []) := by
  intro v1 v2 H locs ls hwp hw hl
  refine r_const C dX4_isMusic_0 ?_
  refine r_aload_n C dX4_isMusic_1 hl rfl ?_
  refine r_get C hw clX4 0 rfl 0 0 rfl rfl (Nat.le_of_ble_eq_true rfl) hi_X4_isMusic_X4 hf_X4_isMusic_9 dX4_isMusic_2 ?_
  refine r_const C dX4_isMusic_5 ?_
  refine r_isub C dX4_isMusic_6 ?_
  refine r_imul C dX4_isMusic_7 ?_
  refine r_istore_n C dX4_isMusic_8 hl (Nat.le_of_ble_eq_true rfl) (Nat.le_of_ble_eq_true rfl) rfl (fun ls hl => ?_)
  refine r_iload_n C dX4_isMusic_9 hl rfl ?_
  obtain ⟨ra, hS0, hS1, hS2, hD⟩ := hwp
  rcases sw_0_2 ra with hc | hc | hc | hc
  · have hwp := hS0 hc
    refine r_tin C (tgt := 36) dX4_isMusic_10 ra 0 hc (by decide) (by decide) rfl rfl ?_
    refine r_iload_n C dX4_isMusic_36 hl rfl ?_
    refine r_iload_n C dX4_isMusic_37 hl rfl ?_
    refine r_iushr C dX4_isMusic_38 ?_
    refine r_aload_n C dX4_isMusic_39 hl rfl ?_
    refine r_get C hw clX4 0 rfl 0 0 rfl rfl (Nat.le_of_ble_eq_true rfl) hi_X4_isMusic_X4 hf_X4_isMusic_9 dX4_isMusic_40 ?_
    refine r_cIr hA hw sb_Setup_0_0_6 (run_s C hw sb_Setup_0_0_6 (c_X2_rounds hwp) (va_cwS 1 C.2.2.2.2.1 gX4_isMusic_X2_rounds rfl rfl rfl hd_X2_rounds ⟨Nat.le_of_ble_eq_true rfl, Nat.le_of_ble_eq_true rfl⟩) rfl rfl rfl hl dX4_isMusic_43 ⟨Nat.zero_le _, Nat.zero_le _⟩) (fun r H locs hwp hw => ?_)
    refine r_iload_n C dX4_isMusic_46 hl rfl ?_
    refine r_iushr C dX4_isMusic_47 ?_
    obtain ⟨ra, rb, hT, hF⟩ := hwp
    refine r_icmp_ne C (tgt := 55) dX4_isMusic_48 rfl ra rb (fun hc => ?_) (fun hc => ?_)
    · have hwp := hT hc
      refine r_const C dX4_isMusic_55 ?_
      exact hR _ _ _ _ _ _ dX4_isMusic_56 (Or.inl rfl) ⟨rfl, hwp⟩ hw
    · have hwp := hF hc
      refine r_const C dX4_isMusic_51 ?_
      refine r_goto C (tgt := 56) dX4_isMusic_52 rfl ?_
      exact hR _ _ _ _ _ _ dX4_isMusic_56 (Or.inr rfl) ⟨rfl, hwp⟩ hw
  · have hwp := hS1 hc
    refine r_tin C (tgt := 57) dX4_isMusic_10 ra 1 hc (by decide) (by decide) rfl rfl ?_
    refine r_iload_n C dX4_isMusic_57 hl rfl ?_
    refine r_ldc C (n := 65535) (by decide +kernel) dX4_isMusic_58 ?_
    refine r_iand C dX4_isMusic_60 ?_
    refine r_const C dX4_isMusic_61 ?_
    refine r_cIr hA hw sb_Setup_0_0_6 (run_s C hw sb_Setup_0_0_6 (c_X2_rounds hwp) (va_cwS 1 C.2.2.2.2.1 gX4_isMusic_X2_rounds rfl rfl rfl hd_X2_rounds ⟨Nat.le_of_ble_eq_true rfl, Nat.le_of_ble_eq_true rfl⟩) rfl rfl rfl hl dX4_isMusic_62 ⟨Nat.zero_le _, Nat.zero_le _⟩) (fun r H locs hwp hw => ?_)
    obtain ⟨ra, rb, hT, hF⟩ := hwp
    refine r_icmp_ne C (tgt := 72) dX4_isMusic_65 rfl ra rb (fun hc => ?_) (fun hc => ?_)
    · have hwp := hT hc
      refine r_const C dX4_isMusic_72 ?_
      exact hR _ _ _ _ _ _ dX4_isMusic_73 (Or.inl rfl) ⟨rfl, hwp⟩ hw
    · have hwp := hF hc
      refine r_const C dX4_isMusic_68 ?_
      refine r_goto C (tgt := 73) dX4_isMusic_69 rfl ?_
      exact hR _ _ _ _ _ _ dX4_isMusic_73 (Or.inr rfl) ⟨rfl, hwp⟩ hw
  · have hwp := hS2 hc
    refine r_tin C (tgt := 74) dX4_isMusic_10 ra 2 hc (by decide) (by decide) rfl rfl ?_
    refine r_aload_n C dX4_isMusic_74 hl rfl ?_
    refine r_iload_n C dX4_isMusic_75 hl rfl ?_
    refine r_cIr0 hA hw (run_v0 C hw clX4 rfl (c_X4_holdsPattern hwp) (cwV 1 C.2.2.2.2.1 gX4_isMusic_X4_holdsPattern rfl rfl rfl hd_X4_holdsPattern ⟨Nat.le_of_ble_eq_true rfl, Nat.le_of_ble_eq_true rfl⟩) rfl rfl rfl hl dX4_isMusic_76 ⟨Nat.zero_le _, Nat.zero_le _⟩) (fun r H locs hwp hw => ?_)
    obtain ⟨hz, hwp⟩ := hwp
    exact hR _ _ _ _ _ _ dX4_isMusic_79 hz ⟨rfl, hwp⟩ hw
  · have hwp := hD hc
    refine r_tout C (tgt := 80) dX4_isMusic_10 ra hc rfl ?_
    refine r_iload_n C dX4_isMusic_80 hl rfl ?_
    refine r_aload_n C dX4_isMusic_81 hl rfl ?_
    refine r_get C hw clX4 0 rfl 0 0 rfl rfl (Nat.le_of_ble_eq_true rfl) hi_X4_isMusic_X4 hf_X4_isMusic_9 dX4_isMusic_82 ?_
    refine r_const C dX4_isMusic_85 ?_
    refine r_isub C dX4_isMusic_86 ?_
    refine r_aload_n C dX4_isMusic_87 hl rfl ?_
    refine r_get C hw clX4 0 rfl 0 0 rfl rfl (Nat.le_of_ble_eq_true rfl) hi_X4_isMusic_X4 hf_X4_isMusic_9 dX4_isMusic_88 ?_
    refine r_cIr hA hw sb_Setup_0_0_6 (run_s C hw sb_Setup_0_0_6 (c_X2_isRightAhead hwp) (va_cwS 3 C.2.2.2.2.1 gX4_isMusic_X2_isRightAhead rfl rfl rfl hd_X2_isRightAhead ⟨Nat.le_of_ble_eq_true rfl, Nat.le_of_ble_eq_true rfl⟩) rfl rfl rfl hl dX4_isMusic_91 ⟨Nat.zero_le _, Nat.zero_le _⟩) (fun r H locs hwp hw => ?_)
    obtain ⟨hz, hwp⟩ := hwp
    exact hR _ _ _ _ _ _ dX4_isMusic_94 hz ⟨rfl, hwp⟩ hw
set_option maxRecDepth 100000 in
theorem c_X4_isMusic {l : Launch} {D : va_G} {cA : FieldType → ClassId} {h : Nat → Nat} {σ : St} {sz : Nat} {v1 v2 : Int} {post : Int → Prop} (hwp : wp_X4_isMusic σ v1 v2 post) : Met l yX4_isMusic wsX4_isMusic rm_X4_isMusic (va_Pc [.ref (h 0), iv v1, iv v2] (preS D cA K_Setup h σ sz)) (QI D cA K_Setup h sz (fun r σ' => σ' = σ ∧ post r)) 0 0 (aA K_Setup.length h sz) := by
  refine mk_met (cc := cX4_isMusic) (nL := 4) (ret := (some .boolean)) (own := RX4) 1 (by decide) rfl rfl rfl rfl ?_
  intro p e s m args below meth c ls hsz C hw hl hA
  subst hsz
  exact b_X4_isMusic_0 C hA (rt_z C _) hwp hw hl
-- X4_happen
theorem hi_X4_happen_X1 : ∀ w ∈ u_ws RX1 TX1 4, w ∈ wsX4_happen := by decide +kernel
theorem hi_X4_happen_X4 : ∀ w ∈ u_ws RX4 TX4 11, w ∈ wsX4_happen := by decide +kernel
theorem hf_X4_happen_87 : Cond.fieldLink RX4 87 (TX1 0).1 (TX1 0).2.1 (TX1 0).2.2.1 ∈ wsX4_happen := by decide +kernel
theorem hf_X4_happen_84 : Cond.fieldLink RX4 84 (TX1 1).1 (TX1 1).2.1 (TX1 1).2.2.1 ∈ wsX4_happen := by decide +kernel
theorem hf_X4_happen_52 : Cond.fieldLink RX4 52 (TX1 3).1 (TX1 3).2.1 (TX1 3).2.2.1 ∈ wsX4_happen := by decide +kernel
theorem hf_X4_happen_19 : Cond.fieldLink RX4 19 (TX4 2).1 (TX4 2).2.1 (TX4 2).2.2.1 ∈ wsX4_happen := by decide +kernel
theorem hf_X4_happen_28 : Cond.fieldLink RX4 28 (TX4 5).1 (TX4 5).2.1 (TX4 5).2.2.1 ∈ wsX4_happen := by decide +kernel
theorem hf_X4_happen_31 : Cond.fieldLink RX4 31 (TX4 6).1 (TX4 6).2.1 (TX4 6).2.2.1 ∈ wsX4_happen := by decide +kernel
theorem hf_X4_happen_46 : Cond.fieldLink RX4 46 (TX4 9).1 (TX4 9).2.1 (TX4 9).2.2.1 ∈ wsX4_happen := by decide +kernel
def rm_X4_happen : Room := { frames := 1, cells := 0, slots := 0, locals := 100 }
set_option maxRecDepth 100000 in
theorem b_X4_happen_102 {post : St → Prop} (C : cx p s m args meth c wsX4_happen RX4 cX4_happen 3 none D cA) (hA : ∀ q, s.heap.size ≤ q → A q) (hR : RtV p l e rm_X4_happen s m args below meth c Q cX4_happen D cA K_Setup h A post) {k2 : Int → St → Prop} (hk2 : ∀ {v1 : Int} {σ : St} {H : Heap} {locs : List Loc} {ls : Array Slot}, k2 v1 σ → wd D cA K_Setup h σ A s.heap H locs → lh ls 3 [some (.ref (h 0)), some (iv v1), none] → W p l e rm_X4_happen s m args below meth c H locs 0 0 Q (F0 m 2 ls [])) : ∀ {v1 : Int} {σ : St} {H : Heap} {locs : List Loc} {ls : Array Slot}, wp_X4_happen_102 k2 post v1 σ → wd D cA K_Setup h σ A s.heap H locs → lh ls 3 [some (.ref (h 0)), some (iv v1), none] → W p l e rm_X4_happen s m args below meth c H locs 0 0 Q (F0 m 102 ls []) := by
  intro v1 σ H locs ls hwp hw hl
  refine r_iinc C dX4_happen_102 hl rfl (Nat.le_of_ble_eq_true rfl) rfl (fun ls hl => ?_)
  refine r_goto C (tgt := 2) dX4_happen_105 rfl ?_
  exact hk2 hwp hw (lh_mask hl [true, true, false])
set_option maxRecDepth 100000 in
theorem b_X4_happen_2 {post : St → Prop} (C : cx p s m args meth c wsX4_happen RX4 cX4_happen 3 none D cA) (hA : ∀ q, s.heap.size ≤ q → A q) (hR : RtV p l e rm_X4_happen s m args below meth c Q cX4_happen D cA K_Setup h A post) : ∀ (n : Nat) {v1 : Int} {σ : St} {H : Heap} {locs : List Loc} {ls : Array Slot}, wp_X4_happen_2 post n v1 σ → wd D cA K_Setup h σ A s.heap H locs → lh ls 3 [some (.ref (h 0)), some (iv v1), none] → W p l e rm_X4_happen s m args below meth c H locs 0 0 Q (F0 m 2 ls []) := by
  intro n; induction n with
  | zero => intros; rename_i hwp _ _; exact hwp.elim
  | succ n ih =>
    intro v1 σ H locs ls hwp hw hl
    refine r_iload_n C dX4_happen_2 hl rfl ?_
    refine r_aload_n C dX4_happen_3 hl rfl ?_
    refine r_getr C hw clX4 0 rfl 9 8 rfl (Nat.le_of_ble_eq_true rfl) hi_X4_happen_X4 hf_X4_happen_46 dX4_happen_4 ?_
    refine r_get C hw clX1 8 rfl 3 3 rfl rfl (Nat.le_of_ble_eq_true rfl) hi_X4_happen_X1 hf_X4_happen_52 dX4_happen_7 ?_
    obtain ⟨ra, rb, hT, hF⟩ := hwp
    refine r_icmp_ge C (tgt := 108) dX4_happen_10 rfl ra rb (fun hc => ?_) (fun hc => ?_)
    · have hwp := hT hc
      exact hR _ _ _ _ _ dX4_happen_108 hwp hw
    · have hwp := hF hc
      refine r_aload_n C dX4_happen_13 hl rfl ?_
      refine r_getr C hw clX4 0 rfl 9 8 rfl (Nat.le_of_ble_eq_true rfl) hi_X4_happen_X4 hf_X4_happen_46 dX4_happen_14 ?_
      refine r_getr C hw clX1 8 rfl 1 10 rfl (Nat.le_of_ble_eq_true rfl) hi_X4_happen_X1 hf_X4_happen_84 dX4_happen_17 ?_
      refine r_iload_n C dX4_happen_20 hl rfl ?_
      obtain ⟨h0, h1, hwp⟩ := hwp
      refine r_iald C hw 10 rfl rfl h0 h1 dX4_happen_21 ?_
      refine r_istore_n C dX4_happen_22 hl (Nat.le_of_ble_eq_true rfl) (Nat.le_of_ble_eq_true rfl) rfl (fun ls hl => ?_)
      refine r_aload_n C dX4_happen_23 hl rfl ?_
      refine r_getr C hw clX4 0 rfl 9 8 rfl (Nat.le_of_ble_eq_true rfl) hi_X4_happen_X4 hf_X4_happen_46 dX4_happen_24 ?_
      refine r_getr C hw clX1 8 rfl 0 9 rfl (Nat.le_of_ble_eq_true rfl) hi_X4_happen_X1 hf_X4_happen_87 dX4_happen_27 ?_
      refine r_iload_n C dX4_happen_30 hl rfl ?_
      obtain ⟨h0, h1, hwp⟩ := hwp
      refine r_iald C hw 9 rfl rfl h0 h1 dX4_happen_31 ?_
      obtain ⟨ra, hS0, hS1, hS2, hD⟩ := hwp
      rcases sw_0_2 ra with hc | hc | hc | hc
      · have hwp := hS0 hc
        refine r_tin C (tgt := 60) dX4_happen_32 ra 0 hc (by decide) (by decide) rfl rfl ?_
        refine r_aload_n C dX4_happen_60 hl rfl ?_
        refine r_getr C hw clX4 0 rfl 5 2 rfl (Nat.le_of_ble_eq_true rfl) hi_X4_happen_X4 hf_X4_happen_28 dX4_happen_61 ?_
        refine r_iload_n C dX4_happen_64 hl rfl ?_
        refine r_const C dX4_happen_65 ?_
        obtain ⟨h0, h1, hwp⟩ := hwp
        refine r_iast C hw 2 rfl rfl h0 h1 dX4_happen_66 (fun H locs hw => ?_)
        have hwp := hwp _ rfl
        refine r_goto C (tgt := 102) dX4_happen_67 rfl ?_
        exact b_X4_happen_102 C hA hR ih hwp hw (lh_mask hl [true, true, false])
      · have hwp := hS1 hc
        refine r_tin C (tgt := 70) dX4_happen_32 ra 1 hc (by decide) (by decide) rfl rfl ?_
        refine r_aload_n C dX4_happen_70 hl rfl ?_
        refine r_getr C hw clX4 0 rfl 5 2 rfl (Nat.le_of_ble_eq_true rfl) hi_X4_happen_X4 hf_X4_happen_28 dX4_happen_71 ?_
        refine r_iload_n C dX4_happen_74 hl rfl ?_
        refine r_const C dX4_happen_75 ?_
        obtain ⟨h0, h1, hwp⟩ := hwp
        refine r_iast C hw 2 rfl rfl h0 h1 dX4_happen_76 (fun H locs hw => ?_)
        have hwp := hwp _ rfl
        refine r_goto C (tgt := 102) dX4_happen_77 rfl ?_
        exact b_X4_happen_102 C hA hR ih hwp hw (lh_mask hl [true, true, false])
      · have hwp := hS2 hc
        refine r_tin C (tgt := 80) dX4_happen_32 ra 2 hc (by decide) (by decide) rfl rfl ?_
        refine r_aload_n C dX4_happen_80 hl rfl ?_
        refine r_const C dX4_happen_81 ?_
        refine r_aload_n C dX4_happen_82 hl rfl ?_
        refine r_get C hw clX4 0 rfl 2 2 rfl rfl (Nat.le_of_ble_eq_true rfl) hi_X4_happen_X4 hf_X4_happen_19 dX4_happen_83 ?_
        refine r_iload_n C dX4_happen_86 hl rfl ?_
        refine r_isub C dX4_happen_87 ?_
        obtain ⟨rb, hwp⟩ := hwp
        refine r_max C hl (by decide +kernel) (by decide +kernel) (by decide +kernel) (by decide +kernel) (Nat.le_of_ble_eq_true rfl) (Nat.le_of_ble_eq_true rfl) (Nat.zero_le _) (Nat.zero_le _) (by decide) rb dX4_happen_88 ?_
        refine r_put C hw clX4 0 rfl 2 2 rfl rfl (Nat.le_of_ble_eq_true rfl) hi_X4_happen_X4 hf_X4_happen_19 rfl ⟨nar_i _, fit_i _⟩ dX4_happen_91 (fun H locs hw => ?_)
        have hwp := hwp _ rfl
        refine r_goto C (tgt := 102) dX4_happen_94 rfl ?_
        exact b_X4_happen_102 C hA hR ih hwp hw (lh_mask hl [true, true, false])
      · have hwp := hD hc
        refine r_tout C (tgt := 97) dX4_happen_32 ra hc rfl ?_
        refine r_aload_n C dX4_happen_97 hl rfl ?_
        refine r_iload_n C dX4_happen_98 hl rfl ?_
        refine r_put C hw clX4 0 rfl 6 6 rfl rfl (Nat.le_of_ble_eq_true rfl) hi_X4_happen_X4 hf_X4_happen_31 rfl ⟨nar_i _, fit_i _⟩ dX4_happen_99 (fun H locs hw => ?_)
        have hwp := hwp _ rfl
        exact b_X4_happen_102 C hA hR ih hwp hw (lh_mask hl [true, true, false])
set_option maxRecDepth 100000 in
theorem b_X4_happen_0 {post : St → Prop} (C : cx p s m args meth c wsX4_happen RX4 cX4_happen 3 none D cA) (hA : ∀ q, s.heap.size ≤ q → A q) (hR : RtV p l e rm_X4_happen s m args below meth c Q cX4_happen D cA K_Setup h A post) : ∀ {σ : St} {H : Heap} {locs : List Loc} {ls : Array Slot}, wp_X4_happen σ post → wd D cA K_Setup h σ A s.heap H locs → lh ls 3 [some (.ref (h 0)), none, none] → W p l e rm_X4_happen s m args below meth c H locs 0 0 Q (F0 m 0 ls []) := by
  intro σ H locs ls hwp hw hl
  refine r_const C dX4_happen_0 ?_
  refine r_istore_n C dX4_happen_1 hl (Nat.le_of_ble_eq_true rfl) (Nat.le_of_ble_eq_true rfl) rfl (fun ls hl => ?_)
  obtain ⟨n9, hwp⟩ := hwp
  exact b_X4_happen_2 C hA hR n9 hwp hw (lh_mask hl [true, true, false])
set_option maxRecDepth 100000 in
theorem c_X4_happen {l : Launch} {D : va_G} {cA : FieldType → ClassId} {h : Nat → Nat} {σ : St} {sz : Nat} {post : St → Prop} (hwp : wp_X4_happen σ post) : Met l yX4_happen wsX4_happen rm_X4_happen (va_Pc [.ref (h 0)] (preS D cA K_Setup h σ sz)) (QV D cA K_Setup h sz post) 0 0 (aA K_Setup.length h sz) := by
  refine mk_met (cc := cX4_happen) (nL := 3) (ret := none) (own := RX4) 2 (by decide) rfl rfl rfl rfl ?_
  intro p e s m args below meth c ls hsz C hw hl hA
  subst hsz
  exact b_X4_happen_0 C hA (rt_v C _) hwp hw hl
end
