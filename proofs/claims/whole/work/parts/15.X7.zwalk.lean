section
variable {p : Program} {l : Launch} {e : Env} {s : State} {m : MethodId} {args : Array Value} {below : List Frame} {meth : Method} {c : Code} {Q : State → Prop} {D : va_G} {cA : FieldType → ClassId} {h : Nat → Nat} {A : Nat → Prop}
-- X7_begin
theorem hi_X7_begin_X4 : ∀ w ∈ u_ws RX4 TX4 11, w ∈ wsX7_begin := by decide +kernel
theorem hi_X7_begin_X7 : ∀ w ∈ u_ws RX7 TX7 8, w ∈ wsX7_begin := by decide +kernel
theorem hf_X7_begin_59 : Cond.fieldLink RX7 59 (TX4 0).1 (TX4 0).2.1 (TX4 0).2.2.1 ∈ wsX7_begin := by decide +kernel
theorem hf_X7_begin_62 : Cond.fieldLink RX7 62 (TX4 1).1 (TX4 1).2.1 (TX4 1).2.2.1 ∈ wsX7_begin := by decide +kernel
theorem hf_X7_begin_58 : Cond.fieldLink RX7 58 (TX4 2).1 (TX4 2).2.1 (TX4 2).2.2.1 ∈ wsX7_begin := by decide +kernel
theorem hf_X7_begin_9 : Cond.fieldLink RX7 9 (TX7 0).1 (TX7 0).2.1 (TX7 0).2.2.1 ∈ wsX7_begin := by decide +kernel
theorem hf_X7_begin_15 : Cond.fieldLink RX7 15 (TX7 1).1 (TX7 1).2.1 (TX7 1).2.2.1 ∈ wsX7_begin := by decide +kernel
theorem hf_X7_begin_19 : Cond.fieldLink RX7 19 (TX7 2).1 (TX7 2).2.1 (TX7 2).2.2.1 ∈ wsX7_begin := by decide +kernel
theorem hf_X7_begin_22 : Cond.fieldLink RX7 22 (TX7 3).1 (TX7 3).2.1 (TX7 3).2.2.1 ∈ wsX7_begin := by decide +kernel
theorem hf_X7_begin_25 : Cond.fieldLink RX7 25 (TX7 4).1 (TX7 4).2.1 (TX7 4).2.2.1 ∈ wsX7_begin := by decide +kernel
theorem hf_X7_begin_38 : Cond.fieldLink RX7 38 (TX7 7).1 (TX7 7).2.1 (TX7 7).2.2.1 ∈ wsX7_begin := by decide +kernel
def rm_X7_begin : Room := { frames := 2, cells := 0, slots := 0, locals := 44 }
set_option maxRecDepth 100000 in
theorem b_X7_begin_102 {post : St → Prop} (C : cx p s m args meth c wsX7_begin RX7 cX7_begin 4 none D cA) (hA : ∀ q, s.heap.size ≤ q → A q) (hR : RtV p l e rm_X7_begin s m args below meth c Q cX7_begin D cA K_TouchS h A post) : ∀ {σ : St} {H : Heap} {locs : List Loc} {ls : Array Slot}, wp_X7_begin_102 post σ → wd D cA K_TouchS h σ A s.heap H locs → lh ls 4 [some (.ref (h 0)), some (.ref (h 7)), none, none] → W p l e rm_X7_begin s m args below meth c H locs 0 0 Q (F0 m 102 ls []) := by
  intro σ H locs ls hwp hw hl
  refine r_aload_n C dX7_begin_102 hl rfl ?_
  refine r_getr C hw clX7 0 rfl 0 1 rfl (Nat.le_of_ble_eq_true rfl) hi_X7_begin_X7 hf_X7_begin_9 dX7_begin_103 ?_
  refine r_const C dX7_begin_106 ?_
  refine r_aload_n C dX7_begin_107 hl rfl ?_
  refine r_get C hw clX4 7 rfl 0 0 rfl rfl (Nat.le_of_ble_eq_true rfl) hi_X7_begin_X4 hf_X7_begin_59 dX7_begin_108 ?_
  refine r_cIr hA hw sb_TouchS_0_0_7 (run_s C hw sb_TouchS_0_0_7 (c_X2_rounds hwp) (va_cwS 1 C.2.2.2.2.1 gX7_begin_X2_rounds rfl rfl rfl hd_X2_rounds ⟨Nat.le_of_ble_eq_true rfl, Nat.le_of_ble_eq_true rfl⟩) rfl rfl rfl hl dX7_begin_111 ⟨Nat.zero_le _, Nat.zero_le _⟩) (fun r H locs hwp hw => ?_)
  refine r_iast C hw 1 rfl rfl (by decide) (by decide) dX7_begin_114 (fun H locs hw => ?_)
  have hwp := hwp _ rfl
  refine r_aload_n C dX7_begin_115 hl rfl ?_
  refine r_const C dX7_begin_116 ?_
  refine r_put C hw clX7 0 rfl 1 1 rfl rfl (Nat.le_of_ble_eq_true rfl) hi_X7_begin_X7 hf_X7_begin_15 rfl ⟨nar_i _, fit_i _⟩ dX7_begin_117 (fun H locs hw => ?_)
  have hwp := hwp _ rfl
  refine r_aload_n C dX7_begin_120 hl rfl ?_
  refine r_const C dX7_begin_121 ?_
  refine r_put C hw clX7 0 rfl 7 7 rfl rfl (Nat.le_of_ble_eq_true rfl) hi_X7_begin_X7 hf_X7_begin_38 rfl (oi_z (Or.inl rfl)) dX7_begin_122 (fun H locs hw => ?_)
  have hwp := hwp _ rfl
  exact hR _ _ _ _ _ dX7_begin_125 hwp hw
set_option maxRecDepth 100000 in
theorem b_X7_begin_95 {post : St → Prop} (C : cx p s m args meth c wsX7_begin RX7 cX7_begin 4 none D cA) (hA : ∀ q, s.heap.size ≤ q → A q) (hR : RtV p l e rm_X7_begin s m args below meth c Q cX7_begin D cA K_TouchS h A post) {k45 : Int → St → Prop} (hk45 : ∀ {v2 : Int} {σ : St} {H : Heap} {locs : List Loc} {ls : Array Slot}, k45 v2 σ → wd D cA K_TouchS h σ A s.heap H locs → lh ls 4 [some (.ref (h 0)), some (.ref (h 7)), some (iv v2), none] → W p l e rm_X7_begin s m args below meth c H locs 0 0 Q (F0 m 45 ls [])) : ∀ {v2 s1 s2 : Int} {σ : St} {H : Heap} {locs : List Loc} {ls : Array Slot}, wp_X7_begin_95 k45 post v2 s1 s2 σ → wd D cA K_TouchS h σ A s.heap H locs → lh ls 4 [some (.ref (h 0)), some (.ref (h 7)), some (iv v2), none] → W p l e rm_X7_begin s m args below meth c H locs 0 0 Q (F0 m 95 ls [iv s2, iv s1, .ref (h 3)]) := by
  intro v2 s1 s2 σ H locs ls hwp hw hl
  obtain ⟨h0, h1, hwp⟩ := hwp
  refine r_iast C hw 3 rfl rfl h0 h1 dX7_begin_95 (fun H locs hw => ?_)
  have hwp := hwp _ rfl
  refine r_iinc C dX7_begin_96 hl rfl (Nat.le_of_ble_eq_true rfl) rfl (fun ls hl => ?_)
  refine r_goto C (tgt := 45) dX7_begin_99 rfl ?_
  exact hk45 hwp hw (lh_mask hl [true, true, true, false])
set_option maxRecDepth 100000 in
theorem b_X7_begin_45 {post : St → Prop} (C : cx p s m args meth c wsX7_begin RX7 cX7_begin 4 none D cA) (hA : ∀ q, s.heap.size ≤ q → A q) (hR : RtV p l e rm_X7_begin s m args below meth c Q cX7_begin D cA K_TouchS h A post) : ∀ (n : Nat) {v2 : Int} {σ : St} {H : Heap} {locs : List Loc} {ls : Array Slot}, wp_X7_begin_45 post n v2 σ → wd D cA K_TouchS h σ A s.heap H locs → lh ls 4 [some (.ref (h 0)), some (.ref (h 7)), some (iv v2), none] → W p l e rm_X7_begin s m args below meth c H locs 0 0 Q (F0 m 45 ls []) := by
  intro n; induction n with
  | zero => intros; rename_i hwp _ _; exact hwp.elim
  | succ n ih =>
    intro v2 σ H locs ls hwp hw hl
    refine r_iload_n C dX7_begin_45 hl rfl ?_
    refine r_const C dX7_begin_46 ?_
    obtain ⟨ra, hT, hF⟩ := hwp
    refine r_icmp_gt C (tgt := 102) dX7_begin_47 rfl ra (by decide) (fun hc => ?_) (fun hc => ?_)
    · have hwp := hT hc
      exact b_X7_begin_102 C hA hR hwp hw (lh_mask hl [true, true, false, false])
    · have hwp := hF hc
      refine r_aload_n C dX7_begin_50 hl rfl ?_
      refine r_get C hw clX7 0 rfl 2 2 rfl rfl (Nat.le_of_ble_eq_true rfl) hi_X7_begin_X7 hf_X7_begin_19 dX7_begin_51 ?_
      obtain ⟨ra, hT, hF⟩ := hwp
      refine r_if_le C (tgt := 102) dX7_begin_54 rfl ra (fun hc => ?_) (fun hc => ?_)
      · have hwp := hT hc
        exact b_X7_begin_102 C hA hR hwp hw (lh_mask hl [true, true, false, false])
      · have hwp := hF hc
        refine r_aload_n C dX7_begin_57 hl rfl ?_
        refine r_iload_n C dX7_begin_58 hl rfl ?_
        refine r_cIr hA hw sb_TouchS_Setup_7_8 (run_v C hw sb_TouchS_Setup_7_8 clX4 rfl (c_X4_calledChange hwp) (cwV 1 C.2.2.2.2.1 gX7_begin_X4_calledChange rfl rfl rfl hd_X4_calledChange ⟨Nat.le_of_ble_eq_true rfl, Nat.le_of_ble_eq_true rfl⟩) rfl rfl rfl hl dX7_begin_59 ⟨Nat.zero_le _, Nat.zero_le _⟩) (fun r H locs hwp hw => ?_)
        refine r_istore_n C dX7_begin_62 hl (Nat.le_of_ble_eq_true rfl) (Nat.le_of_ble_eq_true rfl) rfl (fun ls hl => ?_)
        refine r_aload_n C dX7_begin_63 hl rfl ?_
        refine r_getr C hw clX7 0 rfl 4 3 rfl (Nat.le_of_ble_eq_true rfl) hi_X7_begin_X7 hf_X7_begin_25 dX7_begin_64 ?_
        refine r_iload_n C dX7_begin_67 hl rfl ?_
        refine r_iload_n C dX7_begin_68 hl rfl ?_
        refine r_const C dX7_begin_69 ?_
        obtain ⟨ra, hT, hF⟩ := hwp
        refine r_icmp_ne C (tgt := 87) dX7_begin_70 rfl ra (by decide) (fun hc => ?_) (fun hc => ?_)
        · have hwp := hT hc
          refine r_aload_n C dX7_begin_87 hl rfl ?_
          refine r_get C hw clX4 7 rfl 0 0 rfl rfl (Nat.le_of_ble_eq_true rfl) hi_X7_begin_X4 hf_X7_begin_59 dX7_begin_88 ?_
          refine r_iload_n C dX7_begin_91 hl rfl ?_
          refine r_cIr hA hw sb_TouchS_0_0_7 (run_s C hw sb_TouchS_0_0_7 (c_X2_pairs hwp) (va_cwS 2 C.2.2.2.2.1 gX7_begin_X2_pairs rfl rfl rfl hd_X2_pairs ⟨Nat.le_of_ble_eq_true rfl, Nat.le_of_ble_eq_true rfl⟩) rfl rfl rfl hl dX7_begin_92 ⟨Nat.zero_le _, Nat.zero_le _⟩) (fun r H locs hwp hw => ?_)
          exact b_X7_begin_95 C hA hR ih hwp hw (lh_mask hl [true, true, true, false])
        · have hwp := hF hc
          refine r_aload_n C dX7_begin_73 hl rfl ?_
          refine r_getr C hw clX7 0 rfl 3 2 rfl (Nat.le_of_ble_eq_true rfl) hi_X7_begin_X7 hf_X7_begin_22 dX7_begin_74 ?_
          refine r_aload_n C dX7_begin_77 hl rfl ?_
          refine r_get C hw clX7 0 rfl 2 2 rfl rfl (Nat.le_of_ble_eq_true rfl) hi_X7_begin_X7 hf_X7_begin_19 dX7_begin_78 ?_
          refine r_const C dX7_begin_81 ?_
          refine r_isub C dX7_begin_82 ?_
          obtain ⟨h0, h1, hwp⟩ := hwp
          refine r_iald C hw 2 rfl rfl h0 h1 dX7_begin_83 ?_
          refine r_goto C (tgt := 95) dX7_begin_84 rfl ?_
          exact b_X7_begin_95 C hA hR ih hwp hw (lh_mask hl [true, true, true, false])
set_option maxRecDepth 100000 in
theorem b_X7_begin_10 {post : St → Prop} (C : cx p s m args meth c wsX7_begin RX7 cX7_begin 4 none D cA) (hA : ∀ q, s.heap.size ≤ q → A q) (hR : RtV p l e rm_X7_begin s m args below meth c Q cX7_begin D cA K_TouchS h A post) : ∀ (n : Nat) {v2 : Int} {σ : St} {H : Heap} {locs : List Loc} {ls : Array Slot}, wp_X7_begin_10 post n v2 σ → wd D cA K_TouchS h σ A s.heap H locs → lh ls 4 [some (.ref (h 0)), some (.ref (h 7)), some (iv v2), none] → W p l e rm_X7_begin s m args below meth c H locs 0 0 Q (F0 m 10 ls []) := by
  intro n; induction n with
  | zero => intros; rename_i hwp _ _; exact hwp.elim
  | succ n ih =>
    intro v2 σ H locs ls hwp hw hl
    refine r_iload_n C dX7_begin_10 hl rfl ?_
    refine r_aload_n C dX7_begin_11 hl rfl ?_
    refine r_get C hw clX7 0 rfl 2 2 rfl rfl (Nat.le_of_ble_eq_true rfl) hi_X7_begin_X7 hf_X7_begin_19 dX7_begin_12 ?_
    obtain ⟨ra, rb, hT, hF⟩ := hwp
    refine r_icmp_ge C (tgt := 43) dX7_begin_15 rfl ra rb (fun hc => ?_) (fun hc => ?_)
    · have hwp := hT hc
      refine r_const C dX7_begin_43 ?_
      refine r_istore_n C dX7_begin_44 hl (Nat.le_of_ble_eq_true rfl) (Nat.le_of_ble_eq_true rfl) rfl (fun ls hl => ?_)
      obtain ⟨n9, hwp⟩ := hwp
      exact b_X7_begin_45 C hA hR n9 hwp hw (lh_mask hl [true, true, true, false])
    · have hwp := hF hc
      refine r_aload_n C dX7_begin_18 hl rfl ?_
      refine r_getr C hw clX7 0 rfl 3 2 rfl (Nat.le_of_ble_eq_true rfl) hi_X7_begin_X7 hf_X7_begin_22 dX7_begin_19 ?_
      refine r_iload_n C dX7_begin_22 hl rfl ?_
      refine r_aload_n C dX7_begin_23 hl rfl ?_
      refine r_get C hw clX4 7 rfl 0 0 rfl rfl (Nat.le_of_ble_eq_true rfl) hi_X7_begin_X4 hf_X7_begin_59 dX7_begin_24 ?_
      refine r_aload_n C dX7_begin_27 hl rfl ?_
      refine r_getr C hw clX4 7 rfl 1 8 rfl (Nat.le_of_ble_eq_true rfl) hi_X7_begin_X4 hf_X7_begin_62 dX7_begin_28 ?_
      refine r_iload_n C dX7_begin_31 hl rfl ?_
      obtain ⟨h0, h1, hwp⟩ := hwp
      refine r_iald C hw 8 rfl rfl h0 h1 dX7_begin_32 ?_
      refine r_cIr hA hw sb_TouchS_0_0_7 (run_s C hw sb_TouchS_0_0_7 (c_X2_pairs hwp) (va_cwS 2 C.2.2.2.2.1 gX7_begin_X2_pairs rfl rfl rfl hd_X2_pairs ⟨Nat.le_of_ble_eq_true rfl, Nat.le_of_ble_eq_true rfl⟩) rfl rfl rfl hl dX7_begin_33 ⟨Nat.zero_le _, Nat.zero_le _⟩) (fun r H locs hwp hw => ?_)
      obtain ⟨h0, h1, hwp⟩ := hwp
      refine r_iast C hw 2 rfl rfl h0 h1 dX7_begin_36 (fun H locs hw => ?_)
      have hwp := hwp _ rfl
      refine r_iinc C dX7_begin_37 hl rfl (Nat.le_of_ble_eq_true rfl) rfl (fun ls hl => ?_)
      refine r_goto C (tgt := 10) dX7_begin_40 rfl ?_
      exact ih hwp hw (lh_mask hl [true, true, true, false])
set_option maxRecDepth 100000 in
theorem b_X7_begin_0 {post : St → Prop} (C : cx p s m args meth c wsX7_begin RX7 cX7_begin 4 none D cA) (hA : ∀ q, s.heap.size ≤ q → A q) (hR : RtV p l e rm_X7_begin s m args below meth c Q cX7_begin D cA K_TouchS h A post) : ∀ {σ : St} {H : Heap} {locs : List Loc} {ls : Array Slot}, wp_X7_begin σ post → wd D cA K_TouchS h σ A s.heap H locs → lh ls 4 [some (.ref (h 0)), some (.ref (h 7)), none, none] → W p l e rm_X7_begin s m args below meth c H locs 0 0 Q (F0 m 0 ls []) := by
  intro σ H locs ls hwp hw hl
  refine r_aload_n C dX7_begin_0 hl rfl ?_
  refine r_aload_n C dX7_begin_1 hl rfl ?_
  refine r_get C hw clX4 7 rfl 2 2 rfl rfl (Nat.le_of_ble_eq_true rfl) hi_X7_begin_X4 hf_X7_begin_58 dX7_begin_2 ?_
  refine r_put C hw clX7 0 rfl 2 2 rfl rfl (Nat.le_of_ble_eq_true rfl) hi_X7_begin_X7 hf_X7_begin_19 rfl ⟨nar_i _, fit_i _⟩ dX7_begin_5 (fun H locs hw => ?_)
  have hwp := hwp _ rfl
  refine r_const C dX7_begin_8 ?_
  refine r_istore_n C dX7_begin_9 hl (Nat.le_of_ble_eq_true rfl) (Nat.le_of_ble_eq_true rfl) rfl (fun ls hl => ?_)
  obtain ⟨n9, hwp⟩ := hwp
  exact b_X7_begin_10 C hA hR n9 hwp hw (lh_mask hl [true, true, true, false])
set_option maxRecDepth 100000 in
theorem c_X7_begin {l : Launch} {D : va_G} {cA : FieldType → ClassId} {h : Nat → Nat} {σ : St} {sz : Nat} {post : St → Prop} (hwp : wp_X7_begin σ post) : Met l yX7_begin wsX7_begin rm_X7_begin (va_Pc [.ref (h 0), .ref (h 7)] (preS D cA K_TouchS h σ sz)) (QV D cA K_TouchS h sz post) 0 0 (aA K_TouchS.length h sz) := by
  refine mk_met (cc := cX7_begin) (nL := 4) (ret := none) (own := RX7) 2 (by decide) rfl rfl rfl rfl ?_
  intro p e s m args below meth c ls hsz C hw hl hA
  subst hsz
  exact b_X7_begin_0 C hA (rt_v C _) hwp hw hl
-- X7_step
theorem hi_X7_step_X7 : ∀ w ∈ u_ws RX7 TX7 8, w ∈ wsX7_step := by decide +kernel
theorem hf_X7_step_9 : Cond.fieldLink RX7 9 (TX7 0).1 (TX7 0).2.1 (TX7 0).2.2.1 ∈ wsX7_step := by decide +kernel
theorem hf_X7_step_15 : Cond.fieldLink RX7 15 (TX7 1).1 (TX7 1).2.1 (TX7 1).2.2.1 ∈ wsX7_step := by decide +kernel
theorem hf_X7_step_19 : Cond.fieldLink RX7 19 (TX7 2).1 (TX7 2).2.1 (TX7 2).2.2.1 ∈ wsX7_step := by decide +kernel
theorem hf_X7_step_22 : Cond.fieldLink RX7 22 (TX7 3).1 (TX7 3).2.1 (TX7 3).2.2.1 ∈ wsX7_step := by decide +kernel
theorem hf_X7_step_25 : Cond.fieldLink RX7 25 (TX7 4).1 (TX7 4).2.1 (TX7 4).2.2.1 ∈ wsX7_step := by decide +kernel
def rm_X7_step : Room := { frames := 1, cells := 0, slots := 0, locals := 22 }
set_option maxRecDepth 100000 in
theorem b_X7_step_35 {post : St → Prop} (C : cx p s m args meth c wsX7_step RX7 cX7_step 4 none D cA) (hA : ∀ q, s.heap.size ≤ q → A q) (hR : RtV p l e rm_X7_step s m args below meth c Q cX7_step D cA K_Touch h A post) : ∀ {s0 : Int} {σ : St} {H : Heap} {locs : List Loc} {ls : Array Slot}, wp_X7_step_35 post s0 σ → wd D cA K_Touch h σ A s.heap H locs → lh ls 4 [some (.ref (h 0)), none, none, none] → W p l e rm_X7_step s m args below meth c H locs 0 0 Q (F0 m 35 ls [iv s0]) := by
  intro s0 σ H locs ls hwp hw hl
  refine r_istore_n C dX7_step_35 hl (Nat.le_of_ble_eq_true rfl) (Nat.le_of_ble_eq_true rfl) rfl (fun ls hl => ?_)
  refine r_aload_n C dX7_step_36 hl rfl ?_
  refine r_getr C hw clX7 0 rfl 0 1 rfl (Nat.le_of_ble_eq_true rfl) hi_X7_step_X7 hf_X7_step_9 dX7_step_37 ?_
  refine r_aload_n C dX7_step_40 hl rfl ?_
  refine r_get C hw clX7 0 rfl 1 1 rfl rfl (Nat.le_of_ble_eq_true rfl) hi_X7_step_X7 hf_X7_step_15 dX7_step_41 ?_
  refine r_const C dX7_step_44 ?_
  refine r_iadd C dX7_step_45 ?_
  refine r_aload_n C dX7_step_46 hl rfl ?_
  refine r_getr C hw clX7 0 rfl 0 1 rfl (Nat.le_of_ble_eq_true rfl) hi_X7_step_X7 hf_X7_step_9 dX7_step_47 ?_
  refine r_aload_n C dX7_step_50 hl rfl ?_
  refine r_get C hw clX7 0 rfl 1 1 rfl rfl (Nat.le_of_ble_eq_true rfl) hi_X7_step_X7 hf_X7_step_15 dX7_step_51 ?_
  obtain ⟨h0, h1, hwp⟩ := hwp
  refine r_iald C hw 1 rfl rfl h0 h1 dX7_step_54 ?_
  refine r_iload_n C dX7_step_55 hl rfl ?_
  refine r_cIr hA hw sb_Touch_0_0_9 (run_s C hw sb_Touch_0_0_9 (c_X2_swapped hwp) (va_cwS 2 C.2.2.2.2.1 gX7_step_X2_swapped rfl rfl rfl hd_X2_swapped ⟨Nat.le_of_ble_eq_true rfl, Nat.le_of_ble_eq_true rfl⟩) rfl rfl rfl hl dX7_step_56 ⟨Nat.zero_le _, Nat.zero_le _⟩) (fun r H locs hwp hw => ?_)
  obtain ⟨h0, h1, hwp⟩ := hwp
  refine r_iast C hw 1 rfl rfl h0 h1 dX7_step_59 (fun H locs hw => ?_)
  have hwp := hwp _ rfl
  refine r_aload_n C dX7_step_60 hl rfl ?_
  refine r_dup C dX7_step_61 rfl ?_
  refine r_get C hw clX7 0 rfl 1 1 rfl rfl (Nat.le_of_ble_eq_true rfl) hi_X7_step_X7 hf_X7_step_15 dX7_step_62 ?_
  refine r_const C dX7_step_65 ?_
  refine r_iadd C dX7_step_66 ?_
  refine r_put C hw clX7 0 rfl 1 1 rfl rfl (Nat.le_of_ble_eq_true rfl) hi_X7_step_X7 hf_X7_step_15 rfl ⟨nar_i _, fit_i _⟩ dX7_step_67 (fun H locs hw => ?_)
  have hwp := hwp _ rfl
  exact hR _ _ _ _ _ dX7_step_70 hwp hw
set_option maxRecDepth 100000 in
theorem b_X7_step_0 {post : St → Prop} (C : cx p s m args meth c wsX7_step RX7 cX7_step 4 none D cA) (hA : ∀ q, s.heap.size ≤ q → A q) (hR : RtV p l e rm_X7_step s m args below meth c Q cX7_step D cA K_Touch h A post) : ∀ {v1 v2 : Int} {σ : St} {H : Heap} {locs : List Loc} {ls : Array Slot}, wp_X7_step σ v1 v2 post → wd D cA K_Touch h σ A s.heap H locs → lh ls 4 [some (.ref (h 0)), some (iv v1), some (iv v2), none] → W p l e rm_X7_step s m args below meth c H locs 0 0 Q (F0 m 0 ls []) := by
  intro v1 v2 σ H locs ls hwp hw hl
  refine r_aload_n C dX7_step_0 hl rfl ?_
  refine r_get C hw clX7 0 rfl 1 1 rfl rfl (Nat.le_of_ble_eq_true rfl) hi_X7_step_X7 hf_X7_step_15 dX7_step_1 ?_
  refine r_sipush C dX7_step_4 bps_192 ?_
  obtain ⟨ra, hT, hF⟩ := hwp
  refine r_icmp_ge C (tgt := 70) dX7_step_7 rfl ra (by decide) (fun hc => ?_) (fun hc => ?_)
  · have hwp := hT hc
    exact hR _ _ _ _ _ dX7_step_70 hwp hw
  · have hwp := hF hc
    refine r_iload_n C dX7_step_10 hl rfl ?_
    refine r_aload_n C dX7_step_11 hl rfl ?_
    refine r_get C hw clX7 0 rfl 2 2 rfl rfl (Nat.le_of_ble_eq_true rfl) hi_X7_step_X7 hf_X7_step_19 dX7_step_12 ?_
    refine r_const C dX7_step_15 ?_
    refine r_isub C dX7_step_16 ?_
    obtain ⟨ra, rb, hT, hF⟩ := hwp
    refine r_icmp_ne C (tgt := 29) dX7_step_17 rfl ra rb (fun hc => ?_) (fun hc => ?_)
    · have hwp := hT hc
      refine r_aload_n C dX7_step_29 hl rfl ?_
      refine r_getr C hw clX7 0 rfl 3 2 rfl (Nat.le_of_ble_eq_true rfl) hi_X7_step_X7 hf_X7_step_22 dX7_step_30 ?_
      refine r_iload_n C dX7_step_33 hl rfl ?_
      obtain ⟨h0, h1, hwp⟩ := hwp
      refine r_iald C hw 2 rfl rfl h0 h1 dX7_step_34 ?_
      exact b_X7_step_35 C hA hR hwp hw (lh_mask hl [true, false, false, false])
    · have hwp := hF hc
      refine r_aload_n C dX7_step_20 hl rfl ?_
      refine r_getr C hw clX7 0 rfl 4 3 rfl (Nat.le_of_ble_eq_true rfl) hi_X7_step_X7 hf_X7_step_25 dX7_step_21 ?_
      refine r_iload_n C dX7_step_24 hl rfl ?_
      obtain ⟨h0, h1, hwp⟩ := hwp
      refine r_iald C hw 3 rfl rfl h0 h1 dX7_step_25 ?_
      refine r_goto C (tgt := 35) dX7_step_26 rfl ?_
      exact b_X7_step_35 C hA hR hwp hw (lh_mask hl [true, false, false, false])
set_option maxRecDepth 100000 in
theorem c_X7_step {l : Launch} {D : va_G} {cA : FieldType → ClassId} {h : Nat → Nat} {σ : St} {sz : Nat} {v1 v2 : Int} {post : St → Prop} (hwp : wp_X7_step σ v1 v2 post) : Met l yX7_step wsX7_step rm_X7_step (va_Pc [.ref (h 0), iv v1, iv v2] (preS D cA K_Touch h σ sz)) (QV D cA K_Touch h sz post) 0 0 (aA K_Touch.length h sz) := by
  refine mk_met (cc := cX7_step) (nL := 4) (ret := none) (own := RX7) 1 (by decide) rfl rfl rfl rfl ?_
  intro p e s m args below meth c ls hsz C hw hl hA
  subst hsz
  exact b_X7_step_0 C hA (rt_v C _) hwp hw hl
-- X7_ring
theorem hi_X7_ring_X4 : ∀ w ∈ u_ws RX4 TX4 11, w ∈ wsX7_ring := by decide +kernel
theorem hi_X7_ring_X7 : ∀ w ∈ u_ws RX7 TX7 8, w ∈ wsX7_ring := by decide +kernel
theorem hf_X7_ring_51 : Cond.fieldLink RX7 51 (TX4 5).1 (TX4 5).2.1 (TX4 5).2.2.1 ∈ wsX7_ring := by decide +kernel
theorem hf_X7_ring_46 : Cond.fieldLink RX7 46 (TX4 6).1 (TX4 6).2.1 (TX4 6).2.2.1 ∈ wsX7_ring := by decide +kernel
theorem hf_X7_ring_19 : Cond.fieldLink RX7 19 (TX7 2).1 (TX7 2).2.1 (TX7 2).2.2.1 ∈ wsX7_ring := by decide +kernel
def rm_X7_ring : Room := { frames := 3, cells := 0, slots := 0, locals := 67 }
set_option maxRecDepth 100000 in
theorem b_X7_ring_17 {post : St → Prop} (C : cx p s m args meth c wsX7_ring RX7 cX7_ring 4 none D cA) (hA : ∀ q, s.heap.size ≤ q → A q) (hR : RtV p l e rm_X7_ring s m args below meth c Q cX7_ring D cA K_TouchS h A post) {k7 : Int → St → Prop} (hk7 : ∀ {v2 : Int} {σ : St} {H : Heap} {locs : List Loc} {ls : Array Slot}, k7 v2 σ → wd D cA K_TouchS h σ A s.heap H locs → lh ls 4 [some (.ref (h 0)), some (.ref (h 7)), some (iv v2), none] → W p l e rm_X7_ring s m args below meth c H locs 0 0 Q (F0 m 7 ls [])) : ∀ (n : Nat) {v2 v3 : Int} {σ : St} {H : Heap} {locs : List Loc} {ls : Array Slot}, wp_X7_ring_17 k7 post n v2 v3 σ → wd D cA K_TouchS h σ A s.heap H locs → lh ls 4 [some (.ref (h 0)), some (.ref (h 7)), some (iv v2), some (iv v3)] → W p l e rm_X7_ring s m args below meth c H locs 0 0 Q (F0 m 17 ls []) := by
  intro n; induction n with
  | zero => intros; rename_i hwp _ _; exact hwp.elim
  | succ n ih =>
    intro v2 v3 σ H locs ls hwp hw hl
    refine r_iload_n C dX7_ring_17 hl rfl ?_
    refine r_aload_n C dX7_ring_18 hl rfl ?_
    refine r_get C hw clX7 0 rfl 2 2 rfl rfl (Nat.le_of_ble_eq_true rfl) hi_X7_ring_X7 hf_X7_ring_19 dX7_ring_19 ?_
    obtain ⟨ra, rb, hT, hF⟩ := hwp
    refine r_icmp_ge C (tgt := 42) dX7_ring_22 rfl ra rb (fun hc => ?_) (fun hc => ?_)
    · have hwp := hT hc
      refine r_iinc C dX7_ring_42 hl rfl (Nat.le_of_ble_eq_true rfl) rfl (fun ls hl => ?_)
      refine r_goto C (tgt := 7) dX7_ring_45 rfl ?_
      exact hk7 hwp hw (lh_mask hl [true, true, true, false])
    · have hwp := hF hc
      refine r_aload_n C dX7_ring_25 hl rfl ?_
      refine r_iload_n C dX7_ring_26 hl rfl ?_
      refine r_aload_n C dX7_ring_27 hl rfl ?_
      refine r_getr C hw clX4 7 rfl 5 9 rfl (Nat.le_of_ble_eq_true rfl) hi_X7_ring_X4 hf_X7_ring_51 dX7_ring_28 ?_
      refine r_iload_n C dX7_ring_31 hl rfl ?_
      obtain ⟨h0, h1, hwp⟩ := hwp
      refine r_iald C hw 9 rfl rfl h0 h1 dX7_ring_32 ?_
      refine r_cV hA hw sb_TouchS_Touch_0_10 (run_v C hw sb_TouchS_Touch_0_10 clX7 rfl (c_X7_step hwp) (cwV 2 C.2.2.2.2.1 gX7_ring_X7_step rfl rfl rfl hd_X7_step ⟨Nat.le_of_ble_eq_true rfl, Nat.le_of_ble_eq_true rfl⟩) rfl rfl rfl hl dX7_ring_33 ⟨Nat.zero_le _, Nat.zero_le _⟩) (fun σ H locs hwp hw => ?_)
      have hwp := hwp _ rfl
      refine r_iinc C dX7_ring_36 hl rfl (Nat.le_of_ble_eq_true rfl) rfl (fun ls hl => ?_)
      refine r_goto C (tgt := 17) dX7_ring_39 rfl ?_
      exact ih hwp hw (lh_mask hl [true, true, true, true])
set_option maxRecDepth 100000 in
theorem b_X7_ring_7 {post : St → Prop} (C : cx p s m args meth c wsX7_ring RX7 cX7_ring 4 none D cA) (hA : ∀ q, s.heap.size ≤ q → A q) (hR : RtV p l e rm_X7_ring s m args below meth c Q cX7_ring D cA K_TouchS h A post) : ∀ (n : Nat) {v2 : Int} {σ : St} {H : Heap} {locs : List Loc} {ls : Array Slot}, wp_X7_ring_7 post n v2 σ → wd D cA K_TouchS h σ A s.heap H locs → lh ls 4 [some (.ref (h 0)), some (.ref (h 7)), some (iv v2), none] → W p l e rm_X7_ring s m args below meth c H locs 0 0 Q (F0 m 7 ls []) := by
  intro n; induction n with
  | zero => intros; rename_i hwp _ _; exact hwp.elim
  | succ n ih =>
    intro v2 σ H locs ls hwp hw hl
    refine r_iload_n C dX7_ring_7 hl rfl ?_
    refine r_aload_n C dX7_ring_8 hl rfl ?_
    refine r_get C hw clX4 7 rfl 6 6 rfl rfl (Nat.le_of_ble_eq_true rfl) hi_X7_ring_X4 hf_X7_ring_46 dX7_ring_9 ?_
    obtain ⟨ra, rb, hT, hF⟩ := hwp
    refine r_icmp_ge C (tgt := 48) dX7_ring_12 rfl ra rb (fun hc => ?_) (fun hc => ?_)
    · have hwp := hT hc
      exact hR _ _ _ _ _ dX7_ring_48 hwp hw
    · have hwp := hF hc
      refine r_const C dX7_ring_15 ?_
      refine r_istore_n C dX7_ring_16 hl (Nat.le_of_ble_eq_true rfl) (Nat.le_of_ble_eq_true rfl) rfl (fun ls hl => ?_)
      obtain ⟨n9, hwp⟩ := hwp
      exact b_X7_ring_17 C hA hR ih n9 hwp hw (lh_mask hl [true, true, true, true])
set_option maxRecDepth 100000 in
theorem b_X7_ring_0 {post : St → Prop} (C : cx p s m args meth c wsX7_ring RX7 cX7_ring 4 none D cA) (hA : ∀ q, s.heap.size ≤ q → A q) (hR : RtV p l e rm_X7_ring s m args below meth c Q cX7_ring D cA K_TouchS h A post) : ∀ {σ : St} {H : Heap} {locs : List Loc} {ls : Array Slot}, wp_X7_ring σ post → wd D cA K_TouchS h σ A s.heap H locs → lh ls 4 [some (.ref (h 0)), some (.ref (h 7)), none, none] → W p l e rm_X7_ring s m args below meth c H locs 0 0 Q (F0 m 0 ls []) := by
  intro σ H locs ls hwp hw hl
  refine r_aload_n C dX7_ring_0 hl rfl ?_
  refine r_aload_n C dX7_ring_1 hl rfl ?_
  refine r_cV0 hA hw (run_v0 C hw clX7 rfl (c_X7_begin hwp) (cwV 1 C.2.2.2.2.1 gX7_ring_X7_begin rfl rfl rfl hd_X7_begin ⟨Nat.le_of_ble_eq_true rfl, Nat.le_of_ble_eq_true rfl⟩) rfl rfl rfl hl dX7_ring_2 ⟨Nat.zero_le _, Nat.zero_le _⟩) (fun σ H locs hwp hw => ?_)
  refine r_const C dX7_ring_5 ?_
  refine r_istore_n C dX7_ring_6 hl (Nat.le_of_ble_eq_true rfl) (Nat.le_of_ble_eq_true rfl) rfl (fun ls hl => ?_)
  obtain ⟨n9, hwp⟩ := hwp
  exact b_X7_ring_7 C hA hR n9 hwp hw (lh_mask hl [true, true, true, false])
set_option maxRecDepth 100000 in
theorem c_X7_ring {l : Launch} {D : va_G} {cA : FieldType → ClassId} {h : Nat → Nat} {σ : St} {sz : Nat} {post : St → Prop} (hwp : wp_X7_ring σ post) : Met l yX7_ring wsX7_ring rm_X7_ring (va_Pc [.ref (h 0), .ref (h 7)] (preS D cA K_TouchS h σ sz)) (QV D cA K_TouchS h sz post) 0 0 (aA K_TouchS.length h sz) := by
  refine mk_met (cc := cX7_ring) (nL := 4) (ret := none) (own := RX7) 2 (by decide) rfl rfl rfl rfl ?_
  intro p e s m args below meth c ls hsz C hw hl hA
  subst hsz
  exact b_X7_ring_0 C hA (rt_v C _) hwp hw hl
-- X7_compare
theorem hi_X7_compare_X7 : ∀ w ∈ u_ws RX7 TX7 8, w ∈ wsX7_compare := by decide +kernel
theorem hf_X7_compare_9 : Cond.fieldLink RX7 9 (TX7 0).1 (TX7 0).2.1 (TX7 0).2.2.1 ∈ wsX7_compare := by decide +kernel
theorem hf_X7_compare_15 : Cond.fieldLink RX7 15 (TX7 1).1 (TX7 1).2.1 (TX7 1).2.2.1 ∈ wsX7_compare := by decide +kernel
theorem hf_X7_compare_28 : Cond.fieldLink RX7 28 (TX7 5).1 (TX7 5).2.1 (TX7 5).2.2.1 ∈ wsX7_compare := by decide +kernel
theorem hf_X7_compare_34 : Cond.fieldLink RX7 34 (TX7 6).1 (TX7 6).2.1 (TX7 6).2.2.1 ∈ wsX7_compare := by decide +kernel
theorem hf_X7_compare_38 : Cond.fieldLink RX7 38 (TX7 7).1 (TX7 7).2.1 (TX7 7).2.2.1 ∈ wsX7_compare := by decide +kernel
def rm_X7_compare : Room := { frames := 2, cells := 0, slots := 0, locals := 46 }
set_option maxRecDepth 100000 in
theorem b_X7_compare_47 {post : St → Prop} (C : cx p s m args meth c wsX7_compare RX7 cX7_compare 2 none D cA) (hA : ∀ q, s.heap.size ≤ q → A q) (hR : RtV p l e rm_X7_compare s m args below meth c Q cX7_compare D cA K_Touch h A post) : ∀ (n : Nat) {v1 : Int} {σ : St} {H : Heap} {locs : List Loc} {ls : Array Slot}, wp_X7_compare_47 post n v1 σ → wd D cA K_Touch h σ A s.heap H locs → lh ls 2 [some (.ref (h 0)), some (iv v1)] → W p l e rm_X7_compare s m args below meth c H locs 0 0 Q (F0 m 47 ls []) := by
  intro n; induction n with
  | zero => intros; rename_i hwp _ _; exact hwp.elim
  | succ n ih =>
    intro v1 σ H locs ls hwp hw hl
    refine r_iload_n C dX7_compare_47 hl rfl ?_
    obtain ⟨ra, hT, hF⟩ := hwp
    refine r_if_lt C (tgt := 69) dX7_compare_48 rfl ra (fun hc => ?_) (fun hc => ?_)
    · have hwp := hT hc
      refine r_aload_n C dX7_compare_69 hl rfl ?_
      refine r_const C dX7_compare_70 ?_
      refine r_put C hw clX7 0 rfl 7 7 rfl rfl (Nat.le_of_ble_eq_true rfl) hi_X7_compare_X7 hf_X7_compare_38 rfl (oi_z (Or.inr rfl)) dX7_compare_71 (fun H locs hw => ?_)
      have hwp := hwp _ rfl
      exact hR _ _ _ _ _ dX7_compare_74 hwp hw
    · have hwp := hF hc
      refine r_aload_n C dX7_compare_51 hl rfl ?_
      refine r_getr C hw clX7 0 rfl 6 5 rfl (Nat.le_of_ble_eq_true rfl) hi_X7_compare_X7 hf_X7_compare_34 dX7_compare_52 ?_
      refine r_aload_n C dX7_compare_55 hl rfl ?_
      refine r_getr C hw clX7 0 rfl 0 1 rfl (Nat.le_of_ble_eq_true rfl) hi_X7_compare_X7 hf_X7_compare_9 dX7_compare_56 ?_
      refine r_iload_n C dX7_compare_59 hl rfl ?_
      refine r_cV hA hw sb_Touch_RTr_5_11 (run_v C hw sb_Touch_RTr_5_11 clX3 rfl (c_X3_leave hwp) (cwV 2 C.2.2.2.2.1 gX7_compare_X3_leave rfl rfl rfl hd_X3_leave ⟨Nat.le_of_ble_eq_true rfl, Nat.le_of_ble_eq_true rfl⟩) rfl rfl rfl hl dX7_compare_60 ⟨Nat.zero_le _, Nat.zero_le _⟩) (fun σ H locs hwp hw => ?_)
      have hwp := hwp _ rfl
      refine r_iinc C dX7_compare_63 hl rfl (Nat.le_of_ble_eq_true rfl) rfl (fun ls hl => ?_)
      refine r_goto C (tgt := 47) dX7_compare_66 rfl ?_
      exact ih hwp hw (lh_mask hl [true, true])
set_option maxRecDepth 100000 in
theorem b_X7_compare_10 {post : St → Prop} (C : cx p s m args meth c wsX7_compare RX7 cX7_compare 2 none D cA) (hA : ∀ q, s.heap.size ≤ q → A q) (hR : RtV p l e rm_X7_compare s m args below meth c Q cX7_compare D cA K_Touch h A post) : ∀ (n : Nat) {v1 : Int} {σ : St} {H : Heap} {locs : List Loc} {ls : Array Slot}, wp_X7_compare_10 post n v1 σ → wd D cA K_Touch h σ A s.heap H locs → lh ls 2 [some (.ref (h 0)), some (iv v1)] → W p l e rm_X7_compare s m args below meth c H locs 0 0 Q (F0 m 10 ls []) := by
  intro n; induction n with
  | zero => intros; rename_i hwp _ _; exact hwp.elim
  | succ n ih =>
    intro v1 σ H locs ls hwp hw hl
    refine r_iload_n C dX7_compare_10 hl rfl ?_
    refine r_aload_n C dX7_compare_11 hl rfl ?_
    refine r_get C hw clX7 0 rfl 1 1 rfl rfl (Nat.le_of_ble_eq_true rfl) hi_X7_compare_X7 hf_X7_compare_15 dX7_compare_12 ?_
    obtain ⟨ra, rb, hT, hF⟩ := hwp
    refine r_icmp_gt C (tgt := 42) dX7_compare_15 rfl ra rb (fun hc => ?_) (fun hc => ?_)
    · have hwp := hT hc
      refine r_aload_n C dX7_compare_42 hl rfl ?_
      refine r_get C hw clX7 0 rfl 1 1 rfl rfl (Nat.le_of_ble_eq_true rfl) hi_X7_compare_X7 hf_X7_compare_15 dX7_compare_43 ?_
      refine r_istore_n C dX7_compare_46 hl (Nat.le_of_ble_eq_true rfl) (Nat.le_of_ble_eq_true rfl) rfl (fun ls hl => ?_)
      obtain ⟨n9, hwp⟩ := hwp
      exact b_X7_compare_47 C hA hR n9 hwp hw (lh_mask hl [true, true])
    · have hwp := hF hc
      refine r_aload_n C dX7_compare_18 hl rfl ?_
      refine r_getr C hw clX7 0 rfl 5 4 rfl (Nat.le_of_ble_eq_true rfl) hi_X7_compare_X7 hf_X7_compare_28 dX7_compare_19 ?_
      refine r_iload_n C dX7_compare_22 hl rfl ?_
      refine r_aload_n C dX7_compare_23 hl rfl ?_
      refine r_getr C hw clX7 0 rfl 6 5 rfl (Nat.le_of_ble_eq_true rfl) hi_X7_compare_X7 hf_X7_compare_34 dX7_compare_24 ?_
      refine r_aload_n C dX7_compare_27 hl rfl ?_
      refine r_getr C hw clX7 0 rfl 0 1 rfl (Nat.le_of_ble_eq_true rfl) hi_X7_compare_X7 hf_X7_compare_9 dX7_compare_28 ?_
      refine r_iload_n C dX7_compare_31 hl rfl ?_
      refine r_cI hA hw sb_Touch_RTr_5_11 (run_v C hw sb_Touch_RTr_5_11 clX3 rfl (c_X3_enter hwp) (cwV 2 C.2.2.2.2.1 gX7_compare_X3_enter rfl rfl rfl hd_X3_enter ⟨Nat.le_of_ble_eq_true rfl, Nat.le_of_ble_eq_true rfl⟩) rfl rfl rfl hl dX7_compare_32 ⟨Nat.zero_le _, Nat.zero_le _⟩) (fun r σ H locs hwp hw => ?_)
      have hwp := hwp _ rfl
      obtain ⟨h0, h1, hwp⟩ := hwp
      refine r_iast C hw 4 rfl rfl h0 h1 dX7_compare_35 (fun H locs hw => ?_)
      have hwp := hwp _ rfl
      refine r_iinc C dX7_compare_36 hl rfl (Nat.le_of_ble_eq_true rfl) rfl (fun ls hl => ?_)
      refine r_goto C (tgt := 10) dX7_compare_39 rfl ?_
      exact ih hwp hw (lh_mask hl [true, true])
set_option maxRecDepth 100000 in
theorem b_X7_compare_0 {post : St → Prop} (C : cx p s m args meth c wsX7_compare RX7 cX7_compare 2 none D cA) (hA : ∀ q, s.heap.size ≤ q → A q) (hR : RtV p l e rm_X7_compare s m args below meth c Q cX7_compare D cA K_Touch h A post) : ∀ {σ : St} {H : Heap} {locs : List Loc} {ls : Array Slot}, wp_X7_compare σ post → wd D cA K_Touch h σ A s.heap H locs → lh ls 2 [some (.ref (h 0)), none] → W p l e rm_X7_compare s m args below meth c H locs 0 0 Q (F0 m 0 ls []) := by
  intro σ H locs ls hwp hw hl
  refine r_aload_n C dX7_compare_0 hl rfl ?_
  refine r_get C hw clX7 0 rfl 7 7 rfl rfl (Nat.le_of_ble_eq_true rfl) hi_X7_compare_X7 hf_X7_compare_38 dX7_compare_1 ?_
  obtain ⟨ra, hT, hF⟩ := hwp
  refine r_if_eq C (tgt := 8) dX7_compare_4 rfl ra (fun hc => ?_) (fun hc => ?_)
  · have hwp := hT hc
    refine r_const C dX7_compare_8 ?_
    refine r_istore_n C dX7_compare_9 hl (Nat.le_of_ble_eq_true rfl) (Nat.le_of_ble_eq_true rfl) rfl (fun ls hl => ?_)
    obtain ⟨n9, hwp⟩ := hwp
    exact b_X7_compare_10 C hA hR n9 hwp hw (lh_mask hl [true, true])
  · have hwp := hF hc
    exact hR _ _ _ _ _ dX7_compare_7 hwp hw
set_option maxRecDepth 100000 in
theorem c_X7_compare {l : Launch} {D : va_G} {cA : FieldType → ClassId} {h : Nat → Nat} {σ : St} {sz : Nat} {post : St → Prop} (hwp : wp_X7_compare σ post) : Met l yX7_compare wsX7_compare rm_X7_compare (va_Pc [.ref (h 0)] (preS D cA K_Touch h σ sz)) (QV D cA K_Touch h sz post) 0 0 (aA K_Touch.length h sz) := by
  refine mk_met (cc := cX7_compare) (nL := 2) (ret := none) (own := RX7) 1 (by decide) rfl rfl rfl rfl ?_
  intro p e s m args below meth c ls hsz C hw hl hA
  subst hsz
  exact b_X7_compare_0 C hA (rt_v C _) hwp hw hl
-- X7_firstAs
theorem hi_X7_firstAs_X7 : ∀ w ∈ u_ws RX7 TX7 8, w ∈ wsX7_firstAs := by decide +kernel
theorem hf_X7_firstAs_28 : Cond.fieldLink RX7 28 (TX7 5).1 (TX7 5).2.1 (TX7 5).2.2.1 ∈ wsX7_firstAs := by decide +kernel
def rm_X7_firstAs : Room := { frames := 3, cells := 0, slots := 0, locals := 67 }
set_option maxRecDepth 100000 in
theorem b_X7_firstAs_0 {post : Int → St → Prop} (C : cx p s m args meth c wsX7_firstAs RX7 cX7_firstAs 2 (some .int) D cA) (hA : ∀ q, s.heap.size ≤ q → A q) (hR : RtI p l e rm_X7_firstAs s m args below meth c Q cX7_firstAs D cA K_Touch h A (fun _ => True) post) : ∀ {v1 : Int} {σ : St} {H : Heap} {locs : List Loc} {ls : Array Slot}, wp_X7_firstAs σ v1 post → wd D cA K_Touch h σ A s.heap H locs → lh ls 2 [some (.ref (h 0)), some (iv v1)] → W p l e rm_X7_firstAs s m args below meth c H locs 0 0 Q (F0 m 0 ls []) := by
  intro v1 σ H locs ls hwp hw hl
  refine r_aload_n C dX7_firstAs_0 hl rfl ?_
  refine r_cV0 hA hw (run_v0 C hw clX7 rfl (c_X7_compare hwp) (cwV 0 C.2.2.2.2.1 gX7_firstAs_X7_compare rfl rfl rfl hd_X7_compare ⟨Nat.le_of_ble_eq_true rfl, Nat.le_of_ble_eq_true rfl⟩) rfl rfl rfl hl dX7_firstAs_1 ⟨Nat.zero_le _, Nat.zero_le _⟩) (fun σ H locs hwp hw => ?_)
  refine r_aload_n C dX7_firstAs_4 hl rfl ?_
  refine r_getr C hw clX7 0 rfl 5 4 rfl (Nat.le_of_ble_eq_true rfl) hi_X7_firstAs_X7 hf_X7_firstAs_28 dX7_firstAs_5 ?_
  refine r_iload_n C dX7_firstAs_8 hl rfl ?_
  obtain ⟨h0, h1, hwp⟩ := hwp
  refine r_iald C hw 4 rfl rfl h0 h1 dX7_firstAs_9 ?_
  exact hR _ _ _ _ _ _ dX7_firstAs_10 trivial hwp hw
set_option maxRecDepth 100000 in
theorem c_X7_firstAs {l : Launch} {D : va_G} {cA : FieldType → ClassId} {h : Nat → Nat} {σ : St} {sz : Nat} {v1 : Int} {post : Int → St → Prop} (hwp : wp_X7_firstAs σ v1 post) : Met l yX7_firstAs wsX7_firstAs rm_X7_firstAs (va_Pc [.ref (h 0), iv v1] (preS D cA K_Touch h σ sz)) (QI D cA K_Touch h sz post) 0 0 (aA K_Touch.length h sz) := by
  refine mk_met (cc := cX7_firstAs) (nL := 2) (ret := (some .int)) (own := RX7) 0 (by decide) rfl rfl rfl rfl ?_
  intro p e s m args below meth c ls hsz C hw hl hA
  subst hsz
  exact b_X7_firstAs_0 C hA (rt_i C _) hwp hw hl
-- X7_roundRow
theorem hi_X7_roundRow_X7 : ∀ w ∈ u_ws RX7 TX7 8, w ∈ wsX7_roundRow := by decide +kernel
theorem hf_X7_roundRow_15 : Cond.fieldLink RX7 15 (TX7 1).1 (TX7 1).2.1 (TX7 1).2.2.1 ∈ wsX7_roundRow := by decide +kernel
theorem hf_X7_roundRow_28 : Cond.fieldLink RX7 28 (TX7 5).1 (TX7 5).2.1 (TX7 5).2.2.1 ∈ wsX7_roundRow := by decide +kernel
def rm_X7_roundRow : Room := { frames := 3, cells := 0, slots := 0, locals := 67 }
set_option maxRecDepth 100000 in
theorem b_X7_roundRow_6 {post : Int → St → Prop} (C : cx p s m args meth c wsX7_roundRow RX7 cX7_roundRow 2 (some .int) D cA) (hA : ∀ q, s.heap.size ≤ q → A q) (hR : RtI p l e rm_X7_roundRow s m args below meth c Q cX7_roundRow D cA K_Touch h A (fun _ => True) post) : ∀ (n : Nat) {v1 : Int} {σ : St} {H : Heap} {locs : List Loc} {ls : Array Slot}, wp_X7_roundRow_6 post n v1 σ → wd D cA K_Touch h σ A s.heap H locs → lh ls 2 [some (.ref (h 0)), some (iv v1)] → W p l e rm_X7_roundRow s m args below meth c H locs 0 0 Q (F0 m 6 ls []) := by
  intro n; induction n with
  | zero => intros; rename_i hwp _ _; exact hwp.elim
  | succ n ih =>
    intro v1 σ H locs ls hwp hw hl
    refine r_iload_n C dX7_roundRow_6 hl rfl ?_
    refine r_aload_n C dX7_roundRow_7 hl rfl ?_
    refine r_get C hw clX7 0 rfl 1 1 rfl rfl (Nat.le_of_ble_eq_true rfl) hi_X7_roundRow_X7 hf_X7_roundRow_15 dX7_roundRow_8 ?_
    obtain ⟨ra, rb, hT, hF⟩ := hwp
    refine r_icmp_gt C (tgt := 31) dX7_roundRow_11 rfl ra rb (fun hc => ?_) (fun hc => ?_)
    · have hwp := hT hc
      refine r_bipush C dX7_roundRow_31 bpb_m5 ?_
      exact hR _ _ _ _ _ _ dX7_roundRow_33 trivial hwp hw
    · have hwp := hF hc
      refine r_aload_n C dX7_roundRow_14 hl rfl ?_
      refine r_getr C hw clX7 0 rfl 5 4 rfl (Nat.le_of_ble_eq_true rfl) hi_X7_roundRow_X7 hf_X7_roundRow_28 dX7_roundRow_15 ?_
      refine r_iload_n C dX7_roundRow_18 hl rfl ?_
      obtain ⟨h0, h1, hwp⟩ := hwp
      refine r_iald C hw 4 rfl rfl h0 h1 dX7_roundRow_19 ?_
      obtain ⟨ra, hT, hF⟩ := hwp
      refine r_if_ne C (tgt := 25) dX7_roundRow_20 rfl ra (fun hc => ?_) (fun hc => ?_)
      · have hwp := hT hc
        refine r_iinc C dX7_roundRow_25 hl rfl (Nat.le_of_ble_eq_true rfl) rfl (fun ls hl => ?_)
        refine r_goto C (tgt := 6) dX7_roundRow_28 rfl ?_
        exact ih hwp hw (lh_mask hl [true, true])
      · have hwp := hF hc
        refine r_iload_n C dX7_roundRow_23 hl rfl ?_
        exact hR _ _ _ _ _ _ dX7_roundRow_24 trivial hwp hw
set_option maxRecDepth 100000 in
theorem b_X7_roundRow_0 {post : Int → St → Prop} (C : cx p s m args meth c wsX7_roundRow RX7 cX7_roundRow 2 (some .int) D cA) (hA : ∀ q, s.heap.size ≤ q → A q) (hR : RtI p l e rm_X7_roundRow s m args below meth c Q cX7_roundRow D cA K_Touch h A (fun _ => True) post) : ∀ {σ : St} {H : Heap} {locs : List Loc} {ls : Array Slot}, wp_X7_roundRow σ post → wd D cA K_Touch h σ A s.heap H locs → lh ls 2 [some (.ref (h 0)), none] → W p l e rm_X7_roundRow s m args below meth c H locs 0 0 Q (F0 m 0 ls []) := by
  intro σ H locs ls hwp hw hl
  refine r_aload_n C dX7_roundRow_0 hl rfl ?_
  refine r_cV0 hA hw (run_v0 C hw clX7 rfl (c_X7_compare hwp) (cwV 0 C.2.2.2.2.1 gX7_roundRow_X7_compare rfl rfl rfl hd_X7_compare ⟨Nat.le_of_ble_eq_true rfl, Nat.le_of_ble_eq_true rfl⟩) rfl rfl rfl hl dX7_roundRow_1 ⟨Nat.zero_le _, Nat.zero_le _⟩) (fun σ H locs hwp hw => ?_)
  refine r_const C dX7_roundRow_4 ?_
  refine r_istore_n C dX7_roundRow_5 hl (Nat.le_of_ble_eq_true rfl) (Nat.le_of_ble_eq_true rfl) rfl (fun ls hl => ?_)
  obtain ⟨n9, hwp⟩ := hwp
  exact b_X7_roundRow_6 C hA hR n9 hwp hw (lh_mask hl [true, true])
set_option maxRecDepth 100000 in
theorem c_X7_roundRow {l : Launch} {D : va_G} {cA : FieldType → ClassId} {h : Nat → Nat} {σ : St} {sz : Nat} {post : Int → St → Prop} (hwp : wp_X7_roundRow σ post) : Met l yX7_roundRow wsX7_roundRow rm_X7_roundRow (va_Pc [.ref (h 0)] (preS D cA K_Touch h σ sz)) (QI D cA K_Touch h sz post) 0 0 (aA K_Touch.length h sz) := by
  refine mk_met (cc := cX7_roundRow) (nL := 2) (ret := (some .int)) (own := RX7) 1 (by decide) rfl rfl rfl rfl ?_
  intro p e s m args below meth c ls hsz C hw hl hA
  subst hsz
  exact b_X7_roundRow_0 C hA (rt_i C _) hwp hw hl
-- X7_falseRow
theorem hi_X7_falseRow_X7 : ∀ w ∈ u_ws RX7 TX7 8, w ∈ wsX7_falseRow := by decide +kernel
theorem hf_X7_falseRow_15 : Cond.fieldLink RX7 15 (TX7 1).1 (TX7 1).2.1 (TX7 1).2.2.1 ∈ wsX7_falseRow := by decide +kernel
theorem hf_X7_falseRow_28 : Cond.fieldLink RX7 28 (TX7 5).1 (TX7 5).2.1 (TX7 5).2.2.1 ∈ wsX7_falseRow := by decide +kernel
def rm_X7_falseRow : Room := { frames := 3, cells := 0, slots := 0, locals := 67 }
set_option maxRecDepth 100000 in
theorem b_X7_falseRow_53 {post : Int → St → Prop} (C : cx p s m args meth c wsX7_falseRow RX7 cX7_falseRow 3 (some .int) D cA) (hA : ∀ q, s.heap.size ≤ q → A q) (hR : RtI p l e rm_X7_falseRow s m args below meth c Q cX7_falseRow D cA K_Touch h A (fun _ => True) post) {k6 : Int → St → Prop} (hk6 : ∀ {v1 : Int} {σ : St} {H : Heap} {locs : List Loc} {ls : Array Slot}, k6 v1 σ → wd D cA K_Touch h σ A s.heap H locs → lh ls 3 [some (.ref (h 0)), some (iv v1), none] → W p l e rm_X7_falseRow s m args below meth c H locs 0 0 Q (F0 m 6 ls [])) : ∀ {v1 : Int} {σ : St} {H : Heap} {locs : List Loc} {ls : Array Slot}, wp_X7_falseRow_53 k6 post v1 σ → wd D cA K_Touch h σ A s.heap H locs → lh ls 3 [some (.ref (h 0)), some (iv v1), none] → W p l e rm_X7_falseRow s m args below meth c H locs 0 0 Q (F0 m 53 ls []) := by
  intro v1 σ H locs ls hwp hw hl
  refine r_iinc C dX7_falseRow_53 hl rfl (Nat.le_of_ble_eq_true rfl) rfl (fun ls hl => ?_)
  refine r_goto C (tgt := 6) dX7_falseRow_56 rfl ?_
  exact hk6 hwp hw (lh_mask hl [true, true, false])
set_option maxRecDepth 100000 in
theorem b_X7_falseRow_36 {post : Int → St → Prop} (C : cx p s m args meth c wsX7_falseRow RX7 cX7_falseRow 3 (some .int) D cA) (hA : ∀ q, s.heap.size ≤ q → A q) (hR : RtI p l e rm_X7_falseRow s m args below meth c Q cX7_falseRow D cA K_Touch h A (fun _ => True) post) {k6 : Int → St → Prop} (hk6 : ∀ {v1 : Int} {σ : St} {H : Heap} {locs : List Loc} {ls : Array Slot}, k6 v1 σ → wd D cA K_Touch h σ A s.heap H locs → lh ls 3 [some (.ref (h 0)), some (iv v1), none] → W p l e rm_X7_falseRow s m args below meth c H locs 0 0 Q (F0 m 6 ls [])) : ∀ {v1 s0 : Int} {σ : St} {H : Heap} {locs : List Loc} {ls : Array Slot}, wp_X7_falseRow_36 k6 post v1 s0 σ → wd D cA K_Touch h σ A s.heap H locs → lh ls 3 [some (.ref (h 0)), some (iv v1), none] → W p l e rm_X7_falseRow s m args below meth c H locs 0 0 Q (F0 m 36 ls [iv s0]) := by
  intro v1 s0 σ H locs ls hwp hw hl
  refine r_istore_n C dX7_falseRow_36 hl (Nat.le_of_ble_eq_true rfl) (Nat.le_of_ble_eq_true rfl) rfl (fun ls hl => ?_)
  refine r_aload_n C dX7_falseRow_37 hl rfl ?_
  refine r_getr C hw clX7 0 rfl 5 4 rfl (Nat.le_of_ble_eq_true rfl) hi_X7_falseRow_X7 hf_X7_falseRow_28 dX7_falseRow_38 ?_
  refine r_iload_n C dX7_falseRow_41 hl rfl ?_
  obtain ⟨h0, h1, hwp⟩ := hwp
  refine r_iald C hw 4 rfl rfl h0 h1 dX7_falseRow_42 ?_
  refine r_iload_n C dX7_falseRow_43 hl rfl ?_
  obtain ⟨ra, rb, hT, hF⟩ := hwp
  refine r_icmp_eq C (tgt := 53) dX7_falseRow_44 rfl ra rb (fun hc => ?_) (fun hc => ?_)
  · have hwp := hT hc
    exact b_X7_falseRow_53 C hA hR hk6 hwp hw (lh_mask hl [true, true, false])
  · have hwp := hF hc
    refine r_iload_n C dX7_falseRow_47 hl rfl ?_
    obtain ⟨ra, hT, hF⟩ := hwp
    refine r_if_ne C (tgt := 53) dX7_falseRow_48 rfl ra (fun hc => ?_) (fun hc => ?_)
    · have hwp := hT hc
      exact b_X7_falseRow_53 C hA hR hk6 hwp hw (lh_mask hl [true, true, false])
    · have hwp := hF hc
      refine r_iload_n C dX7_falseRow_51 hl rfl ?_
      exact hR _ _ _ _ _ _ dX7_falseRow_52 trivial hwp hw
set_option maxRecDepth 100000 in
theorem b_X7_falseRow_35 {post : Int → St → Prop} (C : cx p s m args meth c wsX7_falseRow RX7 cX7_falseRow 3 (some .int) D cA) (hA : ∀ q, s.heap.size ≤ q → A q) (hR : RtI p l e rm_X7_falseRow s m args below meth c Q cX7_falseRow D cA K_Touch h A (fun _ => True) post) {k6 : Int → St → Prop} (hk6 : ∀ {v1 : Int} {σ : St} {H : Heap} {locs : List Loc} {ls : Array Slot}, k6 v1 σ → wd D cA K_Touch h σ A s.heap H locs → lh ls 3 [some (.ref (h 0)), some (iv v1), none] → W p l e rm_X7_falseRow s m args below meth c H locs 0 0 Q (F0 m 6 ls [])) : ∀ {v1 : Int} {σ : St} {H : Heap} {locs : List Loc} {ls : Array Slot}, wp_X7_falseRow_35 k6 post v1 σ → wd D cA K_Touch h σ A s.heap H locs → lh ls 3 [some (.ref (h 0)), some (iv v1), none] → W p l e rm_X7_falseRow s m args below meth c H locs 0 0 Q (F0 m 35 ls []) := by
  intro v1 σ H locs ls hwp hw hl
  refine r_const C dX7_falseRow_35 ?_
  exact b_X7_falseRow_36 C hA hR hk6 hwp hw (lh_mask hl [true, true, false])
set_option maxRecDepth 100000 in
theorem b_X7_falseRow_6 {post : Int → St → Prop} (C : cx p s m args meth c wsX7_falseRow RX7 cX7_falseRow 3 (some .int) D cA) (hA : ∀ q, s.heap.size ≤ q → A q) (hR : RtI p l e rm_X7_falseRow s m args below meth c Q cX7_falseRow D cA K_Touch h A (fun _ => True) post) : ∀ (n : Nat) {v1 : Int} {σ : St} {H : Heap} {locs : List Loc} {ls : Array Slot}, wp_X7_falseRow_6 post n v1 σ → wd D cA K_Touch h σ A s.heap H locs → lh ls 3 [some (.ref (h 0)), some (iv v1), none] → W p l e rm_X7_falseRow s m args below meth c H locs 0 0 Q (F0 m 6 ls []) := by
  intro n; induction n with
  | zero => intros; rename_i hwp _ _; exact hwp.elim
  | succ n ih =>
    intro v1 σ H locs ls hwp hw hl
    refine r_iload_n C dX7_falseRow_6 hl rfl ?_
    refine r_aload_n C dX7_falseRow_7 hl rfl ?_
    refine r_get C hw clX7 0 rfl 1 1 rfl rfl (Nat.le_of_ble_eq_true rfl) hi_X7_falseRow_X7 hf_X7_falseRow_15 dX7_falseRow_8 ?_
    obtain ⟨ra, rb, hT, hF⟩ := hwp
    refine r_icmp_gt C (tgt := 59) dX7_falseRow_11 rfl ra rb (fun hc => ?_) (fun hc => ?_)
    · have hwp := hT hc
      refine r_bipush C dX7_falseRow_59 bpb_m5 ?_
      exact hR _ _ _ _ _ _ dX7_falseRow_61 trivial hwp hw
    · have hwp := hF hc
      refine r_iload_n C dX7_falseRow_14 hl rfl ?_
      refine r_aload_n C dX7_falseRow_15 hl rfl ?_
      refine r_get C hw clX7 0 rfl 1 1 rfl rfl (Nat.le_of_ble_eq_true rfl) hi_X7_falseRow_X7 hf_X7_falseRow_15 dX7_falseRow_16 ?_
      obtain ⟨ra, rb, hT, hF⟩ := hwp
      refine r_icmp_ne C (tgt := 35) dX7_falseRow_19 rfl ra rb (fun hc => ?_) (fun hc => ?_)
      · have hwp := hT hc
        exact b_X7_falseRow_35 C hA hR ih hwp hw (lh_mask hl [true, true, false])
      · have hwp := hF hc
        refine r_aload_n C dX7_falseRow_22 hl rfl ?_
        refine r_getr C hw clX7 0 rfl 5 4 rfl (Nat.le_of_ble_eq_true rfl) hi_X7_falseRow_X7 hf_X7_falseRow_28 dX7_falseRow_23 ?_
        refine r_iload_n C dX7_falseRow_26 hl rfl ?_
        obtain ⟨h0, h1, hwp⟩ := hwp
        refine r_iald C hw 4 rfl rfl h0 h1 dX7_falseRow_27 ?_
        obtain ⟨ra, hT, hF⟩ := hwp
        refine r_if_ne C (tgt := 35) dX7_falseRow_28 rfl ra (fun hc => ?_) (fun hc => ?_)
        · have hwp := hT hc
          exact b_X7_falseRow_35 C hA hR ih hwp hw (lh_mask hl [true, true, false])
        · have hwp := hF hc
          refine r_const C dX7_falseRow_31 ?_
          refine r_goto C (tgt := 36) dX7_falseRow_32 rfl ?_
          exact b_X7_falseRow_36 C hA hR ih hwp hw (lh_mask hl [true, true, false])
set_option maxRecDepth 100000 in
theorem b_X7_falseRow_0 {post : Int → St → Prop} (C : cx p s m args meth c wsX7_falseRow RX7 cX7_falseRow 3 (some .int) D cA) (hA : ∀ q, s.heap.size ≤ q → A q) (hR : RtI p l e rm_X7_falseRow s m args below meth c Q cX7_falseRow D cA K_Touch h A (fun _ => True) post) : ∀ {σ : St} {H : Heap} {locs : List Loc} {ls : Array Slot}, wp_X7_falseRow σ post → wd D cA K_Touch h σ A s.heap H locs → lh ls 3 [some (.ref (h 0)), none, none] → W p l e rm_X7_falseRow s m args below meth c H locs 0 0 Q (F0 m 0 ls []) := by
  intro σ H locs ls hwp hw hl
  refine r_aload_n C dX7_falseRow_0 hl rfl ?_
  refine r_cV0 hA hw (run_v0 C hw clX7 rfl (c_X7_compare hwp) (cwV 0 C.2.2.2.2.1 gX7_falseRow_X7_compare rfl rfl rfl hd_X7_compare ⟨Nat.le_of_ble_eq_true rfl, Nat.le_of_ble_eq_true rfl⟩) rfl rfl rfl hl dX7_falseRow_1 ⟨Nat.zero_le _, Nat.zero_le _⟩) (fun σ H locs hwp hw => ?_)
  refine r_const C dX7_falseRow_4 ?_
  refine r_istore_n C dX7_falseRow_5 hl (Nat.le_of_ble_eq_true rfl) (Nat.le_of_ble_eq_true rfl) rfl (fun ls hl => ?_)
  obtain ⟨n9, hwp⟩ := hwp
  exact b_X7_falseRow_6 C hA hR n9 hwp hw (lh_mask hl [true, true, false])
set_option maxRecDepth 100000 in
theorem c_X7_falseRow {l : Launch} {D : va_G} {cA : FieldType → ClassId} {h : Nat → Nat} {σ : St} {sz : Nat} {post : Int → St → Prop} (hwp : wp_X7_falseRow σ post) : Met l yX7_falseRow wsX7_falseRow rm_X7_falseRow (va_Pc [.ref (h 0)] (preS D cA K_Touch h σ sz)) (QI D cA K_Touch h sz post) 0 0 (aA K_Touch.length h sz) := by
  refine mk_met (cc := cX7_falseRow) (nL := 3) (ret := (some .int)) (own := RX7) 2 (by decide) rfl rfl rfl rfl ?_
  intro p e s m args below meth c ls hsz C hw hl hA
  subst hsz
  exact b_X7_falseRow_0 C hA (rt_i C _) hwp hw hl
-- X7_isTrue
theorem hi_X7_isTrue_X7 : ∀ w ∈ u_ws RX7 TX7 8, w ∈ wsX7_isTrue := by decide +kernel
theorem hf_X7_isTrue_9 : Cond.fieldLink RX7 9 (TX7 0).1 (TX7 0).2.1 (TX7 0).2.2.1 ∈ wsX7_isTrue := by decide +kernel
theorem hf_X7_isTrue_15 : Cond.fieldLink RX7 15 (TX7 1).1 (TX7 1).2.1 (TX7 1).2.2.1 ∈ wsX7_isTrue := by decide +kernel
def rm_X7_isTrue : Room := { frames := 4, cells := 0, slots := 0, locals := 89 }
set_option maxRecDepth 100000 in
theorem b_X7_isTrue_0 {post : Int → St → Prop} (C : cx p s m args meth c wsX7_isTrue RX7 cX7_isTrue 1 (some .boolean) D cA) (hA : ∀ q, s.heap.size ≤ q → A q) (hR : RtI p l e rm_X7_isTrue s m args below meth c Q cX7_isTrue D cA K_Touch h A (fun x => x = 0 ∨ x = 1) post) : ∀ {σ : St} {H : Heap} {locs : List Loc} {ls : Array Slot}, wp_X7_isTrue σ post → wd D cA K_Touch h σ A s.heap H locs → lh ls 1 [some (.ref (h 0))] → W p l e rm_X7_isTrue s m args below meth c H locs 0 0 Q (F0 m 0 ls []) := by
  intro σ H locs ls hwp hw hl
  refine r_aload_n C dX7_isTrue_0 hl rfl ?_
  refine r_get C hw clX7 0 rfl 1 1 rfl rfl (Nat.le_of_ble_eq_true rfl) hi_X7_isTrue_X7 hf_X7_isTrue_15 dX7_isTrue_1 ?_
  obtain ⟨ra, hT, hF⟩ := hwp
  refine r_if_le C (tgt := 38) dX7_isTrue_4 rfl ra (fun hc => ?_) (fun hc => ?_)
  · have hwp := hT hc
    refine r_const C dX7_isTrue_38 ?_
    exact hR _ _ _ _ _ _ dX7_isTrue_39 (Or.inl rfl) hwp hw
  · have hwp := hF hc
    refine r_aload_n C dX7_isTrue_7 hl rfl ?_
    refine r_getr C hw clX7 0 rfl 0 1 rfl (Nat.le_of_ble_eq_true rfl) hi_X7_isTrue_X7 hf_X7_isTrue_9 dX7_isTrue_8 ?_
    refine r_aload_n C dX7_isTrue_11 hl rfl ?_
    refine r_get C hw clX7 0 rfl 1 1 rfl rfl (Nat.le_of_ble_eq_true rfl) hi_X7_isTrue_X7 hf_X7_isTrue_15 dX7_isTrue_12 ?_
    obtain ⟨h0, h1, hwp⟩ := hwp
    refine r_iald C hw 1 rfl rfl h0 h1 dX7_isTrue_15 ?_
    refine r_aload_n C dX7_isTrue_16 hl rfl ?_
    refine r_getr C hw clX7 0 rfl 0 1 rfl (Nat.le_of_ble_eq_true rfl) hi_X7_isTrue_X7 hf_X7_isTrue_9 dX7_isTrue_17 ?_
    refine r_const C dX7_isTrue_20 ?_
    refine r_iald C hw 1 rfl rfl (by decide) (by decide) dX7_isTrue_21 ?_
    obtain ⟨ra, rb, hT, hF⟩ := hwp
    refine r_icmp_ne C (tgt := 38) dX7_isTrue_22 rfl ra rb (fun hc => ?_) (fun hc => ?_)
    · have hwp := hT hc
      refine r_const C dX7_isTrue_38 ?_
      exact hR _ _ _ _ _ _ dX7_isTrue_39 (Or.inl rfl) hwp hw
    · have hwp := hF hc
      refine r_aload_n C dX7_isTrue_25 hl rfl ?_
      refine r_cI0 hA hw (run_v0 C hw clX7 rfl (c_X7_falseRow hwp) (cwV 0 C.2.2.2.2.1 gX7_isTrue_X7_falseRow rfl rfl rfl hd_X7_falseRow ⟨Nat.le_of_ble_eq_true rfl, Nat.le_of_ble_eq_true rfl⟩) rfl rfl rfl hl dX7_isTrue_26 ⟨Nat.zero_le _, Nat.zero_le _⟩) (fun r σ H locs hwp hw => ?_)
      refine r_bipush C dX7_isTrue_29 bpb_m5 ?_
      obtain ⟨ra, hT, hF⟩ := hwp
      refine r_icmp_ne C (tgt := 38) dX7_isTrue_31 rfl ra (by decide) (fun hc => ?_) (fun hc => ?_)
      · have hwp := hT hc
        refine r_const C dX7_isTrue_38 ?_
        exact hR _ _ _ _ _ _ dX7_isTrue_39 (Or.inl rfl) hwp hw
      · have hwp := hF hc
        refine r_const C dX7_isTrue_34 ?_
        refine r_goto C (tgt := 39) dX7_isTrue_35 rfl ?_
        exact hR _ _ _ _ _ _ dX7_isTrue_39 (Or.inr rfl) hwp hw
set_option maxRecDepth 100000 in
theorem c_X7_isTrue {l : Launch} {D : va_G} {cA : FieldType → ClassId} {h : Nat → Nat} {σ : St} {sz : Nat} {post : Int → St → Prop} (hwp : wp_X7_isTrue σ post) : Met l yX7_isTrue wsX7_isTrue rm_X7_isTrue (va_Pc [.ref (h 0)] (preS D cA K_Touch h σ sz)) (QI D cA K_Touch h sz post) 0 0 (aA K_Touch.length h sz) := by
  refine mk_met (cc := cX7_isTrue) (nL := 1) (ret := (some .boolean)) (own := RX7) 0 (by decide) rfl rfl rfl rfl ?_
  intro p e s m args below meth c ls hsz C hw hl hA
  subst hsz
  exact b_X7_isTrue_0 C hA (rt_z C _) hwp hw hl
-- X7_course
theorem hi_X7_course_X7 : ∀ w ∈ u_ws RX7 TX7 8, w ∈ wsX7_course := by decide +kernel
theorem hf_X7_course_9 : Cond.fieldLink RX7 9 (TX7 0).1 (TX7 0).2.1 (TX7 0).2.2.1 ∈ wsX7_course := by decide +kernel
theorem hf_X7_course_19 : Cond.fieldLink RX7 19 (TX7 2).1 (TX7 2).2.1 (TX7 2).2.2.1 ∈ wsX7_course := by decide +kernel
theorem hf_X7_course_22 : Cond.fieldLink RX7 22 (TX7 3).1 (TX7 3).2.1 (TX7 3).2.2.1 ∈ wsX7_course := by decide +kernel
def rm_X7_course : Room := { frames := 1, cells := 0, slots := 0, locals := 22 }
set_option maxRecDepth 100000 in
theorem b_X7_course_24 {σ : St} {post : Int → Prop} (C : cx p s m args meth c wsX7_course RX7 cX7_course 4 (some .int) D cA) (hA : ∀ q, s.heap.size ≤ q → A q) (hR : RtI p l e rm_X7_course s m args below meth c Q cX7_course D cA K_Touch h A (fun _ => True) (fun r σ' => σ' = σ ∧ post r)) {k9 : Int → Int → St → Prop} (hk9 : ∀ {v1 v2 : Int} {H : Heap} {locs : List Loc} {ls : Array Slot}, k9 v1 v2 σ → wd D cA K_Touch h σ A s.heap H locs → lh ls 4 [some (.ref (h 0)), some (iv v1), some (iv v2), none] → W p l e rm_X7_course s m args below meth c H locs 0 0 Q (F0 m 9 ls [])) : ∀ (n : Nat) {v1 v2 v3 : Int} {H : Heap} {locs : List Loc} {ls : Array Slot}, wp_X7_course_24 k9 post n v1 v2 v3 σ → wd D cA K_Touch h σ A s.heap H locs → lh ls 4 [some (.ref (h 0)), some (iv v1), some (iv v2), some (iv v3)] → W p l e rm_X7_course s m args below meth c H locs 0 0 Q (F0 m 24 ls []) := by
  intro n; induction n with
  | zero => intros; rename_i hwp _ _; exact hwp.elim
  | succ n ih =>
    intro v1 v2 v3 H locs ls hwp hw hl
    refine r_iload_n C dX7_course_24 hl rfl ?_
    refine r_aload_n C dX7_course_25 hl rfl ?_
    refine r_get C hw clX7 0 rfl 2 2 rfl rfl (Nat.le_of_ble_eq_true rfl) hi_X7_course_X7 hf_X7_course_19 dX7_course_26 ?_
    obtain ⟨ra, rb, hT, hF⟩ := hwp
    refine r_icmp_ge C (tgt := 49) dX7_course_29 rfl ra rb (fun hc => ?_) (fun hc => ?_)
    · have hwp := hT hc
      refine r_iload_n C dX7_course_49 hl rfl ?_
      refine r_aload_n C dX7_course_50 hl rfl ?_
      refine r_getr C hw clX7 0 rfl 0 1 rfl (Nat.le_of_ble_eq_true rfl) hi_X7_course_X7 hf_X7_course_9 dX7_course_51 ?_
      refine r_const C dX7_course_54 ?_
      refine r_iald C hw 1 rfl rfl (by decide) (by decide) dX7_course_55 ?_
      obtain ⟨ra, rb, hT, hF⟩ := hwp
      refine r_icmp_ne C (tgt := 61) dX7_course_56 rfl ra rb (fun hc => ?_) (fun hc => ?_)
      · have hwp := hT hc
        refine r_iinc C dX7_course_61 hl rfl (Nat.le_of_ble_eq_true rfl) rfl (fun ls hl => ?_)
        refine r_goto C (tgt := 9) dX7_course_64 rfl ?_
        exact hk9 hwp hw (lh_mask hl [true, true, true, false])
      · have hwp := hF hc
        refine r_iload_n C dX7_course_59 hl rfl ?_
        exact hR _ _ _ _ _ _ dX7_course_60 trivial ⟨rfl, hwp⟩ hw
    · have hwp := hF hc
      refine r_iload_n C dX7_course_32 hl rfl ?_
      refine r_aload_n C dX7_course_33 hl rfl ?_
      refine r_getr C hw clX7 0 rfl 3 2 rfl (Nat.le_of_ble_eq_true rfl) hi_X7_course_X7 hf_X7_course_22 dX7_course_34 ?_
      refine r_iload_n C dX7_course_37 hl rfl ?_
      obtain ⟨h0, h1, hwp⟩ := hwp
      refine r_iald C hw 2 rfl rfl h0 h1 dX7_course_38 ?_
      refine r_cIr hA hw sb_Touch_0_0_9 (run_s C hw sb_Touch_0_0_9 (c_X2_swapped hwp) (va_cwS 2 C.2.2.2.2.1 gX7_course_X2_swapped rfl rfl rfl hd_X2_swapped ⟨Nat.le_of_ble_eq_true rfl, Nat.le_of_ble_eq_true rfl⟩) rfl rfl rfl hl dX7_course_39 ⟨Nat.zero_le _, Nat.zero_le _⟩) (fun r H locs hwp hw => ?_)
      refine r_istore_n C dX7_course_42 hl (Nat.le_of_ble_eq_true rfl) (Nat.le_of_ble_eq_true rfl) rfl (fun ls hl => ?_)
      refine r_iinc C dX7_course_43 hl rfl (Nat.le_of_ble_eq_true rfl) rfl (fun ls hl => ?_)
      refine r_goto C (tgt := 24) dX7_course_46 rfl ?_
      exact ih hwp hw (lh_mask hl [true, true, true, true])
set_option maxRecDepth 100000 in
theorem b_X7_course_9 {σ : St} {post : Int → Prop} (C : cx p s m args meth c wsX7_course RX7 cX7_course 4 (some .int) D cA) (hA : ∀ q, s.heap.size ≤ q → A q) (hR : RtI p l e rm_X7_course s m args below meth c Q cX7_course D cA K_Touch h A (fun _ => True) (fun r σ' => σ' = σ ∧ post r)) : ∀ (n : Nat) {v1 v2 : Int} {H : Heap} {locs : List Loc} {ls : Array Slot}, wp_X7_course_9 post n v1 v2 σ → wd D cA K_Touch h σ A s.heap H locs → lh ls 4 [some (.ref (h 0)), some (iv v1), some (iv v2), none] → W p l e rm_X7_course s m args below meth c H locs 0 0 Q (F0 m 9 ls []) := by
  intro n; induction n with
  | zero => intros; rename_i hwp _ _; exact hwp.elim
  | succ n ih =>
    intro v1 v2 H locs ls hwp hw hl
    refine r_iload_n C dX7_course_9 hl rfl ?_
    refine r_bipush C dX7_course_10 bpb_15 ?_
    obtain ⟨ra, hT, hF⟩ := hwp
    refine r_icmp_gt C (tgt := 67) dX7_course_12 rfl ra (by decide) (fun hc => ?_) (fun hc => ?_)
    · have hwp := hT hc
      refine r_const C dX7_course_67 ?_
      exact hR _ _ _ _ _ _ dX7_course_68 trivial ⟨rfl, hwp⟩ hw
    · have hwp := hF hc
      refine r_aload_n C dX7_course_15 hl rfl ?_
      refine r_get C hw clX7 0 rfl 2 2 rfl rfl (Nat.le_of_ble_eq_true rfl) hi_X7_course_X7 hf_X7_course_19 dX7_course_16 ?_
      obtain ⟨ra, hT, hF⟩ := hwp
      refine r_if_le C (tgt := 67) dX7_course_19 rfl ra (fun hc => ?_) (fun hc => ?_)
      · have hwp := hT hc
        refine r_const C dX7_course_67 ?_
        exact hR _ _ _ _ _ _ dX7_course_68 trivial ⟨rfl, hwp⟩ hw
      · have hwp := hF hc
        refine r_const C dX7_course_22 ?_
        refine r_istore_n C dX7_course_23 hl (Nat.le_of_ble_eq_true rfl) (Nat.le_of_ble_eq_true rfl) rfl (fun ls hl => ?_)
        obtain ⟨n9, hwp⟩ := hwp
        exact b_X7_course_24 C hA hR ih n9 hwp hw (lh_mask hl [true, true, true, true])
set_option maxRecDepth 100000 in
theorem b_X7_course_0 {σ : St} {post : Int → Prop} (C : cx p s m args meth c wsX7_course RX7 cX7_course 4 (some .int) D cA) (hA : ∀ q, s.heap.size ≤ q → A q) (hR : RtI p l e rm_X7_course s m args below meth c Q cX7_course D cA K_Touch h A (fun _ => True) (fun r σ' => σ' = σ ∧ post r)) : ∀ {H : Heap} {locs : List Loc} {ls : Array Slot}, wp_X7_course σ post → wd D cA K_Touch h σ A s.heap H locs → lh ls 4 [some (.ref (h 0)), none, none, none] → W p l e rm_X7_course s m args below meth c H locs 0 0 Q (F0 m 0 ls []) := by
  intro H locs ls hwp hw hl
  refine r_aload_n C dX7_course_0 hl rfl ?_
  refine r_getr C hw clX7 0 rfl 0 1 rfl (Nat.le_of_ble_eq_true rfl) hi_X7_course_X7 hf_X7_course_9 dX7_course_1 ?_
  refine r_const C dX7_course_4 ?_
  refine r_iald C hw 1 rfl rfl (by decide) (by decide) dX7_course_5 ?_
  refine r_istore_n C dX7_course_6 hl (Nat.le_of_ble_eq_true rfl) (Nat.le_of_ble_eq_true rfl) rfl (fun ls hl => ?_)
  refine r_const C dX7_course_7 ?_
  refine r_istore_n C dX7_course_8 hl (Nat.le_of_ble_eq_true rfl) (Nat.le_of_ble_eq_true rfl) rfl (fun ls hl => ?_)
  obtain ⟨n9, hwp⟩ := hwp
  exact b_X7_course_9 C hA hR n9 hwp hw (lh_mask hl [true, true, true, false])
set_option maxRecDepth 100000 in
theorem c_X7_course {l : Launch} {D : va_G} {cA : FieldType → ClassId} {h : Nat → Nat} {σ : St} {sz : Nat} {post : Int → Prop} (hwp : wp_X7_course σ post) : Met l yX7_course wsX7_course rm_X7_course (va_Pc [.ref (h 0)] (preS D cA K_Touch h σ sz)) (QI D cA K_Touch h sz (fun r σ' => σ' = σ ∧ post r)) 0 0 (aA K_Touch.length h sz) := by
  refine mk_met (cc := cX7_course) (nL := 4) (ret := (some .int)) (own := RX7) 3 (by decide) rfl rfl rfl rfl ?_
  intro p e s m args below meth c ls hsz C hw hl hA
  subst hsz
  exact b_X7_course_0 C hA (rt_i C _) hwp hw hl
end
