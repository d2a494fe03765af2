section
variable {p : Program} {l : Launch} {e : Env} {s : State} {m : MethodId} {args : Array Value} {below : List Frame} {meth : Method} {c : Code} {Q : State → Prop} {D : va_G} {cA : FieldType → ClassId} {h : Nat → Nat} {A : Nat → Prop}
-- X8_bells
theorem hi_X8_bells_X4 : ∀ w ∈ u_ws RX4 TX4 11, w ∈ wsX8_bells := by decide +kernel
theorem hi_X8_bells_X8 : ∀ w ∈ u_ws RX8 TX8 10, w ∈ wsX8_bells := by decide +kernel
theorem hf_X8_bells_62 : Cond.fieldLink RX8 62 (TX4 0).1 (TX4 0).2.1 (TX4 0).2.2.1 ∈ wsX8_bells := by decide +kernel
theorem hf_X8_bells_14 : Cond.fieldLink RX8 14 (TX8 0).1 (TX8 0).2.1 (TX8 0).2.2.1 ∈ wsX8_bells := by decide +kernel
theorem hf_X8_bells_58 : Cond.fieldLink RX8 58 (TX8 9).1 (TX8 9).2.1 (TX8 9).2.2.1 ∈ wsX8_bells := by decide +kernel
def rm_X8_bells : Room := { frames := 1, cells := 0, slots := 0, locals := 22 }
set_option maxRecDepth 100000 in
theorem b_X8_bells_0 {post : Int → St → Prop} (C : cx p s m args meth c wsX8_bells RX8 cX8_bells 3 (some .int) D cA) (hA : ∀ q, s.heap.size ≤ q → A q) (hR : RtI p l e rm_X8_bells s m args below meth c Q cX8_bells D cA K_BT h A (fun _ => True) post) : ∀ {v1 : Int} {σ : St} {H : Heap} {locs : List Loc} {ls : Array Slot}, wp_X8_bells σ v1 post → wd D cA K_BT h σ A s.heap H locs → lh ls 3 [some (.ref (h 0)), some (iv v1), none] → W p l e rm_X8_bells s m args below meth c H locs 0 0 Q (F0 m 0 ls []) := by
  intro v1 σ H locs ls hwp hw hl
  refine r_iload_n C dX8_bells_0 hl rfl ?_
  refine r_const C dX8_bells_1 ?_
  obtain ⟨ra, hT, hF⟩ := hwp
  refine r_icmp_lt C (tgt := 11) dX8_bells_2 rfl ra (by decide) (fun hc => ?_) (fun hc => ?_)
  · have hwp := hT hc
    refine r_bipush C dX8_bells_11 bpb_m2 ?_
    exact hR _ _ _ _ _ _ dX8_bells_13 trivial hwp hw
  · have hwp := hF hc
    refine r_iload_n C dX8_bells_5 hl rfl ?_
    refine r_bipush C dX8_bells_6 bpb_8 ?_
    obtain ⟨ra, hT, hF⟩ := hwp
    refine r_icmp_le C (tgt := 14) dX8_bells_8 rfl ra (by decide) (fun hc => ?_) (fun hc => ?_)
    · have hwp := hT hc
      refine r_aload_n C dX8_bells_14 hl rfl ?_
      refine r_getr C hw clX8 0 rfl 0 1 rfl (Nat.le_of_ble_eq_true rfl) hi_X8_bells_X8 hf_X8_bells_14 dX8_bells_15 ?_
      refine r_get C hw clX4 1 rfl 0 0 rfl rfl (Nat.le_of_ble_eq_true rfl) hi_X8_bells_X4 hf_X8_bells_62 dX8_bells_18 ?_
      refine r_istore_n C dX8_bells_21 hl (Nat.le_of_ble_eq_true rfl) (Nat.le_of_ble_eq_true rfl) rfl (fun ls hl => ?_)
      refine r_aload_n C dX8_bells_22 hl rfl ?_
      refine r_getr C hw clX8 0 rfl 0 1 rfl (Nat.le_of_ble_eq_true rfl) hi_X8_bells_X8 hf_X8_bells_14 dX8_bells_23 ?_
      refine r_iload_n C dX8_bells_26 hl rfl ?_
      refine r_cV hA hw sb_BT_Setup_1_20 (run_v C hw sb_BT_Setup_1_20 clX4 rfl (c_X4_begin hwp) (cwV 1 C.2.2.2.2.1 gX8_bells_X4_begin rfl rfl rfl hd_X4_begin ⟨Nat.le_of_ble_eq_true rfl, Nat.le_of_ble_eq_true rfl⟩) rfl rfl rfl hl dX8_bells_27 ⟨Nat.zero_le _, Nat.zero_le _⟩) (fun σ H locs hwp hw => ?_)
      have hwp := hwp _ rfl
      refine r_aload_n C dX8_bells_30 hl rfl ?_
      refine r_const C dX8_bells_31 ?_
      refine r_put C hw clX8 0 rfl 9 9 rfl rfl (Nat.le_of_ble_eq_true rfl) hi_X8_bells_X8 hf_X8_bells_58 rfl (oi_z (Or.inr rfl)) dX8_bells_32 (fun H locs hw => ?_)
      have hwp := hwp _ rfl
      refine r_iload_n C dX8_bells_35 hl rfl ?_
      exact hR _ _ _ _ _ _ dX8_bells_36 trivial hwp hw
    · have hwp := hF hc
      refine r_bipush C dX8_bells_11 bpb_m2 ?_
      exact hR _ _ _ _ _ _ dX8_bells_13 trivial hwp hw
set_option maxRecDepth 100000 in
theorem c_X8_bells {l : Launch} {D : va_G} {cA : FieldType → ClassId} {h : Nat → Nat} {σ : St} {sz : Nat} {v1 : Int} {post : Int → St → Prop} (hwp : wp_X8_bells σ v1 post) : Met l yX8_bells wsX8_bells rm_X8_bells (va_Pc [.ref (h 0), iv v1] (preS D cA K_BT h σ sz)) (QI D cA K_BT h sz post) 0 0 (aA K_BT.length h sz) := by
  refine mk_met (cc := cX8_bells) (nL := 3) (ret := (some .int)) (own := RX8) 1 (by decide) rfl rfl rfl rfl ?_
  intro p e s m args below meth c ls hsz C hw hl hA
  subst hsz
  exact b_X8_bells_0 C hA (rt_i C _) hwp hw hl
-- X8_isPlaces
theorem hi_X8_isPlaces_X4 : ∀ w ∈ u_ws RX4 TX4 11, w ∈ wsX8_isPlaces := by decide +kernel
theorem hi_X8_isPlaces_X8 : ∀ w ∈ u_ws RX8 TX8 10, w ∈ wsX8_isPlaces := by decide +kernel
theorem hf_X8_isPlaces_62 : Cond.fieldLink RX8 62 (TX4 0).1 (TX4 0).2.1 (TX4 0).2.2.1 ∈ wsX8_isPlaces := by decide +kernel
theorem hf_X8_isPlaces_14 : Cond.fieldLink RX8 14 (TX8 0).1 (TX8 0).2.1 (TX8 0).2.2.1 ∈ wsX8_isPlaces := by decide +kernel
def rm_X8_isPlaces : Room := { frames := 0, cells := 0, slots := 0, locals := 0 }
set_option maxRecDepth 100000 in
theorem b_X8_isPlaces_0 {σ : St} {post : Int → Prop} (C : cx p s m args meth c wsX8_isPlaces RX8 cX8_isPlaces 2 (some .boolean) D cA) (hA : ∀ q, s.heap.size ≤ q → A q) (hR : RtI p l e rm_X8_isPlaces s m args below meth c Q cX8_isPlaces D cA K_BT h A (fun x => x = 0 ∨ x = 1) (fun r σ' => σ' = σ ∧ post r)) : ∀ {v1 : Int} {H : Heap} {locs : List Loc} {ls : Array Slot}, wp_X8_isPlaces σ v1 post → wd D cA K_BT h σ A s.heap H locs → lh ls 2 [some (.ref (h 0)), some (iv v1)] → W p l e rm_X8_isPlaces s m args below meth c H locs 0 0 Q (F0 m 0 ls []) := by
  intro v1 H locs ls hwp hw hl
  refine r_iload_n C dX8_isPlaces_0 hl rfl ?_
  obtain ⟨ra, hT, hF⟩ := hwp
  refine r_if_lt C (tgt := 21) dX8_isPlaces_1 rfl ra (fun hc => ?_) (fun hc => ?_)
  · have hwp := hT hc
    refine r_const C dX8_isPlaces_21 ?_
    exact hR _ _ _ _ _ _ dX8_isPlaces_22 (Or.inl rfl) ⟨rfl, hwp⟩ hw
  · have hwp := hF hc
    refine r_iload_n C dX8_isPlaces_4 hl rfl ?_
    refine r_const C dX8_isPlaces_5 ?_
    refine r_aload_n C dX8_isPlaces_6 hl rfl ?_
    refine r_getr C hw clX8 0 rfl 0 1 rfl (Nat.le_of_ble_eq_true rfl) hi_X8_isPlaces_X8 hf_X8_isPlaces_14 dX8_isPlaces_7 ?_
    refine r_get C hw clX4 1 rfl 0 0 rfl rfl (Nat.le_of_ble_eq_true rfl) hi_X8_isPlaces_X4 hf_X8_isPlaces_62 dX8_isPlaces_10 ?_
    refine r_ishl C dX8_isPlaces_13 ?_
    obtain ⟨ra, rb, hT, hF⟩ := hwp
    refine r_icmp_ge C (tgt := 21) dX8_isPlaces_14 rfl ra rb (fun hc => ?_) (fun hc => ?_)
    · have hwp := hT hc
      refine r_const C dX8_isPlaces_21 ?_
      exact hR _ _ _ _ _ _ dX8_isPlaces_22 (Or.inl rfl) ⟨rfl, hwp⟩ hw
    · have hwp := hF hc
      refine r_const C dX8_isPlaces_17 ?_
      refine r_goto C (tgt := 22) dX8_isPlaces_18 rfl ?_
      exact hR _ _ _ _ _ _ dX8_isPlaces_22 (Or.inr rfl) ⟨rfl, hwp⟩ hw
set_option maxRecDepth 100000 in
theorem c_X8_isPlaces {l : Launch} {D : va_G} {cA : FieldType → ClassId} {h : Nat → Nat} {σ : St} {sz : Nat} {v1 : Int} {post : Int → Prop} (hwp : wp_X8_isPlaces σ v1 post) : Met l yX8_isPlaces wsX8_isPlaces rm_X8_isPlaces (va_Pc [.ref (h 0), iv v1] (preS D cA K_BT h σ sz)) (QI D cA K_BT h sz (fun r σ' => σ' = σ ∧ post r)) 0 0 (aA K_BT.length h sz) := by
  refine mk_met (cc := cX8_isPlaces) (nL := 2) (ret := (some .boolean)) (own := RX8) 0 (by decide) rfl rfl rfl rfl ?_
  intro p e s m args below meth c ls hsz C hw hl hA
  subst hsz
  exact b_X8_isPlaces_0 C hA (rt_z C _) hwp hw hl
-- X8_change
theorem hi_X8_change_X4 : ∀ w ∈ u_ws RX4 TX4 11, w ∈ wsX8_change := by decide +kernel
theorem hi_X8_change_X8 : ∀ w ∈ u_ws RX8 TX8 10, w ∈ wsX8_change := by decide +kernel
theorem hf_X8_change_62 : Cond.fieldLink RX8 62 (TX4 0).1 (TX4 0).2.1 (TX4 0).2.2.1 ∈ wsX8_change := by decide +kernel
theorem hf_X8_change_83 : Cond.fieldLink RX8 83 (TX4 1).1 (TX4 1).2.1 (TX4 1).2.2.1 ∈ wsX8_change := by decide +kernel
theorem hf_X8_change_80 : Cond.fieldLink RX8 80 (TX4 2).1 (TX4 2).2.1 (TX4 2).2.2.1 ∈ wsX8_change := by decide +kernel
theorem hf_X8_change_14 : Cond.fieldLink RX8 14 (TX8 0).1 (TX8 0).2.1 (TX8 0).2.2.1 ∈ wsX8_change := by decide +kernel
theorem hf_X8_change_58 : Cond.fieldLink RX8 58 (TX8 9).1 (TX8 9).2.1 (TX8 9).2.2.1 ∈ wsX8_change := by decide +kernel
def rm_X8_change : Room := { frames := 3, cells := 0, slots := 0, locals := 65 }
set_option maxRecDepth 100000 in
theorem b_X8_change_0 {post : Int → St → Prop} (C : cx p s m args meth c wsX8_change RX8 cX8_change 2 (some .int) D cA) (hA : ∀ q, s.heap.size ≤ q → A q) (hR : RtI p l e rm_X8_change s m args below meth c Q cX8_change D cA K_BT h A (fun _ => True) post) : ∀ {v1 : Int} {σ : St} {H : Heap} {locs : List Loc} {ls : Array Slot}, wp_X8_change σ v1 post → wd D cA K_BT h σ A s.heap H locs → lh ls 2 [some (.ref (h 0)), some (iv v1)] → W p l e rm_X8_change s m args below meth c H locs 0 0 Q (F0 m 0 ls []) := by
  intro v1 σ H locs ls hwp hw hl
  refine r_aload_n C dX8_change_0 hl rfl ?_
  refine r_iload_n C dX8_change_1 hl rfl ?_
  refine r_cIr0 hA hw (run_v0 C hw clX8 rfl (c_X8_isPlaces hwp) (cwV 1 C.2.2.2.2.1 gX8_change_X8_isPlaces rfl rfl rfl hd_X8_isPlaces ⟨Nat.le_of_ble_eq_true rfl, Nat.le_of_ble_eq_true rfl⟩) rfl rfl rfl hl dX8_change_2 ⟨Nat.zero_le _, Nat.zero_le _⟩) (fun r H locs hwp hw => ?_)
  obtain ⟨ra, hT, hF⟩ := hwp
  refine r_if_ne C (tgt := 11) dX8_change_5 rfl ra (fun hc => ?_) (fun hc => ?_)
  · have hwp := hT hc
    refine r_aload_n C dX8_change_11 hl rfl ?_
    refine r_getr C hw clX8 0 rfl 0 1 rfl (Nat.le_of_ble_eq_true rfl) hi_X8_change_X8 hf_X8_change_14 dX8_change_12 ?_
    refine r_get C hw clX4 1 rfl 0 0 rfl rfl (Nat.le_of_ble_eq_true rfl) hi_X8_change_X4 hf_X8_change_62 dX8_change_15 ?_
    refine r_iload_n C dX8_change_18 hl rfl ?_
    refine r_cIr hA hw sb_BT_0_0_21 (run_s C hw sb_BT_0_0_21 (c_X2_isGood hwp) (va_cwS 2 C.2.2.2.2.1 gX8_change_X2_isGood rfl rfl rfl hd_X2_isGood ⟨Nat.le_of_ble_eq_true rfl, Nat.le_of_ble_eq_true rfl⟩) rfl rfl rfl hl dX8_change_19 ⟨Nat.zero_le _, Nat.zero_le _⟩) (fun r H locs hwp hw => ?_)
    obtain ⟨ra, hT, hF⟩ := hwp
    refine r_if_ne C (tgt := 28) dX8_change_22 rfl ra (fun hc => ?_) (fun hc => ?_)
    · have hwp := hT hc
      refine r_aload_n C dX8_change_28 hl rfl ?_
      refine r_getr C hw clX8 0 rfl 0 1 rfl (Nat.le_of_ble_eq_true rfl) hi_X8_change_X8 hf_X8_change_14 dX8_change_29 ?_
      refine r_get C hw clX4 1 rfl 2 2 rfl rfl (Nat.le_of_ble_eq_true rfl) hi_X8_change_X4 hf_X8_change_80 dX8_change_32 ?_
      refine r_bipush C dX8_change_35 bpb_16 ?_
      obtain ⟨ra, hT, hF⟩ := hwp
      refine r_icmp_lt C (tgt := 43) dX8_change_37 rfl ra (by decide) (fun hc => ?_) (fun hc => ?_)
      · have hwp := hT hc
        refine r_aload_n C dX8_change_43 hl rfl ?_
        refine r_getr C hw clX8 0 rfl 0 1 rfl (Nat.le_of_ble_eq_true rfl) hi_X8_change_X8 hf_X8_change_14 dX8_change_44 ?_
        refine r_getr C hw clX4 1 rfl 1 2 rfl (Nat.le_of_ble_eq_true rfl) hi_X8_change_X4 hf_X8_change_83 dX8_change_47 ?_
        refine r_aload_n C dX8_change_50 hl rfl ?_
        refine r_getr C hw clX8 0 rfl 0 1 rfl (Nat.le_of_ble_eq_true rfl) hi_X8_change_X8 hf_X8_change_14 dX8_change_51 ?_
        refine r_get C hw clX4 1 rfl 2 2 rfl rfl (Nat.le_of_ble_eq_true rfl) hi_X8_change_X4 hf_X8_change_80 dX8_change_54 ?_
        refine r_iload_n C dX8_change_57 hl rfl ?_
        obtain ⟨h0, h1, hwp⟩ := hwp
        refine r_iast C hw 2 rfl rfl h0 h1 dX8_change_58 (fun H locs hw => ?_)
        have hwp := hwp _ rfl
        refine r_aload_n C dX8_change_59 hl rfl ?_
        refine r_getr C hw clX8 0 rfl 0 1 rfl (Nat.le_of_ble_eq_true rfl) hi_X8_change_X8 hf_X8_change_14 dX8_change_60 ?_
        refine r_dup C dX8_change_63 rfl ?_
        refine r_get C hw clX4 1 rfl 2 2 rfl rfl (Nat.le_of_ble_eq_true rfl) hi_X8_change_X4 hf_X8_change_80 dX8_change_64 ?_
        refine r_const C dX8_change_67 ?_
        refine r_iadd C dX8_change_68 ?_
        refine r_put C hw clX4 1 rfl 2 2 rfl rfl (Nat.le_of_ble_eq_true rfl) hi_X8_change_X4 hf_X8_change_80 rfl ⟨nar_i _, fit_i _⟩ dX8_change_69 (fun H locs hw => ?_)
        have hwp := hwp _ rfl
        refine r_aload_n C dX8_change_72 hl rfl ?_
        refine r_const C dX8_change_73 ?_
        refine r_put C hw clX8 0 rfl 9 9 rfl rfl (Nat.le_of_ble_eq_true rfl) hi_X8_change_X8 hf_X8_change_58 rfl (oi_z (Or.inr rfl)) dX8_change_74 (fun H locs hw => ?_)
        have hwp := hwp _ rfl
        refine r_aload_n C dX8_change_77 hl rfl ?_
        refine r_getr C hw clX8 0 rfl 0 1 rfl (Nat.le_of_ble_eq_true rfl) hi_X8_change_X8 hf_X8_change_14 dX8_change_78 ?_
        refine r_get C hw clX4 1 rfl 2 2 rfl rfl (Nat.le_of_ble_eq_true rfl) hi_X8_change_X4 hf_X8_change_80 dX8_change_81 ?_
        exact hR _ _ _ _ _ _ dX8_change_84 trivial hwp hw
      · have hwp := hF hc
        refine r_bipush C dX8_change_40 bpb_m4 ?_
        exact hR _ _ _ _ _ _ dX8_change_42 trivial hwp hw
    · have hwp := hF hc
      refine r_bipush C dX8_change_25 bpb_m3 ?_
      exact hR _ _ _ _ _ _ dX8_change_27 trivial hwp hw
  · have hwp := hF hc
    refine r_bipush C dX8_change_8 bpb_m2 ?_
    exact hR _ _ _ _ _ _ dX8_change_10 trivial hwp hw
set_option maxRecDepth 100000 in
theorem c_X8_change {l : Launch} {D : va_G} {cA : FieldType → ClassId} {h : Nat → Nat} {σ : St} {sz : Nat} {v1 : Int} {post : Int → St → Prop} (hwp : wp_X8_change σ v1 post) : Met l yX8_change wsX8_change rm_X8_change (va_Pc [.ref (h 0), iv v1] (preS D cA K_BT h σ sz)) (QI D cA K_BT h sz post) 0 0 (aA K_BT.length h sz) := by
  refine mk_met (cc := cX8_change) (nL := 2) (ret := (some .int)) (own := RX8) 0 (by decide) rfl rfl rfl rfl ?_
  intro p e s m args below meth c ls hsz C hw hl hA
  subst hsz
  exact b_X8_change_0 C hA (rt_i C _) hwp hw hl
-- X8_calls
theorem hi_X8_calls_X4 : ∀ w ∈ u_ws RX4 TX4 11, w ∈ wsX8_calls := by decide +kernel
theorem hi_X8_calls_X8 : ∀ w ∈ u_ws RX8 TX8 10, w ∈ wsX8_calls := by decide +kernel
theorem hf_X8_calls_62 : Cond.fieldLink RX8 62 (TX4 0).1 (TX4 0).2.1 (TX4 0).2.2.1 ∈ wsX8_calls := by decide +kernel
theorem hf_X8_calls_14 : Cond.fieldLink RX8 14 (TX8 0).1 (TX8 0).2.1 (TX8 0).2.2.1 ∈ wsX8_calls := by decide +kernel
theorem hf_X8_calls_58 : Cond.fieldLink RX8 58 (TX8 9).1 (TX8 9).2.1 (TX8 9).2.2.1 ∈ wsX8_calls := by decide +kernel
def rm_X8_calls : Room := { frames := 3, cells := 0, slots := 0, locals := 65 }
set_option maxRecDepth 100000 in
theorem b_X8_calls_45 {post : Int → St → Prop} (C : cx p s m args meth c wsX8_calls RX8 cX8_calls 4 (some .int) D cA) (hA : ∀ q, s.heap.size ≤ q → A q) (hR : RtI p l e rm_X8_calls s m args below meth c Q cX8_calls D cA K_BT h A (fun _ => True) post) : ∀ {v1 v2 : Int} {σ : St} {H : Heap} {locs : List Loc} {ls : Array Slot}, wp_X8_calls_45 post v1 v2 σ → wd D cA K_BT h σ A s.heap H locs → lh ls 4 [some (.ref (h 0)), some (iv v1), some (iv v2), none] → W p l e rm_X8_calls s m args below meth c H locs 0 0 Q (F0 m 45 ls []) := by
  intro v1 v2 σ H locs ls hwp hw hl
  refine r_aload_n C dX8_calls_45 hl rfl ?_
  refine r_getr C hw clX8 0 rfl 0 1 rfl (Nat.le_of_ble_eq_true rfl) hi_X8_calls_X8 hf_X8_calls_14 dX8_calls_46 ?_
  refine r_iload_n C dX8_calls_49 hl rfl ?_
  refine r_cIr hA hw sb_BT_Setup_1_20 (run_v C hw sb_BT_Setup_1_20 clX4 rfl (c_X4_calledChange hwp) (cwV 1 C.2.2.2.2.1 gX8_calls_X4_calledChange rfl rfl rfl hd_X4_calledChange ⟨Nat.le_of_ble_eq_true rfl, Nat.le_of_ble_eq_true rfl⟩) rfl rfl rfl hl dX8_calls_50 ⟨Nat.zero_le _, Nat.zero_le _⟩) (fun r H locs hwp hw => ?_)
  refine r_istore_n C dX8_calls_53 hl (Nat.le_of_ble_eq_true rfl) (Nat.le_of_ble_eq_true rfl) rfl (fun ls hl => ?_)
  refine r_aload_n C dX8_calls_54 hl rfl ?_
  refine r_getr C hw clX8 0 rfl 0 1 rfl (Nat.le_of_ble_eq_true rfl) hi_X8_calls_X8 hf_X8_calls_14 dX8_calls_55 ?_
  refine r_iload_n C dX8_calls_58 hl rfl ?_
  refine r_iload_n C dX8_calls_59 hl rfl ?_
  refine r_cV hA hw sb_BT_Setup_1_20 (run_v C hw sb_BT_Setup_1_20 clX4 rfl (c_X4_setCalledChange hwp) (cwV 2 C.2.2.2.2.1 gX8_calls_X4_setCalledChange rfl rfl rfl hd_X4_setCalledChange ⟨Nat.le_of_ble_eq_true rfl, Nat.le_of_ble_eq_true rfl⟩) rfl rfl rfl hl dX8_calls_60 ⟨Nat.zero_le _, Nat.zero_le _⟩) (fun σ H locs hwp hw => ?_)
  have hwp := hwp _ rfl
  refine r_aload_n C dX8_calls_63 hl rfl ?_
  refine r_const C dX8_calls_64 ?_
  refine r_put C hw clX8 0 rfl 9 9 rfl rfl (Nat.le_of_ble_eq_true rfl) hi_X8_calls_X8 hf_X8_calls_58 rfl (oi_z (Or.inr rfl)) dX8_calls_65 (fun H locs hw => ?_)
  have hwp := hwp _ rfl
  refine r_iload_n C dX8_calls_68 hl rfl ?_
  refine r_const C dX8_calls_69 ?_
  obtain ⟨ra, hT, hF⟩ := hwp
  refine r_icmp_ne C (tgt := 77) dX8_calls_70 rfl ra (by decide) (fun hc => ?_) (fun hc => ?_)
  · have hwp := hT hc
    refine r_const C dX8_calls_77 ?_
    exact hR _ _ _ _ _ _ dX8_calls_78 trivial hwp hw
  · have hwp := hF hc
    refine r_const C dX8_calls_73 ?_
    refine r_goto C (tgt := 78) dX8_calls_74 rfl ?_
    exact hR _ _ _ _ _ _ dX8_calls_78 trivial hwp hw
set_option maxRecDepth 100000 in
theorem b_X8_calls_12 {post : Int → St → Prop} (C : cx p s m args meth c wsX8_calls RX8 cX8_calls 4 (some .int) D cA) (hA : ∀ q, s.heap.size ≤ q → A q) (hR : RtI p l e rm_X8_calls s m args below meth c Q cX8_calls D cA K_BT h A (fun _ => True) post) : ∀ {v1 v2 : Int} {σ : St} {H : Heap} {locs : List Loc} {ls : Array Slot}, wp_X8_calls_12 post v1 v2 σ → wd D cA K_BT h σ A s.heap H locs → lh ls 4 [some (.ref (h 0)), some (iv v1), some (iv v2), none] → W p l e rm_X8_calls s m args below meth c H locs 0 0 Q (F0 m 12 ls []) := by
  intro v1 v2 σ H locs ls hwp hw hl
  refine r_iload_n C dX8_calls_12 hl rfl ?_
  refine r_const C dX8_calls_13 ?_
  obtain ⟨ra, hT, hF⟩ := hwp
  refine r_icmp_eq C (tgt := 45) dX8_calls_14 rfl ra (by decide) (fun hc => ?_) (fun hc => ?_)
  · have hwp := hT hc
    exact b_X8_calls_45 C hA hR hwp hw (lh_mask hl [true, true, true, false])
  · have hwp := hF hc
    refine r_aload_n C dX8_calls_17 hl rfl ?_
    refine r_iload_n C dX8_calls_18 hl rfl ?_
    refine r_cIr0 hA hw (run_v0 C hw clX8 rfl (c_X8_isPlaces hwp) (cwV 1 C.2.2.2.2.1 gX8_calls_X8_isPlaces rfl rfl rfl hd_X8_isPlaces ⟨Nat.le_of_ble_eq_true rfl, Nat.le_of_ble_eq_true rfl⟩) rfl rfl rfl hl dX8_calls_19 ⟨Nat.zero_le _, Nat.zero_le _⟩) (fun r H locs hwp hw => ?_)
    obtain ⟨ra, hT, hF⟩ := hwp
    refine r_if_ne C (tgt := 28) dX8_calls_22 rfl ra (fun hc => ?_) (fun hc => ?_)
    · have hwp := hT hc
      refine r_aload_n C dX8_calls_28 hl rfl ?_
      refine r_getr C hw clX8 0 rfl 0 1 rfl (Nat.le_of_ble_eq_true rfl) hi_X8_calls_X8 hf_X8_calls_14 dX8_calls_29 ?_
      refine r_get C hw clX4 1 rfl 0 0 rfl rfl (Nat.le_of_ble_eq_true rfl) hi_X8_calls_X4 hf_X8_calls_62 dX8_calls_32 ?_
      refine r_iload_n C dX8_calls_35 hl rfl ?_
      refine r_cIr hA hw sb_BT_0_0_21 (run_s C hw sb_BT_0_0_21 (c_X2_isGood hwp) (va_cwS 2 C.2.2.2.2.1 gX8_calls_X2_isGood rfl rfl rfl hd_X2_isGood ⟨Nat.le_of_ble_eq_true rfl, Nat.le_of_ble_eq_true rfl⟩) rfl rfl rfl hl dX8_calls_36 ⟨Nat.zero_le _, Nat.zero_le _⟩) (fun r H locs hwp hw => ?_)
      obtain ⟨ra, hT, hF⟩ := hwp
      refine r_if_ne C (tgt := 45) dX8_calls_39 rfl ra (fun hc => ?_) (fun hc => ?_)
      · have hwp := hT hc
        exact b_X8_calls_45 C hA hR hwp hw (lh_mask hl [true, true, true, false])
      · have hwp := hF hc
        refine r_bipush C dX8_calls_42 bpb_m3 ?_
        exact hR _ _ _ _ _ _ dX8_calls_44 trivial hwp hw
    · have hwp := hF hc
      refine r_bipush C dX8_calls_25 bpb_m2 ?_
      exact hR _ _ _ _ _ _ dX8_calls_27 trivial hwp hw
set_option maxRecDepth 100000 in
theorem b_X8_calls_0 {post : Int → St → Prop} (C : cx p s m args meth c wsX8_calls RX8 cX8_calls 4 (some .int) D cA) (hA : ∀ q, s.heap.size ≤ q → A q) (hR : RtI p l e rm_X8_calls s m args below meth c Q cX8_calls D cA K_BT h A (fun _ => True) post) : ∀ {v1 v2 : Int} {σ : St} {H : Heap} {locs : List Loc} {ls : Array Slot}, wp_X8_calls σ v1 v2 post → wd D cA K_BT h σ A s.heap H locs → lh ls 4 [some (.ref (h 0)), some (iv v1), some (iv v2), none] → W p l e rm_X8_calls s m args below meth c H locs 0 0 Q (F0 m 0 ls []) := by
  intro v1 v2 σ H locs ls hwp hw hl
  refine r_iload_n C dX8_calls_0 hl rfl ?_
  refine r_const C dX8_calls_1 ?_
  obtain ⟨ra, hT, hF⟩ := hwp
  refine r_icmp_eq C (tgt := 12) dX8_calls_2 rfl ra (by decide) (fun hc => ?_) (fun hc => ?_)
  · have hwp := hT hc
    exact b_X8_calls_12 C hA hR hwp hw (lh_mask hl [true, true, true, false])
  · have hwp := hF hc
    refine r_iload_n C dX8_calls_5 hl rfl ?_
    refine r_const C dX8_calls_6 ?_
    obtain ⟨ra, hT, hF⟩ := hwp
    refine r_icmp_eq C (tgt := 12) dX8_calls_7 rfl ra (by decide) (fun hc => ?_) (fun hc => ?_)
    · have hwp := hT hc
      exact b_X8_calls_12 C hA hR hwp hw (lh_mask hl [true, true, true, false])
    · have hwp := hF hc
      refine r_const C dX8_calls_10 ?_
      exact hR _ _ _ _ _ _ dX8_calls_11 trivial hwp hw
set_option maxRecDepth 100000 in
theorem c_X8_calls {l : Launch} {D : va_G} {cA : FieldType → ClassId} {h : Nat → Nat} {σ : St} {sz : Nat} {v1 v2 : Int} {post : Int → St → Prop} (hwp : wp_X8_calls σ v1 v2 post) : Met l yX8_calls wsX8_calls rm_X8_calls (va_Pc [.ref (h 0), iv v1, iv v2] (preS D cA K_BT h σ sz)) (QI D cA K_BT h sz post) 0 0 (aA K_BT.length h sz) := by
  refine mk_met (cc := cX8_calls) (nL := 4) (ret := (some .int)) (own := RX8) 1 (by decide) rfl rfl rfl rfl ?_
  intro p e s m args below meth c ls hsz C hw hl hA
  subst hsz
  exact b_X8_calls_0 C hA (rt_i C _) hwp hw hl
-- X8_isLead
def rm_X8_isLead : Room := { frames := 0, cells := 0, slots := 0, locals := 0 }
set_option maxRecDepth 100000 in
theorem b_X8_isLead_0 {σ : St} {post : Int → Prop} (C : cx p s m args meth c wsX8_isLead RX8 cX8_isLead 1 (some .boolean) D cA) (hA : ∀ q, s.heap.size ≤ q → A q) (hR : RtI p l e rm_X8_isLead s m args below meth c Q cX8_isLead D cA K_0 h A (fun x => x = 0 ∨ x = 1) (fun r σ' => σ' = σ ∧ post r)) : ∀ {v0 : Int} {H : Heap} {locs : List Loc} {ls : Array Slot}, wp_X8_isLead v0 post → wd D cA K_0 h σ A s.heap H locs → lh ls 1 [some (iv v0)] → W p l e rm_X8_isLead s m args below meth c H locs 0 0 Q (F0 m 0 ls []) := by
  intro v0 H locs ls hwp hw hl
  refine r_iload_n C dX8_isLead_0 hl rfl ?_
  obtain ⟨ra, hT, hF⟩ := hwp
  refine r_if_lt C (tgt := 14) dX8_isLead_1 rfl ra (fun hc => ?_) (fun hc => ?_)
  · have hwp := hT hc
    refine r_const C dX8_isLead_14 ?_
    exact hR _ _ _ _ _ _ dX8_isLead_15 (Or.inl rfl) ⟨rfl, hwp⟩ hw
  · have hwp := hF hc
    refine r_iload_n C dX8_isLead_4 hl rfl ?_
    refine r_bipush C dX8_isLead_5 bpb_12 ?_
    obtain ⟨ra, hT, hF⟩ := hwp
    refine r_icmp_ge C (tgt := 14) dX8_isLead_7 rfl ra (by decide) (fun hc => ?_) (fun hc => ?_)
    · have hwp := hT hc
      refine r_const C dX8_isLead_14 ?_
      exact hR _ _ _ _ _ _ dX8_isLead_15 (Or.inl rfl) ⟨rfl, hwp⟩ hw
    · have hwp := hF hc
      refine r_const C dX8_isLead_10 ?_
      refine r_goto C (tgt := 15) dX8_isLead_11 rfl ?_
      exact hR _ _ _ _ _ _ dX8_isLead_15 (Or.inr rfl) ⟨rfl, hwp⟩ hw
set_option maxRecDepth 100000 in
theorem c_X8_isLead {l : Launch} {D : va_G} {cA : FieldType → ClassId} {h : Nat → Nat} {σ : St} {sz : Nat} {v0 : Int} {post : Int → Prop} (hwp : wp_X8_isLead v0 post) : Met l yX8_isLead wsX8_isLead rm_X8_isLead (va_Pc [iv v0] (preS D cA K_0 h σ sz)) (QI D cA K_0 h sz (fun r σ' => σ' = σ ∧ post r)) 0 0 (aA K_0.length h sz) := by
  refine mk_met (cc := cX8_isLead) (nL := 1) (ret := (some .boolean)) (own := RX8) 0 (by decide) rfl rfl rfl rfl ?_
  intro p e s m args below meth c ls hsz C hw hl hA
  subst hsz
  exact b_X8_isLead_0 C hA (rt_z C _) hwp hw hl
-- X8_call
theorem hi_X8_call_X4 : ∀ w ∈ u_ws RX4 TX4 11, w ∈ wsX8_call := by decide +kernel
theorem hi_X8_call_X8 : ∀ w ∈ u_ws RX8 TX8 10, w ∈ wsX8_call := by decide +kernel
theorem hf_X8_call_98 : Cond.fieldLink RX8 98 (TX4 5).1 (TX4 5).2.1 (TX4 5).2.2.1 ∈ wsX8_call := by decide +kernel
theorem hf_X8_call_14 : Cond.fieldLink RX8 14 (TX8 0).1 (TX8 0).2.1 (TX8 0).2.2.1 ∈ wsX8_call := by decide +kernel
theorem hf_X8_call_58 : Cond.fieldLink RX8 58 (TX8 9).1 (TX8 9).2.1 (TX8 9).2.2.1 ∈ wsX8_call := by decide +kernel
def rm_X8_call : Room := { frames := 1, cells := 0, slots := 0, locals := 20 }
set_option maxRecDepth 100000 in
theorem b_X8_call_0 {post : Int → St → Prop} (C : cx p s m args meth c wsX8_call RX8 cX8_call 4 (some .int) D cA) (hA : ∀ q, s.heap.size ≤ q → A q) (hR : RtI p l e rm_X8_call s m args below meth c Q cX8_call D cA K_BT h A (fun _ => True) post) : ∀ {v1 v2 : Int} {σ : St} {H : Heap} {locs : List Loc} {ls : Array Slot}, wp_X8_call σ v1 v2 post → wd D cA K_BT h σ A s.heap H locs → lh ls 4 [some (.ref (h 0)), some (iv v1), some (iv v2), none] → W p l e rm_X8_call s m args below meth c H locs 0 0 Q (F0 m 0 ls []) := by
  intro v1 v2 σ H locs ls hwp hw hl
  refine r_iload_n C dX8_call_0 hl rfl ?_
  refine r_cIr hA hw sb_BT_0_0_21 (run_s C hw sb_BT_0_0_21 (c_X8_isLead hwp) (va_cwS 1 C.2.2.2.2.1 gX8_call_X8_isLead rfl rfl rfl hd_X8_isLead ⟨Nat.le_of_ble_eq_true rfl, Nat.le_of_ble_eq_true rfl⟩) rfl rfl rfl hl dX8_call_1 ⟨Nat.zero_le _, Nat.zero_le _⟩) (fun r H locs hwp hw => ?_)
  obtain ⟨ra, hT, hF⟩ := hwp
  refine r_if_ne C (tgt := 9) dX8_call_4 rfl ra (fun hc => ?_) (fun hc => ?_)
  · have hwp := hT hc
    refine r_iload_n C dX8_call_9 hl rfl ?_
    obtain ⟨ra, hT, hF⟩ := hwp
    refine r_if_lt C (tgt := 18) dX8_call_10 rfl ra (fun hc => ?_) (fun hc => ?_)
    · have hwp := hT hc
      refine r_bipush C dX8_call_18 bpb_m2 ?_
      exact hR _ _ _ _ _ _ dX8_call_20 trivial hwp hw
    · have hwp := hF hc
      refine r_iload_n C dX8_call_13 hl rfl ?_
      refine r_const C dX8_call_14 ?_
      obtain ⟨ra, hT, hF⟩ := hwp
      refine r_icmp_le C (tgt := 21) dX8_call_15 rfl ra (by decide) (fun hc => ?_) (fun hc => ?_)
      · have hwp := hT hc
        refine r_aload_n C dX8_call_21 hl rfl ?_
        refine r_getr C hw clX8 0 rfl 0 1 rfl (Nat.le_of_ble_eq_true rfl) hi_X8_call_X8 hf_X8_call_14 dX8_call_22 ?_
        refine r_getr C hw clX4 1 rfl 5 3 rfl (Nat.le_of_ble_eq_true rfl) hi_X8_call_X4 hf_X8_call_98 dX8_call_25 ?_
        refine r_iload_n C dX8_call_28 hl rfl ?_
        obtain ⟨h0, h1, hwp⟩ := hwp
        refine r_iald C hw 3 rfl rfl h0 h1 dX8_call_29 ?_
        refine r_istore_n C dX8_call_30 hl (Nat.le_of_ble_eq_true rfl) (Nat.le_of_ble_eq_true rfl) rfl (fun ls hl => ?_)
        refine r_aload_n C dX8_call_31 hl rfl ?_
        refine r_getr C hw clX8 0 rfl 0 1 rfl (Nat.le_of_ble_eq_true rfl) hi_X8_call_X8 hf_X8_call_14 dX8_call_32 ?_
        refine r_getr C hw clX4 1 rfl 5 3 rfl (Nat.le_of_ble_eq_true rfl) hi_X8_call_X4 hf_X8_call_98 dX8_call_35 ?_
        refine r_iload_n C dX8_call_38 hl rfl ?_
        refine r_iload_n C dX8_call_39 hl rfl ?_
        obtain ⟨h0, h1, hwp⟩ := hwp
        refine r_iast C hw 3 rfl rfl h0 h1 dX8_call_40 (fun H locs hw => ?_)
        have hwp := hwp _ rfl
        refine r_aload_n C dX8_call_41 hl rfl ?_
        refine r_const C dX8_call_42 ?_
        refine r_put C hw clX8 0 rfl 9 9 rfl rfl (Nat.le_of_ble_eq_true rfl) hi_X8_call_X8 hf_X8_call_58 rfl (oi_z (Or.inr rfl)) dX8_call_43 (fun H locs hw => ?_)
        have hwp := hwp _ rfl
        refine r_iload_n C dX8_call_46 hl rfl ?_
        exact hR _ _ _ _ _ _ dX8_call_47 trivial hwp hw
      · have hwp := hF hc
        refine r_bipush C dX8_call_18 bpb_m2 ?_
        exact hR _ _ _ _ _ _ dX8_call_20 trivial hwp hw
  · have hwp := hF hc
    refine r_const C dX8_call_7 ?_
    exact hR _ _ _ _ _ _ dX8_call_8 trivial hwp hw
set_option maxRecDepth 100000 in
theorem c_X8_call {l : Launch} {D : va_G} {cA : FieldType → ClassId} {h : Nat → Nat} {σ : St} {sz : Nat} {v1 v2 : Int} {post : Int → St → Prop} (hwp : wp_X8_call σ v1 v2 post) : Met l yX8_call wsX8_call rm_X8_call (va_Pc [.ref (h 0), iv v1, iv v2] (preS D cA K_BT h σ sz)) (QI D cA K_BT h sz post) 0 0 (aA K_BT.length h sz) := by
  refine mk_met (cc := cX8_call) (nL := 4) (ret := (some .int)) (own := RX8) 1 (by decide) rfl rfl rfl rfl ?_
  intro p e s m args below meth c ls hsz C hw hl hA
  subst hsz
  exact b_X8_call_0 C hA (rt_i C _) hwp hw hl
-- X8_leads
theorem hi_X8_leads_X4 : ∀ w ∈ u_ws RX4 TX4 11, w ∈ wsX8_leads := by decide +kernel
theorem hi_X8_leads_X8 : ∀ w ∈ u_ws RX8 TX8 10, w ∈ wsX8_leads := by decide +kernel
theorem hf_X8_leads_101 : Cond.fieldLink RX8 101 (TX4 6).1 (TX4 6).2.1 (TX4 6).2.2.1 ∈ wsX8_leads := by decide +kernel
theorem hf_X8_leads_14 : Cond.fieldLink RX8 14 (TX8 0).1 (TX8 0).2.1 (TX8 0).2.2.1 ∈ wsX8_leads := by decide +kernel
theorem hf_X8_leads_58 : Cond.fieldLink RX8 58 (TX8 9).1 (TX8 9).2.1 (TX8 9).2.2.1 ∈ wsX8_leads := by decide +kernel
def rm_X8_leads : Room := { frames := 0, cells := 0, slots := 0, locals := 0 }
set_option maxRecDepth 100000 in
theorem b_X8_leads_0 {post : Int → St → Prop} (C : cx p s m args meth c wsX8_leads RX8 cX8_leads 3 (some .int) D cA) (hA : ∀ q, s.heap.size ≤ q → A q) (hR : RtI p l e rm_X8_leads s m args below meth c Q cX8_leads D cA K_BT h A (fun _ => True) post) : ∀ {v1 : Int} {σ : St} {H : Heap} {locs : List Loc} {ls : Array Slot}, wp_X8_leads σ v1 post → wd D cA K_BT h σ A s.heap H locs → lh ls 3 [some (.ref (h 0)), some (iv v1), none] → W p l e rm_X8_leads s m args below meth c H locs 0 0 Q (F0 m 0 ls []) := by
  intro v1 σ H locs ls hwp hw hl
  refine r_iload_n C dX8_leads_0 hl rfl ?_
  refine r_const C dX8_leads_1 ?_
  obtain ⟨ra, hT, hF⟩ := hwp
  refine r_icmp_lt C (tgt := 11) dX8_leads_2 rfl ra (by decide) (fun hc => ?_) (fun hc => ?_)
  · have hwp := hT hc
    refine r_bipush C dX8_leads_11 bpb_m2 ?_
    exact hR _ _ _ _ _ _ dX8_leads_13 trivial hwp hw
  · have hwp := hF hc
    refine r_iload_n C dX8_leads_5 hl rfl ?_
    refine r_bipush C dX8_leads_6 bpb_12 ?_
    obtain ⟨ra, hT, hF⟩ := hwp
    refine r_icmp_le C (tgt := 14) dX8_leads_8 rfl ra (by decide) (fun hc => ?_) (fun hc => ?_)
    · have hwp := hT hc
      refine r_aload_n C dX8_leads_14 hl rfl ?_
      refine r_getr C hw clX8 0 rfl 0 1 rfl (Nat.le_of_ble_eq_true rfl) hi_X8_leads_X8 hf_X8_leads_14 dX8_leads_15 ?_
      refine r_get C hw clX4 1 rfl 6 6 rfl rfl (Nat.le_of_ble_eq_true rfl) hi_X8_leads_X4 hf_X8_leads_101 dX8_leads_18 ?_
      refine r_istore_n C dX8_leads_21 hl (Nat.le_of_ble_eq_true rfl) (Nat.le_of_ble_eq_true rfl) rfl (fun ls hl => ?_)
      refine r_aload_n C dX8_leads_22 hl rfl ?_
      refine r_getr C hw clX8 0 rfl 0 1 rfl (Nat.le_of_ble_eq_true rfl) hi_X8_leads_X8 hf_X8_leads_14 dX8_leads_23 ?_
      refine r_iload_n C dX8_leads_26 hl rfl ?_
      refine r_put C hw clX4 1 rfl 6 6 rfl rfl (Nat.le_of_ble_eq_true rfl) hi_X8_leads_X4 hf_X8_leads_101 rfl ⟨nar_i _, fit_i _⟩ dX8_leads_27 (fun H locs hw => ?_)
      have hwp := hwp _ rfl
      refine r_aload_n C dX8_leads_30 hl rfl ?_
      refine r_const C dX8_leads_31 ?_
      refine r_put C hw clX8 0 rfl 9 9 rfl rfl (Nat.le_of_ble_eq_true rfl) hi_X8_leads_X8 hf_X8_leads_58 rfl (oi_z (Or.inr rfl)) dX8_leads_32 (fun H locs hw => ?_)
      have hwp := hwp _ rfl
      refine r_iload_n C dX8_leads_35 hl rfl ?_
      exact hR _ _ _ _ _ _ dX8_leads_36 trivial hwp hw
    · have hwp := hF hc
      refine r_bipush C dX8_leads_11 bpb_m2 ?_
      exact hR _ _ _ _ _ _ dX8_leads_13 trivial hwp hw
set_option maxRecDepth 100000 in
theorem c_X8_leads {l : Launch} {D : va_G} {cA : FieldType → ClassId} {h : Nat → Nat} {σ : St} {sz : Nat} {v1 : Int} {post : Int → St → Prop} (hwp : wp_X8_leads σ v1 post) : Met l yX8_leads wsX8_leads rm_X8_leads (va_Pc [.ref (h 0), iv v1] (preS D cA K_BT h σ sz)) (QI D cA K_BT h sz post) 0 0 (aA K_BT.length h sz) := by
  refine mk_met (cc := cX8_leads) (nL := 3) (ret := (some .int)) (own := RX8) 1 (by decide) rfl rfl rfl rfl ?_
  intro p e s m args below meth c ls hsz C hw hl hA
  subst hsz
  exact b_X8_leads_0 C hA (rt_i C _) hwp hw hl
-- X8_pattern
theorem hi_X8_pattern_X4 : ∀ w ∈ u_ws RX4 TX4 11, w ∈ wsX8_pattern := by decide +kernel
theorem hi_X8_pattern_X8 : ∀ w ∈ u_ws RX8 TX8 10, w ∈ wsX8_pattern := by decide +kernel
theorem hf_X8_pattern_104 : Cond.fieldLink RX8 104 (TX4 7).1 (TX4 7).2.1 (TX4 7).2.2.1 ∈ wsX8_pattern := by decide +kernel
theorem hf_X8_pattern_14 : Cond.fieldLink RX8 14 (TX8 0).1 (TX8 0).2.1 (TX8 0).2.2.1 ∈ wsX8_pattern := by decide +kernel
def rm_X8_pattern : Room := { frames := 0, cells := 0, slots := 0, locals := 0 }
set_option maxRecDepth 100000 in
theorem b_X8_pattern_0 {post : Int → St → Prop} (C : cx p s m args meth c wsX8_pattern RX8 cX8_pattern 4 (some .int) D cA) (hA : ∀ q, s.heap.size ≤ q → A q) (hR : RtI p l e rm_X8_pattern s m args below meth c Q cX8_pattern D cA K_BT h A (fun _ => True) post) : ∀ {v1 v2 : Int} {σ : St} {H : Heap} {locs : List Loc} {ls : Array Slot}, wp_X8_pattern σ v1 v2 post → wd D cA K_BT h σ A s.heap H locs → lh ls 4 [some (.ref (h 0)), some (iv v1), some (iv v2), none] → W p l e rm_X8_pattern s m args below meth c H locs 0 0 Q (F0 m 0 ls []) := by
  intro v1 v2 σ H locs ls hwp hw hl
  refine r_iload_n C dX8_pattern_0 hl rfl ?_
  refine r_const C dX8_pattern_1 ?_
  obtain ⟨ra, hT, hF⟩ := hwp
  refine r_icmp_lt C (tgt := 11) dX8_pattern_2 rfl ra (by decide) (fun hc => ?_) (fun hc => ?_)
  · have hwp := hT hc
    refine r_const C dX8_pattern_11 ?_
    exact hR _ _ _ _ _ _ dX8_pattern_12 trivial hwp hw
  · have hwp := hF hc
    refine r_iload_n C dX8_pattern_5 hl rfl ?_
    refine r_bipush C dX8_pattern_6 bpb_8 ?_
    obtain ⟨ra, hT, hF⟩ := hwp
    refine r_icmp_le C (tgt := 13) dX8_pattern_8 rfl ra (by decide) (fun hc => ?_) (fun hc => ?_)
    · have hwp := hT hc
      refine r_iload_n C dX8_pattern_13 hl rfl ?_
      obtain ⟨ra, hT, hF⟩ := hwp
      refine r_if_lt C (tgt := 23) dX8_pattern_14 rfl ra (fun hc => ?_) (fun hc => ?_)
      · have hwp := hT hc
        refine r_bipush C dX8_pattern_23 bpb_m2 ?_
        exact hR _ _ _ _ _ _ dX8_pattern_25 trivial hwp hw
      · have hwp := hF hc
        refine r_iload_n C dX8_pattern_17 hl rfl ?_
        refine r_bipush C dX8_pattern_18 bpb_8 ?_
        obtain ⟨ra, hT, hF⟩ := hwp
        refine r_icmp_le C (tgt := 26) dX8_pattern_20 rfl ra (by decide) (fun hc => ?_) (fun hc => ?_)
        · have hwp := hT hc
          refine r_aload_n C dX8_pattern_26 hl rfl ?_
          refine r_getr C hw clX8 0 rfl 0 1 rfl (Nat.le_of_ble_eq_true rfl) hi_X8_pattern_X8 hf_X8_pattern_14 dX8_pattern_27 ?_
          refine r_getr C hw clX4 1 rfl 7 4 rfl (Nat.le_of_ble_eq_true rfl) hi_X8_pattern_X4 hf_X8_pattern_104 dX8_pattern_30 ?_
          refine r_iload_n C dX8_pattern_33 hl rfl ?_
          refine r_const C dX8_pattern_34 ?_
          refine r_isub C dX8_pattern_35 ?_
          obtain ⟨h0, h1, hwp⟩ := hwp
          refine r_iald C hw 4 rfl rfl h0 h1 dX8_pattern_36 ?_
          refine r_istore_n C dX8_pattern_37 hl (Nat.le_of_ble_eq_true rfl) (Nat.le_of_ble_eq_true rfl) rfl (fun ls hl => ?_)
          refine r_aload_n C dX8_pattern_38 hl rfl ?_
          refine r_getr C hw clX8 0 rfl 0 1 rfl (Nat.le_of_ble_eq_true rfl) hi_X8_pattern_X8 hf_X8_pattern_14 dX8_pattern_39 ?_
          refine r_getr C hw clX4 1 rfl 7 4 rfl (Nat.le_of_ble_eq_true rfl) hi_X8_pattern_X4 hf_X8_pattern_104 dX8_pattern_42 ?_
          refine r_iload_n C dX8_pattern_45 hl rfl ?_
          refine r_const C dX8_pattern_46 ?_
          refine r_isub C dX8_pattern_47 ?_
          refine r_iload_n C dX8_pattern_48 hl rfl ?_
          obtain ⟨h0, h1, hwp⟩ := hwp
          refine r_iast C hw 4 rfl rfl h0 h1 dX8_pattern_49 (fun H locs hw => ?_)
          have hwp := hwp _ rfl
          refine r_iload_n C dX8_pattern_50 hl rfl ?_
          exact hR _ _ _ _ _ _ dX8_pattern_51 trivial hwp hw
        · have hwp := hF hc
          refine r_bipush C dX8_pattern_23 bpb_m2 ?_
          exact hR _ _ _ _ _ _ dX8_pattern_25 trivial hwp hw
    · have hwp := hF hc
      refine r_const C dX8_pattern_11 ?_
      exact hR _ _ _ _ _ _ dX8_pattern_12 trivial hwp hw
set_option maxRecDepth 100000 in
theorem c_X8_pattern {l : Launch} {D : va_G} {cA : FieldType → ClassId} {h : Nat → Nat} {σ : St} {sz : Nat} {v1 v2 : Int} {post : Int → St → Prop} (hwp : wp_X8_pattern σ v1 v2 post) : Met l yX8_pattern wsX8_pattern rm_X8_pattern (va_Pc [.ref (h 0), iv v1, iv v2] (preS D cA K_BT h σ sz)) (QI D cA K_BT h sz post) 0 0 (aA K_BT.length h sz) := by
  refine mk_met (cc := cX8_pattern) (nL := 4) (ret := (some .int)) (own := RX8) 1 (by decide) rfl rfl rfl rfl ?_
  intro p e s m args below meth c ls hsz C hw hl hA
  subst hsz
  exact b_X8_pattern_0 C hA (rt_i C _) hwp hw hl
-- X8_feed
theorem hi_X8_feed_X5 : ∀ w ∈ u_ws RX5 TX5 8, w ∈ wsX8_feed := by decide +kernel
theorem hi_X8_feed_X8 : ∀ w ∈ u_ws RX8 TX8 10, w ∈ wsX8_feed := by decide +kernel
theorem hf_X8_feed_110 : Cond.fieldLink RX8 110 (TX5 0).1 (TX5 0).2.1 (TX5 0).2.2.1 ∈ wsX8_feed := by decide +kernel
theorem hf_X8_feed_44 : Cond.fieldLink RX8 44 (TX8 6).1 (TX8 6).2.1 (TX8 6).2.2.1 ∈ wsX8_feed := by decide +kernel
def rm_X8_feed : Room := { frames := 1, cells := 0, slots := 0, locals := 21 }
set_option maxRecDepth 100000 in
theorem b_X8_feed_0 {post : Int → St → Prop} (C : cx p s m args meth c wsX8_feed RX8 cX8_feed 2 (some .int) D cA) (hA : ∀ q, s.heap.size ≤ q → A q) (hR : RtI p l e rm_X8_feed s m args below meth c Q cX8_feed D cA K_BT h A (fun _ => True) post) : ∀ {v1 : Int} {σ : St} {H : Heap} {locs : List Loc} {ls : Array Slot}, wp_X8_feed σ v1 post → wd D cA K_BT h σ A s.heap H locs → lh ls 2 [some (.ref (h 0)), some (iv v1)] → W p l e rm_X8_feed s m args below meth c H locs 0 0 Q (F0 m 0 ls []) := by
  intro v1 σ H locs ls hwp hw hl
  refine r_iload_n C dX8_feed_0 hl rfl ?_
  obtain ⟨ra, hT, hF⟩ := hwp
  refine r_if_lt C (tgt := 10) dX8_feed_1 rfl ra (fun hc => ?_) (fun hc => ?_)
  · have hwp := hT hc
    refine r_bipush C dX8_feed_10 bpb_m2 ?_
    exact hR _ _ _ _ _ _ dX8_feed_12 trivial hwp hw
  · have hwp := hF hc
    refine r_iload_n C dX8_feed_4 hl rfl ?_
    refine r_bipush C dX8_feed_5 bpb_127 ?_
    obtain ⟨ra, hT, hF⟩ := hwp
    refine r_icmp_le C (tgt := 13) dX8_feed_7 rfl ra (by decide) (fun hc => ?_) (fun hc => ?_)
    · have hwp := hT hc
      refine r_aload_n C dX8_feed_13 hl rfl ?_
      refine r_getr C hw clX8 0 rfl 6 74 rfl (Nat.le_of_ble_eq_true rfl) hi_X8_feed_X8 hf_X8_feed_44 dX8_feed_14 ?_
      refine r_iload_n C dX8_feed_17 hl rfl ?_
      refine r_cI hA hw sb_BT_Text_74_22 (run_v C hw sb_BT_Text_74_22 clX5 rfl (c_X5_append hwp) (cwV 1 C.2.2.2.2.1 gX8_feed_X5_append rfl rfl rfl hd_X5_append ⟨Nat.le_of_ble_eq_true rfl, Nat.le_of_ble_eq_true rfl⟩) rfl rfl rfl hl dX8_feed_18 ⟨Nat.zero_le _, Nat.zero_le _⟩) (fun r σ H locs hwp hw => ?_)
      have hwp := hwp _ rfl
      obtain ⟨ra, hT, hF⟩ := hwp
      refine r_if_eq C (tgt := 34) dX8_feed_21 rfl ra (fun hc => ?_) (fun hc => ?_)
      · have hwp := hT hc
        refine r_bipush C dX8_feed_34 bpb_m4 ?_
        exact hR _ _ _ _ _ _ dX8_feed_36 trivial hwp hw
      · have hwp := hF hc
        refine r_aload_n C dX8_feed_24 hl rfl ?_
        refine r_getr C hw clX8 0 rfl 6 74 rfl (Nat.le_of_ble_eq_true rfl) hi_X8_feed_X8 hf_X8_feed_44 dX8_feed_25 ?_
        refine r_get C hw clX5 74 rfl 0 0 rfl rfl (Nat.le_of_ble_eq_true rfl) hi_X8_feed_X5 hf_X8_feed_110 dX8_feed_28 ?_
        refine r_goto C (tgt := 36) dX8_feed_31 rfl ?_
        exact hR _ _ _ _ _ _ dX8_feed_36 trivial hwp hw
    · have hwp := hF hc
      refine r_bipush C dX8_feed_10 bpb_m2 ?_
      exact hR _ _ _ _ _ _ dX8_feed_12 trivial hwp hw
set_option maxRecDepth 100000 in
theorem c_X8_feed {l : Launch} {D : va_G} {cA : FieldType → ClassId} {h : Nat → Nat} {σ : St} {sz : Nat} {v1 : Int} {post : Int → St → Prop} (hwp : wp_X8_feed σ v1 post) : Met l yX8_feed wsX8_feed rm_X8_feed (va_Pc [.ref (h 0), iv v1] (preS D cA K_BT h σ sz)) (QI D cA K_BT h sz post) 0 0 (aA K_BT.length h sz) := by
  refine mk_met (cc := cX8_feed) (nL := 2) (ret := (some .int)) (own := RX8) 0 (by decide) rfl rfl rfl rfl ?_
  intro p e s m args below meth c ls hsz C hw hl hA
  subst hsz
  exact b_X8_feed_0 C hA (rt_i C _) hwp hw hl
-- X8_read
theorem hi_X8_read_X5 : ∀ w ∈ u_ws RX5 TX5 8, w ∈ wsX8_read := by decide +kernel
theorem hi_X8_read_X8 : ∀ w ∈ u_ws RX8 TX8 10, w ∈ wsX8_read := by decide +kernel
theorem hf_X8_read_110 : Cond.fieldLink RX8 110 (TX5 0).1 (TX5 0).2.1 (TX5 0).2.2.1 ∈ wsX8_read := by decide +kernel
theorem hf_X8_read_14 : Cond.fieldLink RX8 14 (TX8 0).1 (TX8 0).2.1 (TX8 0).2.2.1 ∈ wsX8_read := by decide +kernel
theorem hf_X8_read_44 : Cond.fieldLink RX8 44 (TX8 6).1 (TX8 6).2.1 (TX8 6).2.2.1 ∈ wsX8_read := by decide +kernel
theorem hf_X8_read_58 : Cond.fieldLink RX8 58 (TX8 9).1 (TX8 9).2.1 (TX8 9).2.2.1 ∈ wsX8_read := by decide +kernel
def rm_X8_read : Room := { frames := 6, cells := 0, slots := 0, locals := 136 }
set_option maxRecDepth 100000 in
theorem b_X8_read_0 {post : Int → St → Prop} (C : cx p s m args meth c wsX8_read RX8 cX8_read 2 (some .int) D cA) (hA : ∀ q, s.heap.size ≤ q → A q) (hR : RtI p l e rm_X8_read s m args below meth c Q cX8_read D cA K_BT h A (fun _ => True) post) : ∀ {σ : St} {H : Heap} {locs : List Loc} {ls : Array Slot}, wp_X8_read σ post → wd D cA K_BT h σ A s.heap H locs → lh ls 2 [some (.ref (h 0)), none] → W p l e rm_X8_read s m args below meth c H locs 0 0 Q (F0 m 0 ls []) := by
  intro σ H locs ls hwp hw hl
  refine r_aload_n C dX8_read_0 hl rfl ?_
  refine r_getr C hw clX8 0 rfl 6 74 rfl (Nat.le_of_ble_eq_true rfl) hi_X8_read_X8 hf_X8_read_44 dX8_read_1 ?_
  refine r_cI hA hw sb_BT_Text_74_22 (run_v C hw sb_BT_Text_74_22 clX5 rfl (c_X5_parse hwp) (cwV 0 C.2.2.2.2.1 gX8_read_X5_parse rfl rfl rfl hd_X5_parse ⟨Nat.le_of_ble_eq_true rfl, Nat.le_of_ble_eq_true rfl⟩) rfl rfl rfl hl dX8_read_4 ⟨Nat.zero_le _, Nat.zero_le _⟩) (fun r σ H locs hwp hw => ?_)
  have hwp := hwp _ rfl
  refine r_istore_n C dX8_read_7 hl (Nat.le_of_ble_eq_true rfl) (Nat.le_of_ble_eq_true rfl) rfl (fun ls hl => ?_)
  refine r_aload_n C dX8_read_8 hl rfl ?_
  refine r_getr C hw clX8 0 rfl 6 74 rfl (Nat.le_of_ble_eq_true rfl) hi_X8_read_X8 hf_X8_read_44 dX8_read_9 ?_
  refine r_const C dX8_read_12 ?_
  refine r_put C hw clX5 74 rfl 0 0 rfl rfl (Nat.le_of_ble_eq_true rfl) hi_X8_read_X5 hf_X8_read_110 rfl ⟨nar_i _, fit_i _⟩ dX8_read_13 (fun H locs hw => ?_)
  have hwp := hwp _ rfl
  refine r_iload_n C dX8_read_16 hl rfl ?_
  refine r_bipush C dX8_read_17 bpb_m5 ?_
  obtain ⟨ra, hT, hF⟩ := hwp
  refine r_icmp_eq C (tgt := 27) dX8_read_19 rfl ra (by decide) (fun hc => ?_) (fun hc => ?_)
  · have hwp := hT hc
    refine r_aload_n C dX8_read_27 hl rfl ?_
    refine r_const C dX8_read_28 ?_
    refine r_put C hw clX8 0 rfl 9 9 rfl rfl (Nat.le_of_ble_eq_true rfl) hi_X8_read_X8 hf_X8_read_58 rfl (oi_z (Or.inr rfl)) dX8_read_29 (fun H locs hw => ?_)
    have hwp := hwp _ rfl
    refine r_aload_n C dX8_read_32 hl rfl ?_
    refine r_getr C hw clX8 0 rfl 6 74 rfl (Nat.le_of_ble_eq_true rfl) hi_X8_read_X8 hf_X8_read_44 dX8_read_33 ?_
    refine r_aload_n C dX8_read_36 hl rfl ?_
    refine r_getr C hw clX8 0 rfl 0 1 rfl (Nat.le_of_ble_eq_true rfl) hi_X8_read_X8 hf_X8_read_14 dX8_read_37 ?_
    refine r_cI hA hw sb_BT_TextS_74_23 (run_v C hw sb_BT_TextS_74_23 clX5 rfl (c_X5_perform hwp) (cwV 1 C.2.2.2.2.1 gX8_read_X5_perform rfl rfl rfl hd_X5_perform ⟨Nat.le_of_ble_eq_true rfl, Nat.le_of_ble_eq_true rfl⟩) rfl rfl rfl hl dX8_read_40 ⟨Nat.zero_le _, Nat.zero_le _⟩) (fun r σ H locs hwp hw => ?_)
    have hwp := hwp _ rfl
    exact hR _ _ _ _ _ _ dX8_read_43 trivial hwp hw
  · have hwp := hF hc
    refine r_bipush C dX8_read_22 bpb_m10 ?_
    refine r_iload_n C dX8_read_24 hl rfl ?_
    refine r_isub C dX8_read_25 ?_
    exact hR _ _ _ _ _ _ dX8_read_26 trivial hwp hw
set_option maxRecDepth 100000 in
theorem c_X8_read {l : Launch} {D : va_G} {cA : FieldType → ClassId} {h : Nat → Nat} {σ : St} {sz : Nat} {post : Int → St → Prop} (hwp : wp_X8_read σ post) : Met l yX8_read wsX8_read rm_X8_read (va_Pc [.ref (h 0)] (preS D cA K_BT h σ sz)) (QI D cA K_BT h sz post) 0 0 (aA K_BT.length h sz) := by
  refine mk_met (cc := cX8_read) (nL := 2) (ret := (some .int)) (own := RX8) 1 (by decide) rfl rfl rfl rfl ?_
  intro p e s m args below meth c ls hsz C hw hl hA
  subst hsz
  exact b_X8_read_0 C hA (rt_i C _) hwp hw hl
-- X8_orNotFound
def rm_X8_orNotFound : Room := { frames := 0, cells := 0, slots := 0, locals := 0 }
set_option maxRecDepth 100000 in
theorem b_X8_orNotFound_0 {σ : St} {post : Int → Prop} (C : cx p s m args meth c wsX8_orNotFound RX8 cX8_orNotFound 1 (some .int) D cA) (hA : ∀ q, s.heap.size ≤ q → A q) (hR : RtI p l e rm_X8_orNotFound s m args below meth c Q cX8_orNotFound D cA K_0 h A (fun _ => True) (fun r σ' => σ' = σ ∧ post r)) : ∀ {v0 : Int} {H : Heap} {locs : List Loc} {ls : Array Slot}, wp_X8_orNotFound v0 post → wd D cA K_0 h σ A s.heap H locs → lh ls 1 [some (iv v0)] → W p l e rm_X8_orNotFound s m args below meth c H locs 0 0 Q (F0 m 0 ls []) := by
  intro v0 H locs ls hwp hw hl
  refine r_iload_n C dX8_orNotFound_0 hl rfl ?_
  refine r_const C dX8_orNotFound_1 ?_
  obtain ⟨ra, hT, hF⟩ := hwp
  refine r_icmp_ne C (tgt := 10) dX8_orNotFound_2 rfl ra (by decide) (fun hc => ?_) (fun hc => ?_)
  · have hwp := hT hc
    refine r_iload_n C dX8_orNotFound_10 hl rfl ?_
    exact hR _ _ _ _ _ _ dX8_orNotFound_11 trivial ⟨rfl, hwp⟩ hw
  · have hwp := hF hc
    refine r_bipush C dX8_orNotFound_5 bpb_m5 ?_
    refine r_goto C (tgt := 11) dX8_orNotFound_7 rfl ?_
    exact hR _ _ _ _ _ _ dX8_orNotFound_11 trivial ⟨rfl, hwp⟩ hw
set_option maxRecDepth 100000 in
theorem c_X8_orNotFound {l : Launch} {D : va_G} {cA : FieldType → ClassId} {h : Nat → Nat} {σ : St} {sz : Nat} {v0 : Int} {post : Int → Prop} (hwp : wp_X8_orNotFound v0 post) : Met l yX8_orNotFound wsX8_orNotFound rm_X8_orNotFound (va_Pc [iv v0] (preS D cA K_0 h σ sz)) (QI D cA K_0 h sz (fun r σ' => σ' = σ ∧ post r)) 0 0 (aA K_0.length h sz) := by
  refine mk_met (cc := cX8_orNotFound) (nL := 1) (ret := (some .int)) (own := RX8) 0 (by decide) rfl rfl rfl rfl ?_
  intro p e s m args below meth c ls hsz C hw hl hA
  subst hsz
  exact b_X8_orNotFound_0 C hA (rt_i C _) hwp hw hl
-- X8_of
theorem hi_X8_of_X4 : ∀ w ∈ u_ws RX4 TX4 11, w ∈ wsX8_of := by decide +kernel
theorem hi_X8_of_X8 : ∀ w ∈ u_ws RX8 TX8 10, w ∈ wsX8_of := by decide +kernel
theorem hf_X8_of_83 : Cond.fieldLink RX8 83 (TX4 1).1 (TX4 1).2.1 (TX4 1).2.2.1 ∈ wsX8_of := by decide +kernel
theorem hf_X8_of_80 : Cond.fieldLink RX8 80 (TX4 2).1 (TX4 2).2.1 (TX4 2).2.2.1 ∈ wsX8_of := by decide +kernel
theorem hf_X8_of_121 : Cond.fieldLink RX8 121 (TX4 3).1 (TX4 3).2.1 (TX4 3).2.2.1 ∈ wsX8_of := by decide +kernel
theorem hf_X8_of_127 : Cond.fieldLink RX8 127 (TX4 4).1 (TX4 4).2.1 (TX4 4).2.2.1 ∈ wsX8_of := by decide +kernel
theorem hf_X8_of_98 : Cond.fieldLink RX8 98 (TX4 5).1 (TX4 5).2.1 (TX4 5).2.2.1 ∈ wsX8_of := by decide +kernel
theorem hf_X8_of_14 : Cond.fieldLink RX8 14 (TX8 0).1 (TX8 0).2.1 (TX8 0).2.2.1 ∈ wsX8_of := by decide +kernel
def rm_X8_of : Room := { frames := 1, cells := 0, slots := 0, locals := 20 }
set_option maxRecDepth 100000 in
theorem b_X8_of_0 {σ : St} {post : Int → Prop} (C : cx p s m args meth c wsX8_of RX8 cX8_of 3 (some .int) D cA) (hA : ∀ q, s.heap.size ≤ q → A q) (hR : RtI p l e rm_X8_of s m args below meth c Q cX8_of D cA K_BT h A (fun _ => True) (fun r σ' => σ' = σ ∧ post r)) : ∀ {v1 v2 : Int} {H : Heap} {locs : List Loc} {ls : Array Slot}, wp_X8_of σ v1 v2 post → wd D cA K_BT h σ A s.heap H locs → lh ls 3 [some (.ref (h 0)), some (iv v1), some (iv v2)] → W p l e rm_X8_of s m args below meth c H locs 0 0 Q (F0 m 0 ls []) := by
  intro v1 v2 H locs ls hwp hw hl
  refine r_iload_n C dX8_of_0 hl rfl ?_
  obtain ⟨ra, hS0, hS1, hS2, hS3, hD⟩ := hwp
  rcases sw_0_3 ra with hc | hc | hc | hc | hc
  · have hwp := hS0 hc
    refine r_tin C (tgt := 32) dX8_of_1 ra 0 hc (by decide) (by decide) rfl rfl ?_
    refine r_iload_n C dX8_of_32 hl rfl ?_
    obtain ⟨ra, hT, hF⟩ := hwp
    refine r_if_lt C (tgt := 59) dX8_of_33 rfl ra (fun hc => ?_) (fun hc => ?_)
    · have hwp := hT hc
      refine r_const C dX8_of_59 ?_
      exact hR _ _ _ _ _ _ dX8_of_60 trivial ⟨rfl, hwp⟩ hw
    · have hwp := hF hc
      refine r_iload_n C dX8_of_36 hl rfl ?_
      refine r_aload_n C dX8_of_37 hl rfl ?_
      refine r_getr C hw clX8 0 rfl 0 1 rfl (Nat.le_of_ble_eq_true rfl) hi_X8_of_X8 hf_X8_of_14 dX8_of_38 ?_
      refine r_get C hw clX4 1 rfl 2 2 rfl rfl (Nat.le_of_ble_eq_true rfl) hi_X8_of_X4 hf_X8_of_80 dX8_of_41 ?_
      obtain ⟨ra, rb, hT, hF⟩ := hwp
      refine r_icmp_ge C (tgt := 59) dX8_of_44 rfl ra rb (fun hc => ?_) (fun hc => ?_)
      · have hwp := hT hc
        refine r_const C dX8_of_59 ?_
        exact hR _ _ _ _ _ _ dX8_of_60 trivial ⟨rfl, hwp⟩ hw
      · have hwp := hF hc
        refine r_aload_n C dX8_of_47 hl rfl ?_
        refine r_getr C hw clX8 0 rfl 0 1 rfl (Nat.le_of_ble_eq_true rfl) hi_X8_of_X8 hf_X8_of_14 dX8_of_48 ?_
        refine r_getr C hw clX4 1 rfl 1 2 rfl (Nat.le_of_ble_eq_true rfl) hi_X8_of_X4 hf_X8_of_83 dX8_of_51 ?_
        refine r_iload_n C dX8_of_54 hl rfl ?_
        obtain ⟨h0, h1, hwp⟩ := hwp
        refine r_iald C hw 2 rfl rfl h0 h1 dX8_of_55 ?_
        refine r_goto C (tgt := 60) dX8_of_56 rfl ?_
        exact hR _ _ _ _ _ _ dX8_of_60 trivial ⟨rfl, hwp⟩ hw
  · have hwp := hS1 hc
    refine r_tin C (tgt := 61) dX8_of_1 ra 1 hc (by decide) (by decide) rfl rfl ?_
    refine r_aload_n C dX8_of_61 hl rfl ?_
    refine r_getr C hw clX8 0 rfl 0 1 rfl (Nat.le_of_ble_eq_true rfl) hi_X8_of_X8 hf_X8_of_14 dX8_of_62 ?_
    refine r_get C hw clX4 1 rfl 3 3 rfl rfl (Nat.le_of_ble_eq_true rfl) hi_X8_of_X4 hf_X8_of_121 dX8_of_65 ?_
    refine r_cIr hA hw sb_BT_0_0_21 (run_s C hw sb_BT_0_0_21 (c_X8_orNotFound hwp) (va_cwS 1 C.2.2.2.2.1 gX8_of_X8_orNotFound rfl rfl rfl hd_X8_orNotFound ⟨Nat.le_of_ble_eq_true rfl, Nat.le_of_ble_eq_true rfl⟩) rfl rfl rfl hl dX8_of_68 ⟨Nat.zero_le _, Nat.zero_le _⟩) (fun r H locs hwp hw => ?_)
    exact hR _ _ _ _ _ _ dX8_of_71 trivial ⟨rfl, hwp⟩ hw
  · have hwp := hS2 hc
    refine r_tin C (tgt := 72) dX8_of_1 ra 2 hc (by decide) (by decide) rfl rfl ?_
    refine r_aload_n C dX8_of_72 hl rfl ?_
    refine r_getr C hw clX8 0 rfl 0 1 rfl (Nat.le_of_ble_eq_true rfl) hi_X8_of_X8 hf_X8_of_14 dX8_of_73 ?_
    refine r_get C hw clX4 1 rfl 4 4 rfl rfl (Nat.le_of_ble_eq_true rfl) hi_X8_of_X4 hf_X8_of_127 dX8_of_76 ?_
    refine r_cIr hA hw sb_BT_0_0_21 (run_s C hw sb_BT_0_0_21 (c_X8_orNotFound hwp) (va_cwS 1 C.2.2.2.2.1 gX8_of_X8_orNotFound rfl rfl rfl hd_X8_orNotFound ⟨Nat.le_of_ble_eq_true rfl, Nat.le_of_ble_eq_true rfl⟩) rfl rfl rfl hl dX8_of_79 ⟨Nat.zero_le _, Nat.zero_le _⟩) (fun r H locs hwp hw => ?_)
    exact hR _ _ _ _ _ _ dX8_of_82 trivial ⟨rfl, hwp⟩ hw
  · have hwp := hS3 hc
    refine r_tin C (tgt := 83) dX8_of_1 ra 3 hc (by decide) (by decide) rfl rfl ?_
    refine r_iload_n C dX8_of_83 hl rfl ?_
    refine r_cIr hA hw sb_BT_0_0_21 (run_s C hw sb_BT_0_0_21 (c_X8_isLead hwp) (va_cwS 1 C.2.2.2.2.1 gX8_of_X8_isLead rfl rfl rfl hd_X8_isLead ⟨Nat.le_of_ble_eq_true rfl, Nat.le_of_ble_eq_true rfl⟩) rfl rfl rfl hl dX8_of_84 ⟨Nat.zero_le _, Nat.zero_le _⟩) (fun r H locs hwp hw => ?_)
    obtain ⟨ra, hT, hF⟩ := hwp
    refine r_if_eq C (tgt := 102) dX8_of_87 rfl ra (fun hc => ?_) (fun hc => ?_)
    · have hwp := hT hc
      refine r_const C dX8_of_102 ?_
      exact hR _ _ _ _ _ _ dX8_of_103 trivial ⟨rfl, hwp⟩ hw
    · have hwp := hF hc
      refine r_aload_n C dX8_of_90 hl rfl ?_
      refine r_getr C hw clX8 0 rfl 0 1 rfl (Nat.le_of_ble_eq_true rfl) hi_X8_of_X8 hf_X8_of_14 dX8_of_91 ?_
      refine r_getr C hw clX4 1 rfl 5 3 rfl (Nat.le_of_ble_eq_true rfl) hi_X8_of_X4 hf_X8_of_98 dX8_of_94 ?_
      refine r_iload_n C dX8_of_97 hl rfl ?_
      obtain ⟨h0, h1, hwp⟩ := hwp
      refine r_iald C hw 3 rfl rfl h0 h1 dX8_of_98 ?_
      refine r_goto C (tgt := 103) dX8_of_99 rfl ?_
      exact hR _ _ _ _ _ _ dX8_of_103 trivial ⟨rfl, hwp⟩ hw
  · have hwp := hD hc
    refine r_tout C (tgt := 104) dX8_of_1 ra hc rfl ?_
    refine r_const C dX8_of_104 ?_
    exact hR _ _ _ _ _ _ dX8_of_105 trivial ⟨rfl, hwp⟩ hw
set_option maxRecDepth 100000 in
theorem c_X8_of {l : Launch} {D : va_G} {cA : FieldType → ClassId} {h : Nat → Nat} {σ : St} {sz : Nat} {v1 v2 : Int} {post : Int → Prop} (hwp : wp_X8_of σ v1 v2 post) : Met l yX8_of wsX8_of rm_X8_of (va_Pc [.ref (h 0), iv v1, iv v2] (preS D cA K_BT h σ sz)) (QI D cA K_BT h sz (fun r σ' => σ' = σ ∧ post r)) 0 0 (aA K_BT.length h sz) := by
  refine mk_met (cc := cX8_of) (nL := 3) (ret := (some .int)) (own := RX8) 0 (by decide) rfl rfl rfl rfl ?_
  intro p e s m args below meth c ls hsz C hw hl hA
  subst hsz
  exact b_X8_of_0 C hA (rt_i C _) hwp hw hl
-- X8_rung
theorem hi_X8_rung_X8 : ∀ w ∈ u_ws RX8 TX8 10, w ∈ wsX8_rung := by decide +kernel
theorem hf_X8_rung_14 : Cond.fieldLink RX8 14 (TX8 0).1 (TX8 0).2.1 (TX8 0).2.2.1 ∈ wsX8_rung := by decide +kernel
theorem hf_X8_rung_27 : Cond.fieldLink RX8 27 (TX8 3).1 (TX8 3).2.1 (TX8 3).2.2.1 ∈ wsX8_rung := by decide +kernel
theorem hf_X8_rung_58 : Cond.fieldLink RX8 58 (TX8 9).1 (TX8 9).2.1 (TX8 9).2.2.1 ∈ wsX8_rung := by decide +kernel
def rm_X8_rung : Room := { frames := 4, cells := 0, slots := 0, locals := 90 }
set_option maxRecDepth 100000 in
theorem b_X8_rung_23 {post : St → Prop} (C : cx p s m args meth c wsX8_rung RX8 cX8_rung 1 (some (.object "BellTouches$Touch")) D cA) (hA : ∀ q, s.heap.size ≤ q → A q) (hR : RtR p l e rm_X8_rung s m args below meth c Q cX8_rung D cA K_BT h A 49 post) : ∀ {σ : St} {H : Heap} {locs : List Loc} {ls : Array Slot}, wp_X8_rung_23 post σ → wd D cA K_BT h σ A s.heap H locs → lh ls 1 [some (.ref (h 0))] → W p l e rm_X8_rung s m args below meth c H locs 0 0 Q (F0 m 23 ls []) := by
  intro σ H locs ls hwp hw hl
  refine r_aload_n C dX8_rung_23 hl rfl ?_
  refine r_getr C hw clX8 0 rfl 3 49 rfl (Nat.le_of_ble_eq_true rfl) hi_X8_rung_X8 hf_X8_rung_27 dX8_rung_24 ?_
  exact hR _ _ _ _ _ dX8_rung_27 hwp hw
set_option maxRecDepth 100000 in
theorem b_X8_rung_0 {post : St → Prop} (C : cx p s m args meth c wsX8_rung RX8 cX8_rung 1 (some (.object "BellTouches$Touch")) D cA) (hA : ∀ q, s.heap.size ≤ q → A q) (hR : RtR p l e rm_X8_rung s m args below meth c Q cX8_rung D cA K_BT h A 49 post) : ∀ {σ : St} {H : Heap} {locs : List Loc} {ls : Array Slot}, wp_X8_rung σ post → wd D cA K_BT h σ A s.heap H locs → lh ls 1 [some (.ref (h 0))] → W p l e rm_X8_rung s m args below meth c H locs 0 0 Q (F0 m 0 ls []) := by
  intro σ H locs ls hwp hw hl
  refine r_aload_n C dX8_rung_0 hl rfl ?_
  refine r_get C hw clX8 0 rfl 9 9 rfl rfl (Nat.le_of_ble_eq_true rfl) hi_X8_rung_X8 hf_X8_rung_58 dX8_rung_1 ?_
  obtain ⟨ra, hT, hF⟩ := hwp
  refine r_if_eq C (tgt := 23) dX8_rung_4 rfl ra (fun hc => ?_) (fun hc => ?_)
  · have hwp := hT hc
    exact b_X8_rung_23 C hA hR hwp hw (lh_mask hl [true])
  · have hwp := hF hc
    refine r_aload_n C dX8_rung_7 hl rfl ?_
    refine r_getr C hw clX8 0 rfl 3 49 rfl (Nat.le_of_ble_eq_true rfl) hi_X8_rung_X8 hf_X8_rung_27 dX8_rung_8 ?_
    refine r_aload_n C dX8_rung_11 hl rfl ?_
    refine r_getr C hw clX8 0 rfl 0 1 rfl (Nat.le_of_ble_eq_true rfl) hi_X8_rung_X8 hf_X8_rung_14 dX8_rung_12 ?_
    refine r_cV hA hw sb_BT_TouchS_49_24 (run_v C hw sb_BT_TouchS_49_24 clX7 rfl (c_X7_ring hwp) (cwV 1 C.2.2.2.2.1 gX8_rung_X7_ring rfl rfl rfl hd_X7_ring ⟨Nat.le_of_ble_eq_true rfl, Nat.le_of_ble_eq_true rfl⟩) rfl rfl rfl hl dX8_rung_15 ⟨Nat.zero_le _, Nat.zero_le _⟩) (fun σ H locs hwp hw => ?_)
    have hwp := hwp _ rfl
    refine r_aload_n C dX8_rung_18 hl rfl ?_
    refine r_const C dX8_rung_19 ?_
    refine r_put C hw clX8 0 rfl 9 9 rfl rfl (Nat.le_of_ble_eq_true rfl) hi_X8_rung_X8 hf_X8_rung_58 rfl (oi_z (Or.inl rfl)) dX8_rung_20 (fun H locs hw => ?_)
    have hwp := hwp _ rfl
    exact b_X8_rung_23 C hA hR hwp hw (lh_mask hl [true])
set_option maxRecDepth 100000 in
theorem c_X8_rung {l : Launch} {D : va_G} {cA : FieldType → ClassId} {h : Nat → Nat} {σ : St} {sz : Nat} {post : St → Prop} (hwp : wp_X8_rung σ post) : Met l yX8_rung wsX8_rung rm_X8_rung (va_Pc [.ref (h 0)] (preS D cA K_BT h σ sz)) (QR D cA K_BT h sz 49 post) 0 0 (aA K_BT.length h sz) := by
  refine mk_met (cc := cX8_rung) (nL := 1) (ret := (some (.object "BellTouches$Touch"))) (own := RX8) 0 (by decide) rfl rfl rfl rfl ?_
  intro p e s m args below meth c ls hsz C hw hl hA
  subst hsz
  exact b_X8_rung_0 C hA (rt_r C 49 _) hwp hw hl
-- X8_told
theorem hi_X8_told_X4 : ∀ w ∈ u_ws RX4 TX4 11, w ∈ wsX8_told := by decide +kernel
theorem hi_X8_told_X7 : ∀ w ∈ u_ws RX7 TX7 8, w ∈ wsX8_told := by decide +kernel
theorem hi_X8_told_X8 : ∀ w ∈ u_ws RX8 TX8 10, w ∈ wsX8_told := by decide +kernel
theorem hf_X8_told_62 : Cond.fieldLink RX8 62 (TX4 0).1 (TX4 0).2.1 (TX4 0).2.2.1 ∈ wsX8_told := by decide +kernel
theorem hf_X8_told_80 : Cond.fieldLink RX8 80 (TX4 2).1 (TX4 2).2.1 (TX4 2).2.2.1 ∈ wsX8_told := by decide +kernel
theorem hf_X8_told_101 : Cond.fieldLink RX8 101 (TX4 6).1 (TX4 6).2.1 (TX4 6).2.2.1 ∈ wsX8_told := by decide +kernel
theorem hf_X8_told_134 : Cond.fieldLink RX8 134 (TX7 1).1 (TX7 1).2.1 (TX7 1).2.2.1 ∈ wsX8_told := by decide +kernel
theorem hf_X8_told_14 : Cond.fieldLink RX8 14 (TX8 0).1 (TX8 0).2.1 (TX8 0).2.2.1 ∈ wsX8_told := by decide +kernel
def rm_X8_told : Room := { frames := 5, cells := 0, slots := 0, locals := 110 }
set_option maxRecDepth 100000 in
theorem b_X8_told_0 {post : Int → St → Prop} (C : cx p s m args meth c wsX8_told RX8 cX8_told 2 (some .int) D cA) (hA : ∀ q, s.heap.size ≤ q → A q) (hR : RtI p l e rm_X8_told s m args below meth c Q cX8_told D cA K_BT h A (fun _ => True) post) : ∀ {v1 : Int} {σ : St} {H : Heap} {locs : List Loc} {ls : Array Slot}, wp_X8_told σ v1 post → wd D cA K_BT h σ A s.heap H locs → lh ls 2 [some (.ref (h 0)), some (iv v1)] → W p l e rm_X8_told s m args below meth c H locs 0 0 Q (F0 m 0 ls []) := by
  intro v1 σ H locs ls hwp hw hl
  refine r_iload_n C dX8_told_0 hl rfl ?_
  obtain ⟨ra, hS0, hS1, hS2, hS3, hS4, hS5, hS6, hS7, hD⟩ := hwp
  rcases sw_0_7 ra with hc | hc | hc | hc | hc | hc | hc | hc | hc
  · have hwp := hS0 hc
    refine r_tin C (tgt := 48) dX8_told_1 ra 0 hc (by decide) (by decide) rfl rfl ?_
    refine r_aload_n C dX8_told_48 hl rfl ?_
    refine r_getr C hw clX8 0 rfl 0 1 rfl (Nat.le_of_ble_eq_true rfl) hi_X8_told_X8 hf_X8_told_14 dX8_told_49 ?_
    refine r_get C hw clX4 1 rfl 0 0 rfl rfl (Nat.le_of_ble_eq_true rfl) hi_X8_told_X4 hf_X8_told_62 dX8_told_52 ?_
    exact hR _ _ _ _ _ _ dX8_told_55 trivial hwp hw
  · have hwp := hS1 hc
    refine r_tin C (tgt := 56) dX8_told_1 ra 1 hc (by decide) (by decide) rfl rfl ?_
    refine r_aload_n C dX8_told_56 hl rfl ?_
    refine r_getr C hw clX8 0 rfl 0 1 rfl (Nat.le_of_ble_eq_true rfl) hi_X8_told_X8 hf_X8_told_14 dX8_told_57 ?_
    refine r_get C hw clX4 1 rfl 2 2 rfl rfl (Nat.le_of_ble_eq_true rfl) hi_X8_told_X4 hf_X8_told_80 dX8_told_60 ?_
    exact hR _ _ _ _ _ _ dX8_told_63 trivial hwp hw
  · have hwp := hS2 hc
    refine r_tin C (tgt := 64) dX8_told_1 ra 2 hc (by decide) (by decide) rfl rfl ?_
    refine r_aload_n C dX8_told_64 hl rfl ?_
    refine r_getr C hw clX8 0 rfl 0 1 rfl (Nat.le_of_ble_eq_true rfl) hi_X8_told_X8 hf_X8_told_14 dX8_told_65 ?_
    refine r_get C hw clX4 1 rfl 6 6 rfl rfl (Nat.le_of_ble_eq_true rfl) hi_X8_told_X4 hf_X8_told_101 dX8_told_68 ?_
    exact hR _ _ _ _ _ _ dX8_told_71 trivial hwp hw
  · have hwp := hS3 hc
    refine r_tin C (tgt := 72) dX8_told_1 ra 3 hc (by decide) (by decide) rfl rfl ?_
    refine r_aload_n C dX8_told_72 hl rfl ?_
    refine r_cR0 hA hw (run_v0 C hw clX8 rfl (c_X8_rung hwp) (cwV 0 C.2.2.2.2.1 gX8_told_X8_rung rfl rfl rfl hd_X8_rung ⟨Nat.le_of_ble_eq_true rfl, Nat.le_of_ble_eq_true rfl⟩) rfl rfl rfl hl dX8_told_73 ⟨Nat.zero_le _, Nat.zero_le _⟩) (fun σ H locs hwp hw => ?_)
    refine r_get C hw clX7 49 rfl 1 1 rfl rfl (Nat.le_of_ble_eq_true rfl) hi_X8_told_X7 hf_X8_told_134 dX8_told_76 ?_
    exact hR _ _ _ _ _ _ dX8_told_79 trivial hwp hw
  · have hwp := hS4 hc
    refine r_tin C (tgt := 80) dX8_told_1 ra 4 hc (by decide) (by decide) rfl rfl ?_
    refine r_aload_n C dX8_told_80 hl rfl ?_
    refine r_cR0 hA hw (run_v0 C hw clX8 rfl (c_X8_rung hwp) (cwV 0 C.2.2.2.2.1 gX8_told_X8_rung rfl rfl rfl hd_X8_rung ⟨Nat.le_of_ble_eq_true rfl, Nat.le_of_ble_eq_true rfl⟩) rfl rfl rfl hl dX8_told_81 ⟨Nat.zero_le _, Nat.zero_le _⟩) (fun σ H locs hwp hw => ?_)
    refine r_cI hA hw sb_BT_Touch_49_25 (run_v C hw sb_BT_Touch_49_25 clX7 rfl (c_X7_roundRow hwp) (cwV 0 C.2.2.2.2.1 gX8_told_X7_roundRow rfl rfl rfl hd_X7_roundRow ⟨Nat.le_of_ble_eq_true rfl, Nat.le_of_ble_eq_true rfl⟩) rfl rfl rfl hl dX8_told_84 ⟨Nat.zero_le _, Nat.zero_le _⟩) (fun r σ H locs hwp hw => ?_)
    have hwp := hwp _ rfl
    exact hR _ _ _ _ _ _ dX8_told_87 trivial hwp hw
  · have hwp := hS5 hc
    refine r_tin C (tgt := 88) dX8_told_1 ra 5 hc (by decide) (by decide) rfl rfl ?_
    refine r_aload_n C dX8_told_88 hl rfl ?_
    refine r_cR0 hA hw (run_v0 C hw clX8 rfl (c_X8_rung hwp) (cwV 0 C.2.2.2.2.1 gX8_told_X8_rung rfl rfl rfl hd_X8_rung ⟨Nat.le_of_ble_eq_true rfl, Nat.le_of_ble_eq_true rfl⟩) rfl rfl rfl hl dX8_told_89 ⟨Nat.zero_le _, Nat.zero_le _⟩) (fun σ H locs hwp hw => ?_)
    refine r_cI hA hw sb_BT_Touch_49_25 (run_v C hw sb_BT_Touch_49_25 clX7 rfl (c_X7_falseRow hwp) (cwV 0 C.2.2.2.2.1 gX8_told_X7_falseRow rfl rfl rfl hd_X7_falseRow ⟨Nat.le_of_ble_eq_true rfl, Nat.le_of_ble_eq_true rfl⟩) rfl rfl rfl hl dX8_told_92 ⟨Nat.zero_le _, Nat.zero_le _⟩) (fun r σ H locs hwp hw => ?_)
    have hwp := hwp _ rfl
    exact hR _ _ _ _ _ _ dX8_told_95 trivial hwp hw
  · have hwp := hS6 hc
    refine r_tin C (tgt := 96) dX8_told_1 ra 6 hc (by decide) (by decide) rfl rfl ?_
    refine r_aload_n C dX8_told_96 hl rfl ?_
    refine r_cR0 hA hw (run_v0 C hw clX8 rfl (c_X8_rung hwp) (cwV 0 C.2.2.2.2.1 gX8_told_X8_rung rfl rfl rfl hd_X8_rung ⟨Nat.le_of_ble_eq_true rfl, Nat.le_of_ble_eq_true rfl⟩) rfl rfl rfl hl dX8_told_97 ⟨Nat.zero_le _, Nat.zero_le _⟩) (fun σ H locs hwp hw => ?_)
    refine r_cI hA hw sb_BT_Touch_49_25 (run_v C hw sb_BT_Touch_49_25 clX7 rfl (c_X7_isTrue hwp) (cwV 0 C.2.2.2.2.1 gX8_told_X7_isTrue rfl rfl rfl hd_X7_isTrue ⟨Nat.le_of_ble_eq_true rfl, Nat.le_of_ble_eq_true rfl⟩) rfl rfl rfl hl dX8_told_100 ⟨Nat.zero_le _, Nat.zero_le _⟩) (fun r σ H locs hwp hw => ?_)
    have hwp := hwp _ rfl
    obtain ⟨ra, hT, hF⟩ := hwp
    refine r_if_eq C (tgt := 110) dX8_told_103 rfl ra (fun hc => ?_) (fun hc => ?_)
    · have hwp := hT hc
      refine r_const C dX8_told_110 ?_
      exact hR _ _ _ _ _ _ dX8_told_111 trivial hwp hw
    · have hwp := hF hc
      refine r_const C dX8_told_106 ?_
      refine r_goto C (tgt := 111) dX8_told_107 rfl ?_
      exact hR _ _ _ _ _ _ dX8_told_111 trivial hwp hw
  · have hwp := hS7 hc
    refine r_tin C (tgt := 112) dX8_told_1 ra 7 hc (by decide) (by decide) rfl rfl ?_
    refine r_aload_n C dX8_told_112 hl rfl ?_
    refine r_cR0 hA hw (run_v0 C hw clX8 rfl (c_X8_rung hwp) (cwV 0 C.2.2.2.2.1 gX8_told_X8_rung rfl rfl rfl hd_X8_rung ⟨Nat.le_of_ble_eq_true rfl, Nat.le_of_ble_eq_true rfl⟩) rfl rfl rfl hl dX8_told_113 ⟨Nat.zero_le _, Nat.zero_le _⟩) (fun σ H locs hwp hw => ?_)
    refine r_cIr hA hw sb_BT_Touch_49_25 (run_v C hw sb_BT_Touch_49_25 clX7 rfl (c_X7_course hwp) (cwV 0 C.2.2.2.2.1 gX8_told_X7_course rfl rfl rfl hd_X7_course ⟨Nat.le_of_ble_eq_true rfl, Nat.le_of_ble_eq_true rfl⟩) rfl rfl rfl hl dX8_told_116 ⟨Nat.zero_le _, Nat.zero_le _⟩) (fun r H locs hwp hw => ?_)
    exact hR _ _ _ _ _ _ dX8_told_119 trivial hwp hw
  · have hwp := hD hc
    refine r_tout C (tgt := 120) dX8_told_1 ra hc rfl ?_
    refine r_const C dX8_told_120 ?_
    exact hR _ _ _ _ _ _ dX8_told_121 trivial hwp hw
set_option maxRecDepth 100000 in
theorem c_X8_told {l : Launch} {D : va_G} {cA : FieldType → ClassId} {h : Nat → Nat} {σ : St} {sz : Nat} {v1 : Int} {post : Int → St → Prop} (hwp : wp_X8_told σ v1 post) : Met l yX8_told wsX8_told rm_X8_told (va_Pc [.ref (h 0), iv v1] (preS D cA K_BT h σ sz)) (QI D cA K_BT h sz post) 0 0 (aA K_BT.length h sz) := by
  refine mk_met (cc := cX8_told) (nL := 2) (ret := (some .int)) (own := RX8) 0 (by decide) rfl rfl rfl rfl ?_
  intro p e s m args below meth c ls hsz C hw hl hA
  subst hsz
  exact b_X8_told_0 C hA (rt_i C _) hwp hw hl
-- X8_isRow
theorem hi_X8_isRow_X7 : ∀ w ∈ u_ws RX7 TX7 8, w ∈ wsX8_isRow := by decide +kernel
theorem hf_X8_isRow_134 : Cond.fieldLink RX8 134 (TX7 1).1 (TX7 1).2.1 (TX7 1).2.2.1 ∈ wsX8_isRow := by decide +kernel
def rm_X8_isRow : Room := { frames := 5, cells := 0, slots := 0, locals := 110 }
set_option maxRecDepth 100000 in
theorem b_X8_isRow_0 {post : Int → St → Prop} (C : cx p s m args meth c wsX8_isRow RX8 cX8_isRow 2 (some .boolean) D cA) (hA : ∀ q, s.heap.size ≤ q → A q) (hR : RtI p l e rm_X8_isRow s m args below meth c Q cX8_isRow D cA K_BT h A (fun x => x = 0 ∨ x = 1) post) : ∀ {v1 : Int} {σ : St} {H : Heap} {locs : List Loc} {ls : Array Slot}, wp_X8_isRow σ v1 post → wd D cA K_BT h σ A s.heap H locs → lh ls 2 [some (.ref (h 0)), some (iv v1)] → W p l e rm_X8_isRow s m args below meth c H locs 0 0 Q (F0 m 0 ls []) := by
  intro v1 σ H locs ls hwp hw hl
  refine r_iload_n C dX8_isRow_0 hl rfl ?_
  obtain ⟨ra, hT, hF⟩ := hwp
  refine r_if_lt C (tgt := 19) dX8_isRow_1 rfl ra (fun hc => ?_) (fun hc => ?_)
  · have hwp := hT hc
    refine r_const C dX8_isRow_19 ?_
    exact hR _ _ _ _ _ _ dX8_isRow_20 (Or.inl rfl) hwp hw
  · have hwp := hF hc
    refine r_iload_n C dX8_isRow_4 hl rfl ?_
    refine r_aload_n C dX8_isRow_5 hl rfl ?_
    refine r_cR0 hA hw (run_v0 C hw clX8 rfl (c_X8_rung hwp) (cwV 0 C.2.2.2.2.1 gX8_isRow_X8_rung rfl rfl rfl hd_X8_rung ⟨Nat.le_of_ble_eq_true rfl, Nat.le_of_ble_eq_true rfl⟩) rfl rfl rfl hl dX8_isRow_6 ⟨Nat.zero_le _, Nat.zero_le _⟩) (fun σ H locs hwp hw => ?_)
    refine r_get C hw clX7 49 rfl 1 1 rfl rfl (Nat.le_of_ble_eq_true rfl) hi_X8_isRow_X7 hf_X8_isRow_134 dX8_isRow_9 ?_
    obtain ⟨ra, rb, hT, hF⟩ := hwp
    refine r_icmp_gt C (tgt := 19) dX8_isRow_12 rfl ra rb (fun hc => ?_) (fun hc => ?_)
    · have hwp := hT hc
      refine r_const C dX8_isRow_19 ?_
      exact hR _ _ _ _ _ _ dX8_isRow_20 (Or.inl rfl) hwp hw
    · have hwp := hF hc
      refine r_const C dX8_isRow_15 ?_
      refine r_goto C (tgt := 20) dX8_isRow_16 rfl ?_
      exact hR _ _ _ _ _ _ dX8_isRow_20 (Or.inr rfl) hwp hw
set_option maxRecDepth 100000 in
theorem c_X8_isRow {l : Launch} {D : va_G} {cA : FieldType → ClassId} {h : Nat → Nat} {σ : St} {sz : Nat} {v1 : Int} {post : Int → St → Prop} (hwp : wp_X8_isRow σ v1 post) : Met l yX8_isRow wsX8_isRow rm_X8_isRow (va_Pc [.ref (h 0), iv v1] (preS D cA K_BT h σ sz)) (QI D cA K_BT h sz post) 0 0 (aA K_BT.length h sz) := by
  refine mk_met (cc := cX8_isRow) (nL := 2) (ret := (some .boolean)) (own := RX8) 0 (by decide) rfl rfl rfl rfl ?_
  intro p e s m args below meth c ls hsz C hw hl hA
  subst hsz
  exact b_X8_isRow_0 C hA (rt_z C _) hwp hw hl
-- X8_isBell
theorem hi_X8_isBell_X4 : ∀ w ∈ u_ws RX4 TX4 11, w ∈ wsX8_isBell := by decide +kernel
theorem hi_X8_isBell_X8 : ∀ w ∈ u_ws RX8 TX8 10, w ∈ wsX8_isBell := by decide +kernel
theorem hf_X8_isBell_62 : Cond.fieldLink RX8 62 (TX4 0).1 (TX4 0).2.1 (TX4 0).2.2.1 ∈ wsX8_isBell := by decide +kernel
theorem hf_X8_isBell_14 : Cond.fieldLink RX8 14 (TX8 0).1 (TX8 0).2.1 (TX8 0).2.2.1 ∈ wsX8_isBell := by decide +kernel
def rm_X8_isBell : Room := { frames := 0, cells := 0, slots := 0, locals := 0 }
set_option maxRecDepth 100000 in
theorem b_X8_isBell_0 {σ : St} {post : Int → Prop} (C : cx p s m args meth c wsX8_isBell RX8 cX8_isBell 2 (some .boolean) D cA) (hA : ∀ q, s.heap.size ≤ q → A q) (hR : RtI p l e rm_X8_isBell s m args below meth c Q cX8_isBell D cA K_BT h A (fun x => x = 0 ∨ x = 1) (fun r σ' => σ' = σ ∧ post r)) : ∀ {v1 : Int} {H : Heap} {locs : List Loc} {ls : Array Slot}, wp_X8_isBell σ v1 post → wd D cA K_BT h σ A s.heap H locs → lh ls 2 [some (.ref (h 0)), some (iv v1)] → W p l e rm_X8_isBell s m args below meth c H locs 0 0 Q (F0 m 0 ls []) := by
  intro v1 H locs ls hwp hw hl
  refine r_iload_n C dX8_isBell_0 hl rfl ?_
  refine r_const C dX8_isBell_1 ?_
  obtain ⟨ra, hT, hF⟩ := hwp
  refine r_icmp_lt C (tgt := 20) dX8_isBell_2 rfl ra (by decide) (fun hc => ?_) (fun hc => ?_)
  · have hwp := hT hc
    refine r_const C dX8_isBell_20 ?_
    exact hR _ _ _ _ _ _ dX8_isBell_21 (Or.inl rfl) ⟨rfl, hwp⟩ hw
  · have hwp := hF hc
    refine r_iload_n C dX8_isBell_5 hl rfl ?_
    refine r_aload_n C dX8_isBell_6 hl rfl ?_
    refine r_getr C hw clX8 0 rfl 0 1 rfl (Nat.le_of_ble_eq_true rfl) hi_X8_isBell_X8 hf_X8_isBell_14 dX8_isBell_7 ?_
    refine r_get C hw clX4 1 rfl 0 0 rfl rfl (Nat.le_of_ble_eq_true rfl) hi_X8_isBell_X4 hf_X8_isBell_62 dX8_isBell_10 ?_
    obtain ⟨ra, rb, hT, hF⟩ := hwp
    refine r_icmp_gt C (tgt := 20) dX8_isBell_13 rfl ra rb (fun hc => ?_) (fun hc => ?_)
    · have hwp := hT hc
      refine r_const C dX8_isBell_20 ?_
      exact hR _ _ _ _ _ _ dX8_isBell_21 (Or.inl rfl) ⟨rfl, hwp⟩ hw
    · have hwp := hF hc
      refine r_const C dX8_isBell_16 ?_
      refine r_goto C (tgt := 21) dX8_isBell_17 rfl ?_
      exact hR _ _ _ _ _ _ dX8_isBell_21 (Or.inr rfl) ⟨rfl, hwp⟩ hw
set_option maxRecDepth 100000 in
theorem c_X8_isBell {l : Launch} {D : va_G} {cA : FieldType → ClassId} {h : Nat → Nat} {σ : St} {sz : Nat} {v1 : Int} {post : Int → Prop} (hwp : wp_X8_isBell σ v1 post) : Met l yX8_isBell wsX8_isBell rm_X8_isBell (va_Pc [.ref (h 0), iv v1] (preS D cA K_BT h σ sz)) (QI D cA K_BT h sz (fun r σ' => σ' = σ ∧ post r)) 0 0 (aA K_BT.length h sz) := by
  refine mk_met (cc := cX8_isBell) (nL := 2) (ret := (some .boolean)) (own := RX8) 0 (by decide) rfl rfl rfl rfl ?_
  intro p e s m args below meth c ls hsz C hw hl hA
  subst hsz
  exact b_X8_isBell_0 C hA (rt_z C _) hwp hw hl
-- X8_at
theorem hi_X8_at_X7 : ∀ w ∈ u_ws RX7 TX7 8, w ∈ wsX8_at := by decide +kernel
theorem hf_X8_at_156 : Cond.fieldLink RX8 156 (TX7 0).1 (TX7 0).2.1 (TX7 0).2.2.1 ∈ wsX8_at := by decide +kernel
def rm_X8_at : Room := { frames := 6, cells := 0, slots := 0, locals := 131 }
set_option maxRecDepth 100000 in
theorem b_X8_at_0 {post : Int → St → Prop} (C : cx p s m args meth c wsX8_at RX8 cX8_at 3 (some .int) D cA) (hA : ∀ q, s.heap.size ≤ q → A q) (hR : RtI p l e rm_X8_at s m args below meth c Q cX8_at D cA K_BT h A (fun _ => True) post) : ∀ {v1 v2 : Int} {σ : St} {H : Heap} {locs : List Loc} {ls : Array Slot}, wp_X8_at σ v1 v2 post → wd D cA K_BT h σ A s.heap H locs → lh ls 3 [some (.ref (h 0)), some (iv v1), some (iv v2)] → W p l e rm_X8_at s m args below meth c H locs 0 0 Q (F0 m 0 ls []) := by
  intro v1 v2 σ H locs ls hwp hw hl
  refine r_aload_n C dX8_at_0 hl rfl ?_
  refine r_iload_n C dX8_at_1 hl rfl ?_
  refine r_cI0 hA hw (run_v0 C hw clX8 rfl (c_X8_isRow hwp) (cwV 1 C.2.2.2.2.1 gX8_at_X8_isRow rfl rfl rfl hd_X8_isRow ⟨Nat.le_of_ble_eq_true rfl, Nat.le_of_ble_eq_true rfl⟩) rfl rfl rfl hl dX8_at_2 ⟨Nat.zero_le _, Nat.zero_le _⟩) (fun r σ H locs hwp hw => ?_)
  obtain ⟨ra, hT, hF⟩ := hwp
  refine r_if_eq C (tgt := 16) dX8_at_5 rfl ra (fun hc => ?_) (fun hc => ?_)
  · have hwp := hT hc
    refine r_const C dX8_at_16 ?_
    exact hR _ _ _ _ _ _ dX8_at_17 trivial hwp hw
  · have hwp := hF hc
    refine r_aload_n C dX8_at_8 hl rfl ?_
    refine r_iload_n C dX8_at_9 hl rfl ?_
    refine r_cIr0 hA hw (run_v0 C hw clX8 rfl (c_X8_isBell hwp) (cwV 1 C.2.2.2.2.1 gX8_at_X8_isBell rfl rfl rfl hd_X8_isBell ⟨Nat.le_of_ble_eq_true rfl, Nat.le_of_ble_eq_true rfl⟩) rfl rfl rfl hl dX8_at_10 ⟨Nat.zero_le _, Nat.zero_le _⟩) (fun r H locs hwp hw => ?_)
    obtain ⟨ra, hT, hF⟩ := hwp
    refine r_if_ne C (tgt := 18) dX8_at_13 rfl ra (fun hc => ?_) (fun hc => ?_)
    · have hwp := hT hc
      refine r_aload_n C dX8_at_18 hl rfl ?_
      refine r_cR0 hA hw (run_v0 C hw clX8 rfl (c_X8_rung hwp) (cwV 0 C.2.2.2.2.1 gX8_at_X8_rung rfl rfl rfl hd_X8_rung ⟨Nat.le_of_ble_eq_true rfl, Nat.le_of_ble_eq_true rfl⟩) rfl rfl rfl hl dX8_at_19 ⟨Nat.zero_le _, Nat.zero_le _⟩) (fun σ H locs hwp hw => ?_)
      refine r_getr C hw clX7 49 rfl 0 50 rfl (Nat.le_of_ble_eq_true rfl) hi_X8_at_X7 hf_X8_at_156 dX8_at_22 ?_
      refine r_iload_n C dX8_at_25 hl rfl ?_
      obtain ⟨h0, h1, hwp⟩ := hwp
      refine r_iald C hw 50 rfl rfl h0 h1 dX8_at_26 ?_
      refine r_iload_n C dX8_at_27 hl rfl ?_
      refine r_cIr hA hw sb_BT_0_0_21 (run_s C hw sb_BT_0_0_21 (c_X2_bellIn hwp) (va_cwS 2 C.2.2.2.2.1 gX8_at_X2_bellIn rfl rfl rfl hd_X2_bellIn ⟨Nat.le_of_ble_eq_true rfl, Nat.le_of_ble_eq_true rfl⟩) rfl rfl rfl hl dX8_at_28 ⟨Nat.zero_le _, Nat.zero_le _⟩) (fun r H locs hwp hw => ?_)
      exact hR _ _ _ _ _ _ dX8_at_31 trivial hwp hw
    · have hwp := hF hc
      refine r_const C dX8_at_16 ?_
      exact hR _ _ _ _ _ _ dX8_at_17 trivial hwp hw
set_option maxRecDepth 100000 in
theorem c_X8_at {l : Launch} {D : va_G} {cA : FieldType → ClassId} {h : Nat → Nat} {σ : St} {sz : Nat} {v1 v2 : Int} {post : Int → St → Prop} (hwp : wp_X8_at σ v1 v2 post) : Met l yX8_at wsX8_at rm_X8_at (va_Pc [.ref (h 0), iv v1, iv v2] (preS D cA K_BT h σ sz)) (QI D cA K_BT h sz post) 0 0 (aA K_BT.length h sz) := by
  refine mk_met (cc := cX8_at) (nL := 3) (ret := (some .int)) (own := RX8) 0 (by decide) rfl rfl rfl rfl ?_
  intro p e s m args below meth c ls hsz C hw hl hA
  subst hsz
  exact b_X8_at_0 C hA (rt_i C _) hwp hw hl
-- X8_where
theorem hi_X8_where_X7 : ∀ w ∈ u_ws RX7 TX7 8, w ∈ wsX8_where := by decide +kernel
theorem hf_X8_where_156 : Cond.fieldLink RX8 156 (TX7 0).1 (TX7 0).2.1 (TX7 0).2.2.1 ∈ wsX8_where := by decide +kernel
def rm_X8_where : Room := { frames := 6, cells := 0, slots := 0, locals := 131 }
set_option maxRecDepth 100000 in
theorem b_X8_where_0 {post : Int → St → Prop} (C : cx p s m args meth c wsX8_where RX8 cX8_where 3 (some .int) D cA) (hA : ∀ q, s.heap.size ≤ q → A q) (hR : RtI p l e rm_X8_where s m args below meth c Q cX8_where D cA K_BT h A (fun _ => True) post) : ∀ {v1 v2 : Int} {σ : St} {H : Heap} {locs : List Loc} {ls : Array Slot}, wp_X8_where σ v1 v2 post → wd D cA K_BT h σ A s.heap H locs → lh ls 3 [some (.ref (h 0)), some (iv v1), some (iv v2)] → W p l e rm_X8_where s m args below meth c H locs 0 0 Q (F0 m 0 ls []) := by
  intro v1 v2 σ H locs ls hwp hw hl
  refine r_aload_n C dX8_where_0 hl rfl ?_
  refine r_iload_n C dX8_where_1 hl rfl ?_
  refine r_cI0 hA hw (run_v0 C hw clX8 rfl (c_X8_isRow hwp) (cwV 1 C.2.2.2.2.1 gX8_where_X8_isRow rfl rfl rfl hd_X8_isRow ⟨Nat.le_of_ble_eq_true rfl, Nat.le_of_ble_eq_true rfl⟩) rfl rfl rfl hl dX8_where_2 ⟨Nat.zero_le _, Nat.zero_le _⟩) (fun r σ H locs hwp hw => ?_)
  obtain ⟨ra, hT, hF⟩ := hwp
  refine r_if_eq C (tgt := 16) dX8_where_5 rfl ra (fun hc => ?_) (fun hc => ?_)
  · have hwp := hT hc
    refine r_const C dX8_where_16 ?_
    exact hR _ _ _ _ _ _ dX8_where_17 trivial hwp hw
  · have hwp := hF hc
    refine r_aload_n C dX8_where_8 hl rfl ?_
    refine r_iload_n C dX8_where_9 hl rfl ?_
    refine r_cIr0 hA hw (run_v0 C hw clX8 rfl (c_X8_isBell hwp) (cwV 1 C.2.2.2.2.1 gX8_where_X8_isBell rfl rfl rfl hd_X8_isBell ⟨Nat.le_of_ble_eq_true rfl, Nat.le_of_ble_eq_true rfl⟩) rfl rfl rfl hl dX8_where_10 ⟨Nat.zero_le _, Nat.zero_le _⟩) (fun r H locs hwp hw => ?_)
    obtain ⟨ra, hT, hF⟩ := hwp
    refine r_if_ne C (tgt := 18) dX8_where_13 rfl ra (fun hc => ?_) (fun hc => ?_)
    · have hwp := hT hc
      refine r_aload_n C dX8_where_18 hl rfl ?_
      refine r_cR0 hA hw (run_v0 C hw clX8 rfl (c_X8_rung hwp) (cwV 0 C.2.2.2.2.1 gX8_where_X8_rung rfl rfl rfl hd_X8_rung ⟨Nat.le_of_ble_eq_true rfl, Nat.le_of_ble_eq_true rfl⟩) rfl rfl rfl hl dX8_where_19 ⟨Nat.zero_le _, Nat.zero_le _⟩) (fun σ H locs hwp hw => ?_)
      refine r_getr C hw clX7 49 rfl 0 50 rfl (Nat.le_of_ble_eq_true rfl) hi_X8_where_X7 hf_X8_where_156 dX8_where_22 ?_
      refine r_iload_n C dX8_where_25 hl rfl ?_
      obtain ⟨h0, h1, hwp⟩ := hwp
      refine r_iald C hw 50 rfl rfl h0 h1 dX8_where_26 ?_
      refine r_iload_n C dX8_where_27 hl rfl ?_
      refine r_cIr hA hw sb_BT_0_0_21 (run_s C hw sb_BT_0_0_21 (c_X2_placeOf hwp) (va_cwS 2 C.2.2.2.2.1 gX8_where_X2_placeOf rfl rfl rfl hd_X2_placeOf ⟨Nat.le_of_ble_eq_true rfl, Nat.le_of_ble_eq_true rfl⟩) rfl rfl rfl hl dX8_where_28 ⟨Nat.zero_le _, Nat.zero_le _⟩) (fun r H locs hwp hw => ?_)
      exact hR _ _ _ _ _ _ dX8_where_31 trivial hwp hw
    · have hwp := hF hc
      refine r_const C dX8_where_16 ?_
      exact hR _ _ _ _ _ _ dX8_where_17 trivial hwp hw
set_option maxRecDepth 100000 in
theorem c_X8_where {l : Launch} {D : va_G} {cA : FieldType → ClassId} {h : Nat → Nat} {σ : St} {sz : Nat} {v1 v2 : Int} {post : Int → St → Prop} (hwp : wp_X8_where σ v1 v2 post) : Met l yX8_where wsX8_where rm_X8_where (va_Pc [.ref (h 0), iv v1, iv v2] (preS D cA K_BT h σ sz)) (QI D cA K_BT h sz post) 0 0 (aA K_BT.length h sz) := by
  refine mk_met (cc := cX8_where) (nL := 3) (ret := (some .int)) (own := RX8) 0 (by decide) rfl rfl rfl rfl ?_
  intro p e s m args below meth c ls hsz C hw hl hA
  subst hsz
  exact b_X8_where_0 C hA (rt_i C _) hwp hw hl
-- X8_same
def rm_X8_same : Room := { frames := 6, cells := 0, slots := 0, locals := 131 }
set_option maxRecDepth 100000 in
theorem b_X8_same_0 {post : Int → St → Prop} (C : cx p s m args meth c wsX8_same RX8 cX8_same 2 (some .int) D cA) (hA : ∀ q, s.heap.size ≤ q → A q) (hR : RtI p l e rm_X8_same s m args below meth c Q cX8_same D cA K_BT h A (fun _ => True) post) : ∀ {v1 : Int} {σ : St} {H : Heap} {locs : List Loc} {ls : Array Slot}, wp_X8_same σ v1 post → wd D cA K_BT h σ A s.heap H locs → lh ls 2 [some (.ref (h 0)), some (iv v1)] → W p l e rm_X8_same s m args below meth c H locs 0 0 Q (F0 m 0 ls []) := by
  intro v1 σ H locs ls hwp hw hl
  refine r_aload_n C dX8_same_0 hl rfl ?_
  refine r_iload_n C dX8_same_1 hl rfl ?_
  refine r_cI0 hA hw (run_v0 C hw clX8 rfl (c_X8_isRow hwp) (cwV 1 C.2.2.2.2.1 gX8_same_X8_isRow rfl rfl rfl hd_X8_isRow ⟨Nat.le_of_ble_eq_true rfl, Nat.le_of_ble_eq_true rfl⟩) rfl rfl rfl hl dX8_same_2 ⟨Nat.zero_le _, Nat.zero_le _⟩) (fun r σ H locs hwp hw => ?_)
  obtain ⟨ra, hT, hF⟩ := hwp
  refine r_if_ne C (tgt := 10) dX8_same_5 rfl ra (fun hc => ?_) (fun hc => ?_)
  · have hwp := hT hc
    refine r_aload_n C dX8_same_10 hl rfl ?_
    refine r_cR0 hA hw (run_v0 C hw clX8 rfl (c_X8_rung hwp) (cwV 0 C.2.2.2.2.1 gX8_same_X8_rung rfl rfl rfl hd_X8_rung ⟨Nat.le_of_ble_eq_true rfl, Nat.le_of_ble_eq_true rfl⟩) rfl rfl rfl hl dX8_same_11 ⟨Nat.zero_le _, Nat.zero_le _⟩) (fun σ H locs hwp hw => ?_)
    refine r_iload_n C dX8_same_14 hl rfl ?_
    refine r_cI hA hw sb_BT_Touch_49_25 (run_v C hw sb_BT_Touch_49_25 clX7 rfl (c_X7_firstAs hwp) (cwV 1 C.2.2.2.2.1 gX8_same_X7_firstAs rfl rfl rfl hd_X7_firstAs ⟨Nat.le_of_ble_eq_true rfl, Nat.le_of_ble_eq_true rfl⟩) rfl rfl rfl hl dX8_same_15 ⟨Nat.zero_le _, Nat.zero_le _⟩) (fun r σ H locs hwp hw => ?_)
    have hwp := hwp _ rfl
    exact hR _ _ _ _ _ _ dX8_same_18 trivial hwp hw
  · have hwp := hF hc
    refine r_const C dX8_same_8 ?_
    exact hR _ _ _ _ _ _ dX8_same_9 trivial hwp hw
set_option maxRecDepth 100000 in
theorem c_X8_same {l : Launch} {D : va_G} {cA : FieldType → ClassId} {h : Nat → Nat} {σ : St} {sz : Nat} {v1 : Int} {post : Int → St → Prop} (hwp : wp_X8_same σ v1 post) : Met l yX8_same wsX8_same rm_X8_same (va_Pc [.ref (h 0), iv v1] (preS D cA K_BT h σ sz)) (QI D cA K_BT h sz post) 0 0 (aA K_BT.length h sz) := by
  refine mk_met (cc := cX8_same) (nL := 2) (ret := (some .int)) (own := RX8) 0 (by decide) rfl rfl rfl rfl ?_
  intro p e s m args below meth c ls hsz C hw hl hA
  subst hsz
  exact b_X8_same_0 C hA (rt_i C _) hwp hw hl
-- X8_good
theorem hi_X8_good_X4 : ∀ w ∈ u_ws RX4 TX4 11, w ∈ wsX8_good := by decide +kernel
theorem hi_X8_good_X8 : ∀ w ∈ u_ws RX8 TX8 10, w ∈ wsX8_good := by decide +kernel
theorem hf_X8_good_62 : Cond.fieldLink RX8 62 (TX4 0).1 (TX4 0).2.1 (TX4 0).2.2.1 ∈ wsX8_good := by decide +kernel
theorem hf_X8_good_14 : Cond.fieldLink RX8 14 (TX8 0).1 (TX8 0).2.1 (TX8 0).2.2.1 ∈ wsX8_good := by decide +kernel
def rm_X8_good : Room := { frames := 3, cells := 0, slots := 0, locals := 65 }
set_option maxRecDepth 100000 in
theorem b_X8_good_0 {σ : St} {post : Int → Prop} (C : cx p s m args meth c wsX8_good RX8 cX8_good 2 (some .int) D cA) (hA : ∀ q, s.heap.size ≤ q → A q) (hR : RtI p l e rm_X8_good s m args below meth c Q cX8_good D cA K_BT h A (fun _ => True) (fun r σ' => σ' = σ ∧ post r)) : ∀ {v1 : Int} {H : Heap} {locs : List Loc} {ls : Array Slot}, wp_X8_good σ v1 post → wd D cA K_BT h σ A s.heap H locs → lh ls 2 [some (.ref (h 0)), some (iv v1)] → W p l e rm_X8_good s m args below meth c H locs 0 0 Q (F0 m 0 ls []) := by
  intro v1 H locs ls hwp hw hl
  refine r_aload_n C dX8_good_0 hl rfl ?_
  refine r_iload_n C dX8_good_1 hl rfl ?_
  refine r_cIr0 hA hw (run_v0 C hw clX8 rfl (c_X8_isPlaces hwp) (cwV 1 C.2.2.2.2.1 gX8_good_X8_isPlaces rfl rfl rfl hd_X8_isPlaces ⟨Nat.le_of_ble_eq_true rfl, Nat.le_of_ble_eq_true rfl⟩) rfl rfl rfl hl dX8_good_2 ⟨Nat.zero_le _, Nat.zero_le _⟩) (fun r H locs hwp hw => ?_)
  obtain ⟨ra, hT, hF⟩ := hwp
  refine r_if_ne C (tgt := 11) dX8_good_5 rfl ra (fun hc => ?_) (fun hc => ?_)
  · have hwp := hT hc
    refine r_aload_n C dX8_good_11 hl rfl ?_
    refine r_getr C hw clX8 0 rfl 0 1 rfl (Nat.le_of_ble_eq_true rfl) hi_X8_good_X8 hf_X8_good_14 dX8_good_12 ?_
    refine r_get C hw clX4 1 rfl 0 0 rfl rfl (Nat.le_of_ble_eq_true rfl) hi_X8_good_X4 hf_X8_good_62 dX8_good_15 ?_
    refine r_iload_n C dX8_good_18 hl rfl ?_
    refine r_cIr hA hw sb_BT_0_0_21 (run_s C hw sb_BT_0_0_21 (c_X2_isGood hwp) (va_cwS 2 C.2.2.2.2.1 gX8_good_X2_isGood rfl rfl rfl hd_X2_isGood ⟨Nat.le_of_ble_eq_true rfl, Nat.le_of_ble_eq_true rfl⟩) rfl rfl rfl hl dX8_good_19 ⟨Nat.zero_le _, Nat.zero_le _⟩) (fun r H locs hwp hw => ?_)
    obtain ⟨ra, hT, hF⟩ := hwp
    refine r_if_eq C (tgt := 29) dX8_good_22 rfl ra (fun hc => ?_) (fun hc => ?_)
    · have hwp := hT hc
      refine r_const C dX8_good_29 ?_
      exact hR _ _ _ _ _ _ dX8_good_30 trivial ⟨rfl, hwp⟩ hw
    · have hwp := hF hc
      refine r_const C dX8_good_25 ?_
      refine r_goto C (tgt := 30) dX8_good_26 rfl ?_
      exact hR _ _ _ _ _ _ dX8_good_30 trivial ⟨rfl, hwp⟩ hw
  · have hwp := hF hc
    refine r_bipush C dX8_good_8 bpb_m2 ?_
    exact hR _ _ _ _ _ _ dX8_good_10 trivial ⟨rfl, hwp⟩ hw
set_option maxRecDepth 100000 in
theorem c_X8_good {l : Launch} {D : va_G} {cA : FieldType → ClassId} {h : Nat → Nat} {σ : St} {sz : Nat} {v1 : Int} {post : Int → Prop} (hwp : wp_X8_good σ v1 post) : Met l yX8_good wsX8_good rm_X8_good (va_Pc [.ref (h 0), iv v1] (preS D cA K_BT h σ sz)) (QI D cA K_BT h sz (fun r σ' => σ' = σ ∧ post r)) 0 0 (aA K_BT.length h sz) := by
  refine mk_met (cc := cX8_good) (nL := 2) (ret := (some .int)) (own := RX8) 0 (by decide) rfl rfl rfl rfl ?_
  intro p e s m args below meth c ls hsz C hw hl hA
  subst hsz
  exact b_X8_good_0 C hA (rt_i C _) hwp hw hl
-- X8_countMusic
theorem hi_X8_countMusic_X7 : ∀ w ∈ u_ws RX7 TX7 8, w ∈ wsX8_countMusic := by decide +kernel
theorem hi_X8_countMusic_X8 : ∀ w ∈ u_ws RX8 TX8 10, w ∈ wsX8_countMusic := by decide +kernel
theorem hf_X8_countMusic_156 : Cond.fieldLink RX8 156 (TX7 0).1 (TX7 0).2.1 (TX7 0).2.2.1 ∈ wsX8_countMusic := by decide +kernel
theorem hf_X8_countMusic_134 : Cond.fieldLink RX8 134 (TX7 1).1 (TX7 1).2.1 (TX7 1).2.2.1 ∈ wsX8_countMusic := by decide +kernel
theorem hf_X8_countMusic_14 : Cond.fieldLink RX8 14 (TX8 0).1 (TX8 0).2.1 (TX8 0).2.2.1 ∈ wsX8_countMusic := by decide +kernel
theorem hf_X8_countMusic_27 : Cond.fieldLink RX8 27 (TX8 3).1 (TX8 3).2.1 (TX8 3).2.2.1 ∈ wsX8_countMusic := by decide +kernel
def rm_X8_countMusic : Room := { frames := 5, cells := 0, slots := 0, locals := 110 }
set_option maxRecDepth 100000 in
theorem b_X8_countMusic_43 {post : Int → St → Prop} (C : cx p s m args meth c wsX8_countMusic RX8 cX8_countMusic 5 (some .int) D cA) (hA : ∀ q, s.heap.size ≤ q → A q) (hR : RtI p l e rm_X8_countMusic s m args below meth c Q cX8_countMusic D cA K_BT h A (fun _ => True) post) {k13 : Int → Int → Int → St → Prop} (hk13 : ∀ {v1 v3 v4 : Int} {σ : St} {H : Heap} {locs : List Loc} {ls : Array Slot}, k13 v1 v3 v4 σ → wd D cA K_BT h σ A s.heap H locs → lh ls 5 [some (.ref (h 0)), some (iv v1), some (.ref (h 50)), some (iv v3), some (iv v4)] → W p l e rm_X8_countMusic s m args below meth c H locs 0 0 Q (F0 m 13 ls [])) : ∀ {v1 v3 v4 : Int} {σ : St} {H : Heap} {locs : List Loc} {ls : Array Slot}, wp_X8_countMusic_43 k13 post v1 v3 v4 σ → wd D cA K_BT h σ A s.heap H locs → lh ls 5 [some (.ref (h 0)), some (iv v1), some (.ref (h 50)), some (iv v3), some (iv v4)] → W p l e rm_X8_countMusic s m args below meth c H locs 0 0 Q (F0 m 43 ls []) := by
  intro v1 v3 v4 σ H locs ls hwp hw hl
  refine r_iinc C dX8_countMusic_43 hl rfl (Nat.le_of_ble_eq_true rfl) rfl (fun ls hl => ?_)
  refine r_goto C (tgt := 13) dX8_countMusic_46 rfl ?_
  exact hk13 hwp hw (lh_mask hl [true, true, true, true, true])
set_option maxRecDepth 100000 in
theorem b_X8_countMusic_13 {post : Int → St → Prop} (C : cx p s m args meth c wsX8_countMusic RX8 cX8_countMusic 5 (some .int) D cA) (hA : ∀ q, s.heap.size ≤ q → A q) (hR : RtI p l e rm_X8_countMusic s m args below meth c Q cX8_countMusic D cA K_BT h A (fun _ => True) post) : ∀ (n : Nat) {v1 v3 v4 : Int} {σ : St} {H : Heap} {locs : List Loc} {ls : Array Slot}, wp_X8_countMusic_13 post n v1 v3 v4 σ → wd D cA K_BT h σ A s.heap H locs → lh ls 5 [some (.ref (h 0)), some (iv v1), some (.ref (h 50)), some (iv v3), some (iv v4)] → W p l e rm_X8_countMusic s m args below meth c H locs 0 0 Q (F0 m 13 ls []) := by
  intro n; induction n with
  | zero => intros; rename_i hwp _ _; exact hwp.elim
  | succ n ih =>
    intro v1 v3 v4 σ H locs ls hwp hw hl
    refine r_iload C dX8_countMusic_13 hl rfl ?_
    refine r_aload_n C dX8_countMusic_15 hl rfl ?_
    refine r_getr C hw clX8 0 rfl 3 49 rfl (Nat.le_of_ble_eq_true rfl) hi_X8_countMusic_X8 hf_X8_countMusic_27 dX8_countMusic_16 ?_
    refine r_get C hw clX7 49 rfl 1 1 rfl rfl (Nat.le_of_ble_eq_true rfl) hi_X8_countMusic_X7 hf_X8_countMusic_134 dX8_countMusic_19 ?_
    obtain ⟨ra, rb, hT, hF⟩ := hwp
    refine r_icmp_gt C (tgt := 49) dX8_countMusic_22 rfl ra rb (fun hc => ?_) (fun hc => ?_)
    · have hwp := hT hc
      refine r_iload_n C dX8_countMusic_49 hl rfl ?_
      exact hR _ _ _ _ _ _ dX8_countMusic_50 trivial hwp hw
    · have hwp := hF hc
      refine r_aload_n C dX8_countMusic_25 hl rfl ?_
      refine r_getr C hw clX8 0 rfl 0 1 rfl (Nat.le_of_ble_eq_true rfl) hi_X8_countMusic_X8 hf_X8_countMusic_14 dX8_countMusic_26 ?_
      refine r_aload_n C dX8_countMusic_29 hl rfl ?_
      refine r_iload C dX8_countMusic_30 hl rfl ?_
      obtain ⟨h0, h1, hwp⟩ := hwp
      refine r_iald C hw 50 rfl rfl h0 h1 dX8_countMusic_32 ?_
      refine r_iload_n C dX8_countMusic_33 hl rfl ?_
      refine r_cIr hA hw sb_BT_Setup_1_20 (run_v C hw sb_BT_Setup_1_20 clX4 rfl (c_X4_isMusic hwp) (cwV 2 C.2.2.2.2.1 gX8_countMusic_X4_isMusic rfl rfl rfl hd_X4_isMusic ⟨Nat.le_of_ble_eq_true rfl, Nat.le_of_ble_eq_true rfl⟩) rfl rfl rfl hl dX8_countMusic_34 ⟨Nat.zero_le _, Nat.zero_le _⟩) (fun r H locs hwp hw => ?_)
      obtain ⟨ra, hT, hF⟩ := hwp
      refine r_if_eq C (tgt := 43) dX8_countMusic_37 rfl ra (fun hc => ?_) (fun hc => ?_)
      · have hwp := hT hc
        exact b_X8_countMusic_43 C hA hR ih hwp hw (lh_mask hl [true, true, true, true, true])
      · have hwp := hF hc
        refine r_iinc C dX8_countMusic_40 hl rfl (Nat.le_of_ble_eq_true rfl) rfl (fun ls hl => ?_)
        exact b_X8_countMusic_43 C hA hR ih hwp hw (lh_mask hl [true, true, true, true, true])
set_option maxRecDepth 100000 in
theorem b_X8_countMusic_0 {post : Int → St → Prop} (C : cx p s m args meth c wsX8_countMusic RX8 cX8_countMusic 5 (some .int) D cA) (hA : ∀ q, s.heap.size ≤ q → A q) (hR : RtI p l e rm_X8_countMusic s m args below meth c Q cX8_countMusic D cA K_BT h A (fun _ => True) post) : ∀ {v1 : Int} {σ : St} {H : Heap} {locs : List Loc} {ls : Array Slot}, wp_X8_countMusic σ v1 post → wd D cA K_BT h σ A s.heap H locs → lh ls 5 [some (.ref (h 0)), some (iv v1), none, none, none] → W p l e rm_X8_countMusic s m args below meth c H locs 0 0 Q (F0 m 0 ls []) := by
  intro v1 σ H locs ls hwp hw hl
  refine r_aload_n C dX8_countMusic_0 hl rfl ?_
  refine r_cR0 hA hw (run_v0 C hw clX8 rfl (c_X8_rung hwp) (cwV 0 C.2.2.2.2.1 gX8_countMusic_X8_rung rfl rfl rfl hd_X8_rung ⟨Nat.le_of_ble_eq_true rfl, Nat.le_of_ble_eq_true rfl⟩) rfl rfl rfl hl dX8_countMusic_1 ⟨Nat.zero_le _, Nat.zero_le _⟩) (fun σ H locs hwp hw => ?_)
  refine r_getr C hw clX7 49 rfl 0 50 rfl (Nat.le_of_ble_eq_true rfl) hi_X8_countMusic_X7 hf_X8_countMusic_156 dX8_countMusic_4 ?_
  refine r_astore_n C dX8_countMusic_7 hl (Nat.le_of_ble_eq_true rfl) (Nat.le_of_ble_eq_true rfl) rfl (fun ls hl => ?_)
  refine r_const C dX8_countMusic_8 ?_
  refine r_istore_n C dX8_countMusic_9 hl (Nat.le_of_ble_eq_true rfl) (Nat.le_of_ble_eq_true rfl) rfl (fun ls hl => ?_)
  refine r_const C dX8_countMusic_10 ?_
  refine r_istore C dX8_countMusic_11 hl (Nat.le_of_ble_eq_true rfl) (Nat.le_of_ble_eq_true rfl) rfl (fun ls hl => ?_)
  obtain ⟨n9, hwp⟩ := hwp
  exact b_X8_countMusic_13 C hA hR n9 hwp hw (lh_mask hl [true, true, true, true, true])
set_option maxRecDepth 100000 in
theorem c_X8_countMusic {l : Launch} {D : va_G} {cA : FieldType → ClassId} {h : Nat → Nat} {σ : St} {sz : Nat} {v1 : Int} {post : Int → St → Prop} (hwp : wp_X8_countMusic σ v1 post) : Met l yX8_countMusic wsX8_countMusic rm_X8_countMusic (va_Pc [.ref (h 0), iv v1] (preS D cA K_BT h σ sz)) (QI D cA K_BT h sz post) 0 0 (aA K_BT.length h sz) := by
  refine mk_met (cc := cX8_countMusic) (nL := 5) (ret := (some .int)) (own := RX8) 3 (by decide) rfl rfl rfl rfl ?_
  intro p e s m args below meth c ls hsz C hw hl hA
  subst hsz
  exact b_X8_countMusic_0 C hA (rt_i C _) hwp hw hl
-- X8_music
def rm_X8_music : Room := { frames := 6, cells := 0, slots := 0, locals := 134 }
set_option maxRecDepth 100000 in
theorem b_X8_music_0 {post : Int → St → Prop} (C : cx p s m args meth c wsX8_music RX8 cX8_music 2 (some .int) D cA) (hA : ∀ q, s.heap.size ≤ q → A q) (hR : RtI p l e rm_X8_music s m args below meth c Q cX8_music D cA K_BT h A (fun _ => True) post) : ∀ {v1 : Int} {σ : St} {H : Heap} {locs : List Loc} {ls : Array Slot}, wp_X8_music σ v1 post → wd D cA K_BT h σ A s.heap H locs → lh ls 2 [some (.ref (h 0)), some (iv v1)] → W p l e rm_X8_music s m args below meth c H locs 0 0 Q (F0 m 0 ls []) := by
  intro v1 σ H locs ls hwp hw hl
  refine r_iload_n C dX8_music_0 hl rfl ?_
  obtain ⟨ra, hT, hF⟩ := hwp
  refine r_if_lt C (tgt := 9) dX8_music_1 rfl ra (fun hc => ?_) (fun hc => ?_)
  · have hwp := hT hc
    refine r_const C dX8_music_9 ?_
    exact hR _ _ _ _ _ _ dX8_music_10 trivial hwp hw
  · have hwp := hF hc
    refine r_iload_n C dX8_music_4 hl rfl ?_
    refine r_const C dX8_music_5 ?_
    obtain ⟨ra, hT, hF⟩ := hwp
    refine r_icmp_lt C (tgt := 11) dX8_music_6 rfl ra (by decide) (fun hc => ?_) (fun hc => ?_)
    · have hwp := hT hc
      refine r_aload_n C dX8_music_11 hl rfl ?_
      refine r_iload_n C dX8_music_12 hl rfl ?_
      refine r_cI0 hA hw (run_v0 C hw clX8 rfl (c_X8_countMusic hwp) (cwV 1 C.2.2.2.2.1 gX8_music_X8_countMusic rfl rfl rfl hd_X8_countMusic ⟨Nat.le_of_ble_eq_true rfl, Nat.le_of_ble_eq_true rfl⟩) rfl rfl rfl hl dX8_music_13 ⟨Nat.zero_le _, Nat.zero_le _⟩) (fun r σ H locs hwp hw => ?_)
      exact hR _ _ _ _ _ _ dX8_music_16 trivial hwp hw
    · have hwp := hF hc
      refine r_const C dX8_music_9 ?_
      exact hR _ _ _ _ _ _ dX8_music_10 trivial hwp hw
set_option maxRecDepth 100000 in
theorem c_X8_music {l : Launch} {D : va_G} {cA : FieldType → ClassId} {h : Nat → Nat} {σ : St} {sz : Nat} {v1 : Int} {post : Int → St → Prop} (hwp : wp_X8_music σ v1 post) : Met l yX8_music wsX8_music rm_X8_music (va_Pc [.ref (h 0), iv v1] (preS D cA K_BT h σ sz)) (QI D cA K_BT h sz post) 0 0 (aA K_BT.length h sz) := by
  refine mk_met (cc := cX8_music) (nL := 2) (ret := (some .int)) (own := RX8) 0 (by decide) rfl rfl rfl rfl ?_
  intro p e s m args below meth c ls hsz C hw hl hA
  subst hsz
  exact b_X8_music_0 C hA (rt_i C _) hwp hw hl
-- X8_least
theorem hi_X8_least_X0 : ∀ w ∈ u_ws RX0 TX0 7, w ∈ wsX8_least := by decide +kernel
theorem hi_X8_least_X8 : ∀ w ∈ u_ws RX8 TX8 10, w ∈ wsX8_least := by decide +kernel
theorem hf_X8_least_176 : Cond.fieldLink RX8 176 (TX0 0).1 (TX0 0).2.1 (TX0 0).2.2.1 ∈ wsX8_least := by decide +kernel
theorem hf_X8_least_179 : Cond.fieldLink RX8 179 (TX0 1).1 (TX0 1).2.1 (TX0 1).2.2.1 ∈ wsX8_least := by decide +kernel
theorem hf_X8_least_14 : Cond.fieldLink RX8 14 (TX8 0).1 (TX8 0).2.1 (TX8 0).2.2.1 ∈ wsX8_least := by decide +kernel
theorem hf_X8_least_37 : Cond.fieldLink RX8 37 (TX8 5).1 (TX8 5).2.1 (TX8 5).2.2.1 ∈ wsX8_least := by decide +kernel
def rm_X8_least : Room := { frames := 13, cells := 0, slots := 0, locals := 333 }
set_option maxRecDepth 100000 in
theorem b_X8_least_24 {post : Int → St → Prop} (C : cx p s m args meth c wsX8_least RX8 cX8_least 3 (some .int) D cA) (hA : ∀ q, s.heap.size ≤ q → A q) (hR : RtI p l e rm_X8_least s m args below meth c Q cX8_least D cA K_BT h A (fun _ => True) post) : ∀ {v1 v2 : Int} {σ : St} {H : Heap} {locs : List Loc} {ls : Array Slot}, wp_X8_least_24 post v1 v2 σ → wd D cA K_BT h σ A s.heap H locs → lh ls 3 [some (.ref (h 0)), some (iv v1), some (iv v2)] → W p l e rm_X8_least s m args below meth c H locs 0 0 Q (F0 m 24 ls []) := by
  intro v1 v2 σ H locs ls hwp hw hl
  refine r_aload_n C dX8_least_24 hl rfl ?_
  refine r_getr C hw clX8 0 rfl 5 63 rfl (Nat.le_of_ble_eq_true rfl) hi_X8_least_X8 hf_X8_least_37 dX8_least_25 ?_
  refine r_aload_n C dX8_least_28 hl rfl ?_
  refine r_getr C hw clX8 0 rfl 0 1 rfl (Nat.le_of_ble_eq_true rfl) hi_X8_least_X8 hf_X8_least_14 dX8_least_29 ?_
  refine r_iload_n C dX8_least_32 hl rfl ?_
  refine r_cV hA hw sb_BT_FewS_63_26 (run_v C hw sb_BT_FewS_63_26 clX0 rfl (c_X0_find hwp) (cwV 2 C.2.2.2.2.1 gX8_least_X0_find rfl rfl rfl hd_X0_find ⟨Nat.le_of_ble_eq_true rfl, Nat.le_of_ble_eq_true rfl⟩) rfl rfl rfl hl dX8_least_33 ⟨Nat.zero_le _, Nat.zero_le _⟩) (fun σ H locs hwp hw => ?_)
  have hwp := hwp _ rfl
  refine r_iload_n C dX8_least_36 hl rfl ?_
  obtain ⟨ra, hT, hF⟩ := hwp
  refine r_if_ne C (tgt := 50) dX8_least_37 rfl ra (fun hc => ?_) (fun hc => ?_)
  · have hwp := hT hc
    refine r_aload_n C dX8_least_50 hl rfl ?_
    refine r_getr C hw clX8 0 rfl 5 63 rfl (Nat.le_of_ble_eq_true rfl) hi_X8_least_X8 hf_X8_least_37 dX8_least_51 ?_
    refine r_get C hw clX0 63 rfl 1 1 rfl rfl (Nat.le_of_ble_eq_true rfl) hi_X8_least_X0 hf_X8_least_179 dX8_least_54 ?_
    exact hR _ _ _ _ _ _ dX8_least_57 trivial hwp hw
  · have hwp := hF hc
    refine r_aload_n C dX8_least_40 hl rfl ?_
    refine r_getr C hw clX8 0 rfl 5 63 rfl (Nat.le_of_ble_eq_true rfl) hi_X8_least_X8 hf_X8_least_37 dX8_least_41 ?_
    refine r_get C hw clX0 63 rfl 0 0 rfl rfl (Nat.le_of_ble_eq_true rfl) hi_X8_least_X0 hf_X8_least_176 dX8_least_44 ?_
    refine r_goto C (tgt := 57) dX8_least_47 rfl ?_
    exact hR _ _ _ _ _ _ dX8_least_57 trivial hwp hw
set_option maxRecDepth 100000 in
theorem b_X8_least_0 {post : Int → St → Prop} (C : cx p s m args meth c wsX8_least RX8 cX8_least 3 (some .int) D cA) (hA : ∀ q, s.heap.size ≤ q → A q) (hR : RtI p l e rm_X8_least s m args below meth c Q cX8_least D cA K_BT h A (fun _ => True) post) : ∀ {v1 v2 : Int} {σ : St} {H : Heap} {locs : List Loc} {ls : Array Slot}, wp_X8_least σ v1 v2 post → wd D cA K_BT h σ A s.heap H locs → lh ls 3 [some (.ref (h 0)), some (iv v1), some (iv v2)] → W p l e rm_X8_least s m args below meth c H locs 0 0 Q (F0 m 0 ls []) := by
  intro v1 v2 σ H locs ls hwp hw hl
  refine r_iload_n C dX8_least_0 hl rfl ?_
  refine r_const C dX8_least_1 ?_
  obtain ⟨ra, hT, hF⟩ := hwp
  refine r_icmp_lt C (tgt := 10) dX8_least_2 rfl ra (by decide) (fun hc => ?_) (fun hc => ?_)
  · have hwp := hT hc
    refine r_bipush C dX8_least_10 bpb_m2 ?_
    exact hR _ _ _ _ _ _ dX8_least_12 trivial hwp hw
  · have hwp := hF hc
    refine r_iload_n C dX8_least_5 hl rfl ?_
    refine r_const C dX8_least_6 ?_
    obtain ⟨ra, hT, hF⟩ := hwp
    refine r_icmp_le C (tgt := 13) dX8_least_7 rfl ra (by decide) (fun hc => ?_) (fun hc => ?_)
    · have hwp := hT hc
      refine r_iload_n C dX8_least_13 hl rfl ?_
      obtain ⟨ra, hT, hF⟩ := hwp
      refine r_if_eq C (tgt := 24) dX8_least_14 rfl ra (fun hc => ?_) (fun hc => ?_)
      · have hwp := hT hc
        exact b_X8_least_24 C hA hR hwp hw (lh_mask hl [true, true, true])
      · have hwp := hF hc
        refine r_iload_n C dX8_least_17 hl rfl ?_
        refine r_const C dX8_least_18 ?_
        obtain ⟨ra, hT, hF⟩ := hwp
        refine r_icmp_eq C (tgt := 24) dX8_least_19 rfl ra (by decide) (fun hc => ?_) (fun hc => ?_)
        · have hwp := hT hc
          exact b_X8_least_24 C hA hR hwp hw (lh_mask hl [true, true, true])
        · have hwp := hF hc
          refine r_const C dX8_least_22 ?_
          exact hR _ _ _ _ _ _ dX8_least_23 trivial hwp hw
    · have hwp := hF hc
      refine r_bipush C dX8_least_10 bpb_m2 ?_
      exact hR _ _ _ _ _ _ dX8_least_12 trivial hwp hw
set_option maxRecDepth 100000 in
theorem c_X8_least {l : Launch} {D : va_G} {cA : FieldType → ClassId} {h : Nat → Nat} {σ : St} {sz : Nat} {v1 v2 : Int} {post : Int → St → Prop} (hwp : wp_X8_least σ v1 v2 post) : Met l yX8_least wsX8_least rm_X8_least (va_Pc [.ref (h 0), iv v1, iv v2] (preS D cA K_BT h σ sz)) (QI D cA K_BT h sz post) 0 0 (aA K_BT.length h sz) := by
  refine mk_met (cc := cX8_least) (nL := 3) (ret := (some .int)) (own := RX8) 0 (by decide) rfl rfl rfl rfl ?_
  intro p e s m args below meth c ls hsz C hw hl hA
  subst hsz
  exact b_X8_least_0 C hA (rt_i C _) hwp hw hl
-- X8_still
theorem hi_X8_still_X7 : ∀ w ∈ u_ws RX7 TX7 8, w ∈ wsX8_still := by decide +kernel
theorem hi_X8_still_X8 : ∀ w ∈ u_ws RX8 TX8 10, w ∈ wsX8_still := by decide +kernel
theorem hf_X8_still_156 : Cond.fieldLink RX8 156 (TX7 0).1 (TX7 0).2.1 (TX7 0).2.2.1 ∈ wsX8_still := by decide +kernel
theorem hf_X8_still_134 : Cond.fieldLink RX8 134 (TX7 1).1 (TX7 1).2.1 (TX7 1).2.2.1 ∈ wsX8_still := by decide +kernel
theorem hf_X8_still_27 : Cond.fieldLink RX8 27 (TX8 3).1 (TX8 3).2.1 (TX8 3).2.2.1 ∈ wsX8_still := by decide +kernel
def rm_X8_still : Room := { frames := 5, cells := 0, slots := 0, locals := 110 }
set_option maxRecDepth 100000 in
theorem b_X8_still_59 {post : Int → St → Prop} (C : cx p s m args meth c wsX8_still RX8 cX8_still 5 (some .int) D cA) (hA : ∀ q, s.heap.size ≤ q → A q) (hR : RtI p l e rm_X8_still s m args below meth c Q cX8_still D cA K_BT h A (fun _ => True) post) {k23 : Int → Int → Int → St → Prop} (hk23 : ∀ {v1 v3 v4 : Int} {σ : St} {H : Heap} {locs : List Loc} {ls : Array Slot}, k23 v1 v3 v4 σ → wd D cA K_BT h σ A s.heap H locs → lh ls 5 [some (.ref (h 0)), some (iv v1), some (.ref (h 50)), some (iv v3), some (iv v4)] → W p l e rm_X8_still s m args below meth c H locs 0 0 Q (F0 m 23 ls [])) : ∀ {v1 v3 v4 : Int} {σ : St} {H : Heap} {locs : List Loc} {ls : Array Slot}, wp_X8_still_59 k23 post v1 v3 v4 σ → wd D cA K_BT h σ A s.heap H locs → lh ls 5 [some (.ref (h 0)), some (iv v1), some (.ref (h 50)), some (iv v3), some (iv v4)] → W p l e rm_X8_still s m args below meth c H locs 0 0 Q (F0 m 59 ls []) := by
  intro v1 v3 v4 σ H locs ls hwp hw hl
  refine r_iinc C dX8_still_59 hl rfl (Nat.le_of_ble_eq_true rfl) rfl (fun ls hl => ?_)
  refine r_goto C (tgt := 23) dX8_still_62 rfl ?_
  exact hk23 hwp hw (lh_mask hl [true, true, true, true, true])
set_option maxRecDepth 100000 in
theorem b_X8_still_23 {post : Int → St → Prop} (C : cx p s m args meth c wsX8_still RX8 cX8_still 5 (some .int) D cA) (hA : ∀ q, s.heap.size ≤ q → A q) (hR : RtI p l e rm_X8_still s m args below meth c Q cX8_still D cA K_BT h A (fun _ => True) post) : ∀ (n : Nat) {v1 v3 v4 : Int} {σ : St} {H : Heap} {locs : List Loc} {ls : Array Slot}, wp_X8_still_23 post n v1 v3 v4 σ → wd D cA K_BT h σ A s.heap H locs → lh ls 5 [some (.ref (h 0)), some (iv v1), some (.ref (h 50)), some (iv v3), some (iv v4)] → W p l e rm_X8_still s m args below meth c H locs 0 0 Q (F0 m 23 ls []) := by
  intro n; induction n with
  | zero => intros; rename_i hwp _ _; exact hwp.elim
  | succ n ih =>
    intro v1 v3 v4 σ H locs ls hwp hw hl
    refine r_iload C dX8_still_23 hl rfl ?_
    refine r_aload_n C dX8_still_25 hl rfl ?_
    refine r_getr C hw clX8 0 rfl 3 49 rfl (Nat.le_of_ble_eq_true rfl) hi_X8_still_X8 hf_X8_still_27 dX8_still_26 ?_
    refine r_get C hw clX7 49 rfl 1 1 rfl rfl (Nat.le_of_ble_eq_true rfl) hi_X8_still_X7 hf_X8_still_134 dX8_still_29 ?_
    obtain ⟨ra, rb, hT, hF⟩ := hwp
    refine r_icmp_gt C (tgt := 65) dX8_still_32 rfl ra rb (fun hc => ?_) (fun hc => ?_)
    · have hwp := hT hc
      refine r_iload_n C dX8_still_65 hl rfl ?_
      exact hR _ _ _ _ _ _ dX8_still_66 trivial hwp hw
    · have hwp := hF hc
      refine r_aload_n C dX8_still_35 hl rfl ?_
      refine r_iload C dX8_still_36 hl rfl ?_
      obtain ⟨h0, h1, hwp⟩ := hwp
      refine r_iald C hw 50 rfl rfl h0 h1 dX8_still_38 ?_
      refine r_iload_n C dX8_still_39 hl rfl ?_
      refine r_cIr hA hw sb_BT_0_0_21 (run_s C hw sb_BT_0_0_21 (c_X2_placeOf hwp) (va_cwS 2 C.2.2.2.2.1 gX8_still_X2_placeOf rfl rfl rfl hd_X2_placeOf ⟨Nat.le_of_ble_eq_true rfl, Nat.le_of_ble_eq_true rfl⟩) rfl rfl rfl hl dX8_still_40 ⟨Nat.zero_le _, Nat.zero_le _⟩) (fun r H locs hwp hw => ?_)
      refine r_aload_n C dX8_still_43 hl rfl ?_
      refine r_iload C dX8_still_44 hl rfl ?_
      refine r_const C dX8_still_46 ?_
      refine r_isub C dX8_still_47 ?_
      obtain ⟨h0, h1, hwp⟩ := hwp
      refine r_iald C hw 50 rfl rfl h0 h1 dX8_still_48 ?_
      refine r_iload_n C dX8_still_49 hl rfl ?_
      refine r_cIr hA hw sb_BT_0_0_21 (run_s C hw sb_BT_0_0_21 (c_X2_placeOf hwp) (va_cwS 2 C.2.2.2.2.1 gX8_still_X2_placeOf rfl rfl rfl hd_X2_placeOf ⟨Nat.le_of_ble_eq_true rfl, Nat.le_of_ble_eq_true rfl⟩) rfl rfl rfl hl dX8_still_50 ⟨Nat.zero_le _, Nat.zero_le _⟩) (fun r H locs hwp hw => ?_)
      obtain ⟨ra, rb, hT, hF⟩ := hwp
      refine r_icmp_ne C (tgt := 59) dX8_still_53 rfl ra rb (fun hc => ?_) (fun hc => ?_)
      · have hwp := hT hc
        exact b_X8_still_59 C hA hR ih hwp hw (lh_mask hl [true, true, true, true, true])
      · have hwp := hF hc
        refine r_iinc C dX8_still_56 hl rfl (Nat.le_of_ble_eq_true rfl) rfl (fun ls hl => ?_)
        exact b_X8_still_59 C hA hR ih hwp hw (lh_mask hl [true, true, true, true, true])
set_option maxRecDepth 100000 in
theorem b_X8_still_0 {post : Int → St → Prop} (C : cx p s m args meth c wsX8_still RX8 cX8_still 5 (some .int) D cA) (hA : ∀ q, s.heap.size ≤ q → A q) (hR : RtI p l e rm_X8_still s m args below meth c Q cX8_still D cA K_BT h A (fun _ => True) post) : ∀ {v1 : Int} {σ : St} {H : Heap} {locs : List Loc} {ls : Array Slot}, wp_X8_still σ v1 post → wd D cA K_BT h σ A s.heap H locs → lh ls 5 [some (.ref (h 0)), some (iv v1), none, none, none] → W p l e rm_X8_still s m args below meth c H locs 0 0 Q (F0 m 0 ls []) := by
  intro v1 σ H locs ls hwp hw hl
  refine r_aload_n C dX8_still_0 hl rfl ?_
  refine r_iload_n C dX8_still_1 hl rfl ?_
  refine r_cIr0 hA hw (run_v0 C hw clX8 rfl (c_X8_isBell hwp) (cwV 1 C.2.2.2.2.1 gX8_still_X8_isBell rfl rfl rfl hd_X8_isBell ⟨Nat.le_of_ble_eq_true rfl, Nat.le_of_ble_eq_true rfl⟩) rfl rfl rfl hl dX8_still_2 ⟨Nat.zero_le _, Nat.zero_le _⟩) (fun r H locs hwp hw => ?_)
  obtain ⟨ra, hT, hF⟩ := hwp
  refine r_if_ne C (tgt := 10) dX8_still_5 rfl ra (fun hc => ?_) (fun hc => ?_)
  · have hwp := hT hc
    refine r_aload_n C dX8_still_10 hl rfl ?_
    refine r_cR0 hA hw (run_v0 C hw clX8 rfl (c_X8_rung hwp) (cwV 0 C.2.2.2.2.1 gX8_still_X8_rung rfl rfl rfl hd_X8_rung ⟨Nat.le_of_ble_eq_true rfl, Nat.le_of_ble_eq_true rfl⟩) rfl rfl rfl hl dX8_still_11 ⟨Nat.zero_le _, Nat.zero_le _⟩) (fun σ H locs hwp hw => ?_)
    refine r_getr C hw clX7 49 rfl 0 50 rfl (Nat.le_of_ble_eq_true rfl) hi_X8_still_X7 hf_X8_still_156 dX8_still_14 ?_
    refine r_astore_n C dX8_still_17 hl (Nat.le_of_ble_eq_true rfl) (Nat.le_of_ble_eq_true rfl) rfl (fun ls hl => ?_)
    refine r_const C dX8_still_18 ?_
    refine r_istore_n C dX8_still_19 hl (Nat.le_of_ble_eq_true rfl) (Nat.le_of_ble_eq_true rfl) rfl (fun ls hl => ?_)
    refine r_const C dX8_still_20 ?_
    refine r_istore C dX8_still_21 hl (Nat.le_of_ble_eq_true rfl) (Nat.le_of_ble_eq_true rfl) rfl (fun ls hl => ?_)
    obtain ⟨n9, hwp⟩ := hwp
    exact b_X8_still_23 C hA hR n9 hwp hw (lh_mask hl [true, true, true, true, true])
  · have hwp := hF hc
    refine r_const C dX8_still_8 ?_
    exact hR _ _ _ _ _ _ dX8_still_9 trivial hwp hw
set_option maxRecDepth 100000 in
theorem c_X8_still {l : Launch} {D : va_G} {cA : FieldType → ClassId} {h : Nat → Nat} {σ : St} {sz : Nat} {v1 : Int} {post : Int → St → Prop} (hwp : wp_X8_still σ v1 post) : Met l yX8_still wsX8_still rm_X8_still (va_Pc [.ref (h 0), iv v1] (preS D cA K_BT h σ sz)) (QI D cA K_BT h sz post) 0 0 (aA K_BT.length h sz) := by
  refine mk_met (cc := cX8_still) (nL := 5) (ret := (some .int)) (own := RX8) 3 (by decide) rfl rfl rfl rfl ?_
  intro p e s m args below meth c ls hsz C hw hl hA
  subst hsz
  exact b_X8_still_0 C hA (rt_i C _) hwp hw hl
-- X8_ahead
theorem hi_X8_ahead_X7 : ∀ w ∈ u_ws RX7 TX7 8, w ∈ wsX8_ahead := by decide +kernel
theorem hi_X8_ahead_X8 : ∀ w ∈ u_ws RX8 TX8 10, w ∈ wsX8_ahead := by decide +kernel
theorem hf_X8_ahead_156 : Cond.fieldLink RX8 156 (TX7 0).1 (TX7 0).2.1 (TX7 0).2.2.1 ∈ wsX8_ahead := by decide +kernel
theorem hf_X8_ahead_134 : Cond.fieldLink RX8 134 (TX7 1).1 (TX7 1).2.1 (TX7 1).2.2.1 ∈ wsX8_ahead := by decide +kernel
theorem hf_X8_ahead_27 : Cond.fieldLink RX8 27 (TX8 3).1 (TX8 3).2.1 (TX8 3).2.2.1 ∈ wsX8_ahead := by decide +kernel
def rm_X8_ahead : Room := { frames := 5, cells := 0, slots := 0, locals := 110 }
set_option maxRecDepth 100000 in
theorem b_X8_ahead_64 {post : Int → St → Prop} (C : cx p s m args meth c wsX8_ahead RX8 cX8_ahead 6 (some .int) D cA) (hA : ∀ q, s.heap.size ≤ q → A q) (hR : RtI p l e rm_X8_ahead s m args below meth c Q cX8_ahead D cA K_BT h A (fun _ => True) post) {k37 : Int → Int → Int → Int → St → Prop} (hk37 : ∀ {v1 v2 v4 v5 : Int} {σ : St} {H : Heap} {locs : List Loc} {ls : Array Slot}, k37 v1 v2 v4 v5 σ → wd D cA K_BT h σ A s.heap H locs → lh ls 6 [some (.ref (h 0)), some (iv v1), some (iv v2), some (.ref (h 50)), some (iv v4), some (iv v5)] → W p l e rm_X8_ahead s m args below meth c H locs 0 0 Q (F0 m 37 ls [])) : ∀ {v1 v2 v4 v5 : Int} {σ : St} {H : Heap} {locs : List Loc} {ls : Array Slot}, wp_X8_ahead_64 k37 post v1 v2 v4 v5 σ → wd D cA K_BT h σ A s.heap H locs → lh ls 6 [some (.ref (h 0)), some (iv v1), some (iv v2), some (.ref (h 50)), some (iv v4), some (iv v5)] → W p l e rm_X8_ahead s m args below meth c H locs 0 0 Q (F0 m 64 ls []) := by
  intro v1 v2 v4 v5 σ H locs ls hwp hw hl
  refine r_iinc C dX8_ahead_64 hl rfl (Nat.le_of_ble_eq_true rfl) rfl (fun ls hl => ?_)
  refine r_goto C (tgt := 37) dX8_ahead_67 rfl ?_
  exact hk37 hwp hw (lh_mask hl [true, true, true, true, true, true])
set_option maxRecDepth 100000 in
theorem b_X8_ahead_37 {post : Int → St → Prop} (C : cx p s m args meth c wsX8_ahead RX8 cX8_ahead 6 (some .int) D cA) (hA : ∀ q, s.heap.size ≤ q → A q) (hR : RtI p l e rm_X8_ahead s m args below meth c Q cX8_ahead D cA K_BT h A (fun _ => True) post) : ∀ (n : Nat) {v1 v2 v4 v5 : Int} {σ : St} {H : Heap} {locs : List Loc} {ls : Array Slot}, wp_X8_ahead_37 post n v1 v2 v4 v5 σ → wd D cA K_BT h σ A s.heap H locs → lh ls 6 [some (.ref (h 0)), some (iv v1), some (iv v2), some (.ref (h 50)), some (iv v4), some (iv v5)] → W p l e rm_X8_ahead s m args below meth c H locs 0 0 Q (F0 m 37 ls []) := by
  intro n; induction n with
  | zero => intros; rename_i hwp _ _; exact hwp.elim
  | succ n ih =>
    intro v1 v2 v4 v5 σ H locs ls hwp hw hl
    refine r_iload C dX8_ahead_37 hl rfl ?_
    refine r_aload_n C dX8_ahead_39 hl rfl ?_
    refine r_getr C hw clX8 0 rfl 3 49 rfl (Nat.le_of_ble_eq_true rfl) hi_X8_ahead_X8 hf_X8_ahead_27 dX8_ahead_40 ?_
    refine r_get C hw clX7 49 rfl 1 1 rfl rfl (Nat.le_of_ble_eq_true rfl) hi_X8_ahead_X7 hf_X8_ahead_134 dX8_ahead_43 ?_
    obtain ⟨ra, rb, hT, hF⟩ := hwp
    refine r_icmp_gt C (tgt := 70) dX8_ahead_46 rfl ra rb (fun hc => ?_) (fun hc => ?_)
    · have hwp := hT hc
      refine r_iload C dX8_ahead_70 hl rfl ?_
      exact hR _ _ _ _ _ _ dX8_ahead_72 trivial hwp hw
    · have hwp := hF hc
      refine r_aload_n C dX8_ahead_49 hl rfl ?_
      refine r_iload C dX8_ahead_50 hl rfl ?_
      obtain ⟨h0, h1, hwp⟩ := hwp
      refine r_iald C hw 50 rfl rfl h0 h1 dX8_ahead_52 ?_
      refine r_iload_n C dX8_ahead_53 hl rfl ?_
      refine r_iload_n C dX8_ahead_54 hl rfl ?_
      refine r_cIr hA hw sb_BT_0_0_21 (run_s C hw sb_BT_0_0_21 (c_X2_isRightAhead hwp) (va_cwS 3 C.2.2.2.2.1 gX8_ahead_X2_isRightAhead rfl rfl rfl hd_X2_isRightAhead ⟨Nat.le_of_ble_eq_true rfl, Nat.le_of_ble_eq_true rfl⟩) rfl rfl rfl hl dX8_ahead_55 ⟨Nat.zero_le _, Nat.zero_le _⟩) (fun r H locs hwp hw => ?_)
      obtain ⟨ra, hT, hF⟩ := hwp
      refine r_if_eq C (tgt := 64) dX8_ahead_58 rfl ra (fun hc => ?_) (fun hc => ?_)
      · have hwp := hT hc
        exact b_X8_ahead_64 C hA hR ih hwp hw (lh_mask hl [true, true, true, true, true, true])
      · have hwp := hF hc
        refine r_iinc C dX8_ahead_61 hl rfl (Nat.le_of_ble_eq_true rfl) rfl (fun ls hl => ?_)
        exact b_X8_ahead_64 C hA hR ih hwp hw (lh_mask hl [true, true, true, true, true, true])
set_option maxRecDepth 100000 in
theorem b_X8_ahead_0 {post : Int → St → Prop} (C : cx p s m args meth c wsX8_ahead RX8 cX8_ahead 6 (some .int) D cA) (hA : ∀ q, s.heap.size ≤ q → A q) (hR : RtI p l e rm_X8_ahead s m args below meth c Q cX8_ahead D cA K_BT h A (fun _ => True) post) : ∀ {v1 v2 : Int} {σ : St} {H : Heap} {locs : List Loc} {ls : Array Slot}, wp_X8_ahead σ v1 v2 post → wd D cA K_BT h σ A s.heap H locs → lh ls 6 [some (.ref (h 0)), some (iv v1), some (iv v2), none, none, none] → W p l e rm_X8_ahead s m args below meth c H locs 0 0 Q (F0 m 0 ls []) := by
  intro v1 v2 σ H locs ls hwp hw hl
  refine r_aload_n C dX8_ahead_0 hl rfl ?_
  refine r_iload_n C dX8_ahead_1 hl rfl ?_
  refine r_cIr0 hA hw (run_v0 C hw clX8 rfl (c_X8_isBell hwp) (cwV 1 C.2.2.2.2.1 gX8_ahead_X8_isBell rfl rfl rfl hd_X8_isBell ⟨Nat.le_of_ble_eq_true rfl, Nat.le_of_ble_eq_true rfl⟩) rfl rfl rfl hl dX8_ahead_2 ⟨Nat.zero_le _, Nat.zero_le _⟩) (fun r H locs hwp hw => ?_)
  obtain ⟨ra, hT, hF⟩ := hwp
  refine r_if_eq C (tgt := 21) dX8_ahead_5 rfl ra (fun hc => ?_) (fun hc => ?_)
  · have hwp := hT hc
    refine r_const C dX8_ahead_21 ?_
    exact hR _ _ _ _ _ _ dX8_ahead_22 trivial hwp hw
  · have hwp := hF hc
    refine r_aload_n C dX8_ahead_8 hl rfl ?_
    refine r_iload_n C dX8_ahead_9 hl rfl ?_
    refine r_cIr0 hA hw (run_v0 C hw clX8 rfl (c_X8_isBell hwp) (cwV 1 C.2.2.2.2.1 gX8_ahead_X8_isBell rfl rfl rfl hd_X8_isBell ⟨Nat.le_of_ble_eq_true rfl, Nat.le_of_ble_eq_true rfl⟩) rfl rfl rfl hl dX8_ahead_10 ⟨Nat.zero_le _, Nat.zero_le _⟩) (fun r H locs hwp hw => ?_)
    obtain ⟨ra, hT, hF⟩ := hwp
    refine r_if_eq C (tgt := 21) dX8_ahead_13 rfl ra (fun hc => ?_) (fun hc => ?_)
    · have hwp := hT hc
      refine r_const C dX8_ahead_21 ?_
      exact hR _ _ _ _ _ _ dX8_ahead_22 trivial hwp hw
    · have hwp := hF hc
      refine r_iload_n C dX8_ahead_16 hl rfl ?_
      refine r_iload_n C dX8_ahead_17 hl rfl ?_
      obtain ⟨ra, rb, hT, hF⟩ := hwp
      refine r_icmp_ne C (tgt := 23) dX8_ahead_18 rfl ra rb (fun hc => ?_) (fun hc => ?_)
      · have hwp := hT hc
        refine r_aload_n C dX8_ahead_23 hl rfl ?_
        refine r_cR0 hA hw (run_v0 C hw clX8 rfl (c_X8_rung hwp) (cwV 0 C.2.2.2.2.1 gX8_ahead_X8_rung rfl rfl rfl hd_X8_rung ⟨Nat.le_of_ble_eq_true rfl, Nat.le_of_ble_eq_true rfl⟩) rfl rfl rfl hl dX8_ahead_24 ⟨Nat.zero_le _, Nat.zero_le _⟩) (fun σ H locs hwp hw => ?_)
        refine r_getr C hw clX7 49 rfl 0 50 rfl (Nat.le_of_ble_eq_true rfl) hi_X8_ahead_X7 hf_X8_ahead_156 dX8_ahead_27 ?_
        refine r_astore_n C dX8_ahead_30 hl (Nat.le_of_ble_eq_true rfl) (Nat.le_of_ble_eq_true rfl) rfl (fun ls hl => ?_)
        refine r_const C dX8_ahead_31 ?_
        refine r_istore C dX8_ahead_32 hl (Nat.le_of_ble_eq_true rfl) (Nat.le_of_ble_eq_true rfl) rfl (fun ls hl => ?_)
        refine r_const C dX8_ahead_34 ?_
        refine r_istore C dX8_ahead_35 hl (Nat.le_of_ble_eq_true rfl) (Nat.le_of_ble_eq_true rfl) rfl (fun ls hl => ?_)
        obtain ⟨n9, hwp⟩ := hwp
        exact b_X8_ahead_37 C hA hR n9 hwp hw (lh_mask hl [true, true, true, true, true, true])
      · have hwp := hF hc
        refine r_const C dX8_ahead_21 ?_
        exact hR _ _ _ _ _ _ dX8_ahead_22 trivial hwp hw
set_option maxRecDepth 100000 in
theorem c_X8_ahead {l : Launch} {D : va_G} {cA : FieldType → ClassId} {h : Nat → Nat} {σ : St} {sz : Nat} {v1 v2 : Int} {post : Int → St → Prop} (hwp : wp_X8_ahead σ v1 v2 post) : Met l yX8_ahead wsX8_ahead rm_X8_ahead (va_Pc [.ref (h 0), iv v1, iv v2] (preS D cA K_BT h σ sz)) (QI D cA K_BT h sz post) 0 0 (aA K_BT.length h sz) := by
  refine mk_met (cc := cX8_ahead) (nL := 6) (ret := (some .int)) (own := RX8) 3 (by decide) rfl rfl rfl rfl ?_
  intro p e s m args below meth c ls hsz C hw hl hA
  subst hsz
  exact b_X8_ahead_0 C hA (rt_i C _) hwp hw hl
-- X8_see
theorem hi_X8_see_X1 : ∀ w ∈ u_ws RX1 TX1 4, w ∈ wsX8_see := by decide +kernel
theorem hi_X8_see_X4 : ∀ w ∈ u_ws RX4 TX4 11, w ∈ wsX8_see := by decide +kernel
theorem hi_X8_see_X8 : ∀ w ∈ u_ws RX8 TX8 10, w ∈ wsX8_see := by decide +kernel
theorem hf_X8_see_190 : Cond.fieldLink RX8 190 (TX1 3).1 (TX1 3).2.1 (TX1 3).2.2.1 ∈ wsX8_see := by decide +kernel
theorem hf_X8_see_186 : Cond.fieldLink RX8 186 (TX4 8).1 (TX4 8).2.1 (TX4 8).2.2.1 ∈ wsX8_see := by decide +kernel
theorem hf_X8_see_14 : Cond.fieldLink RX8 14 (TX8 0).1 (TX8 0).2.1 (TX8 0).2.2.1 ∈ wsX8_see := by decide +kernel
def rm_X8_see : Room := { frames := 1, cells := 0, slots := 0, locals := 23 }
set_option maxRecDepth 100000 in
theorem b_X8_see_0 {post : Int → St → Prop} (C : cx p s m args meth c wsX8_see RX8 cX8_see 4 (some .int) D cA) (hA : ∀ q, s.heap.size ≤ q → A q) (hR : RtI p l e rm_X8_see s m args below meth c Q cX8_see D cA K_BT h A (fun _ => True) post) : ∀ {v1 v2 v3 : Int} {σ : St} {H : Heap} {locs : List Loc} {ls : Array Slot}, wp_X8_see σ v1 v2 v3 post → wd D cA K_BT h σ A s.heap H locs → lh ls 4 [some (.ref (h 0)), some (iv v1), some (iv v2), some (iv v3)] → W p l e rm_X8_see s m args below meth c H locs 0 0 Q (F0 m 0 ls []) := by
  intro v1 v2 v3 σ H locs ls hwp hw hl
  refine r_iload_n C dX8_see_0 hl rfl ?_
  refine r_const C dX8_see_1 ?_
  obtain ⟨ra, hT, hF⟩ := hwp
  refine r_icmp_ne C (tgt := 18) dX8_see_2 rfl ra (by decide) (fun hc => ?_) (fun hc => ?_)
  · have hwp := hT hc
    refine r_iload_n C dX8_see_18 hl rfl ?_
    obtain ⟨ra, hT, hF⟩ := hwp
    refine r_if_lt C (tgt := 45) dX8_see_19 rfl ra (fun hc => ?_) (fun hc => ?_)
    · have hwp := hT hc
      refine r_const C dX8_see_45 ?_
      exact hR _ _ _ _ _ _ dX8_see_46 trivial hwp hw
    · have hwp := hF hc
      refine r_iload_n C dX8_see_22 hl rfl ?_
      refine r_sipush C dX8_see_23 bps_192 ?_
      obtain ⟨ra, hT, hF⟩ := hwp
      refine r_icmp_gt C (tgt := 45) dX8_see_26 rfl ra (by decide) (fun hc => ?_) (fun hc => ?_)
      · have hwp := hT hc
        refine r_const C dX8_see_45 ?_
        exact hR _ _ _ _ _ _ dX8_see_46 trivial hwp hw
      · have hwp := hF hc
        refine r_aload_n C dX8_see_29 hl rfl ?_
        refine r_iload_n C dX8_see_30 hl rfl ?_
        refine r_cIr0 hA hw (run_v0 C hw clX8 rfl (c_X8_isBell hwp) (cwV 1 C.2.2.2.2.1 gX8_see_X8_isBell rfl rfl rfl hd_X8_isBell ⟨Nat.le_of_ble_eq_true rfl, Nat.le_of_ble_eq_true rfl⟩) rfl rfl rfl hl dX8_see_31 ⟨Nat.zero_le _, Nat.zero_le _⟩) (fun r H locs hwp hw => ?_)
        obtain ⟨ra, hT, hF⟩ := hwp
        refine r_if_eq C (tgt := 45) dX8_see_34 rfl ra (fun hc => ?_) (fun hc => ?_)
        · have hwp := hT hc
          refine r_const C dX8_see_45 ?_
          exact hR _ _ _ _ _ _ dX8_see_46 trivial hwp hw
        · have hwp := hF hc
          refine r_aload_n C dX8_see_37 hl rfl ?_
          refine r_iload_n C dX8_see_38 hl rfl ?_
          refine r_cIr0 hA hw (run_v0 C hw clX8 rfl (c_X8_isBell hwp) (cwV 1 C.2.2.2.2.1 gX8_see_X8_isBell rfl rfl rfl hd_X8_isBell ⟨Nat.le_of_ble_eq_true rfl, Nat.le_of_ble_eq_true rfl⟩) rfl rfl rfl hl dX8_see_39 ⟨Nat.zero_le _, Nat.zero_le _⟩) (fun r H locs hwp hw => ?_)
          obtain ⟨ra, hT, hF⟩ := hwp
          refine r_if_ne C (tgt := 47) dX8_see_42 rfl ra (fun hc => ?_) (fun hc => ?_)
          · have hwp := hT hc
            refine r_aload_n C dX8_see_47 hl rfl ?_
            refine r_getr C hw clX8 0 rfl 0 1 rfl (Nat.le_of_ble_eq_true rfl) hi_X8_see_X8 hf_X8_see_14 dX8_see_48 ?_
            refine r_getr C hw clX4 1 rfl 8 5 rfl (Nat.le_of_ble_eq_true rfl) hi_X8_see_X4 hf_X8_see_186 dX8_see_51 ?_
            refine r_iload_n C dX8_see_54 hl rfl ?_
            refine r_iload_n C dX8_see_55 hl rfl ?_
            refine r_iload_n C dX8_see_56 hl rfl ?_
            refine r_cI hA hw sb_BT_HR_5_27 (run_v C hw sb_BT_HR_5_27 clX1 rfl (c_X1_append rfl hwp) (cwV 3 C.2.2.2.2.1 gX8_see_X1_append rfl rfl rfl hd_X1_append ⟨Nat.le_of_ble_eq_true rfl, Nat.le_of_ble_eq_true rfl⟩) rfl rfl rfl hl dX8_see_57 ⟨Nat.zero_le _, Nat.zero_le _⟩) (fun r σ H locs hwp hw => ?_)
            have hwp := hwp _ rfl
            obtain ⟨ra, hT, hF⟩ := hwp
            refine r_if_eq C (tgt := 76) dX8_see_60 rfl ra (fun hc => ?_) (fun hc => ?_)
            · have hwp := hT hc
              refine r_bipush C dX8_see_76 bpb_m4 ?_
              exact hR _ _ _ _ _ _ dX8_see_78 trivial hwp hw
            · have hwp := hF hc
              refine r_aload_n C dX8_see_63 hl rfl ?_
              refine r_getr C hw clX8 0 rfl 0 1 rfl (Nat.le_of_ble_eq_true rfl) hi_X8_see_X8 hf_X8_see_14 dX8_see_64 ?_
              refine r_getr C hw clX4 1 rfl 8 5 rfl (Nat.le_of_ble_eq_true rfl) hi_X8_see_X4 hf_X8_see_186 dX8_see_67 ?_
              refine r_get C hw clX1 5 rfl 3 3 rfl rfl (Nat.le_of_ble_eq_true rfl) hi_X8_see_X1 hf_X8_see_190 dX8_see_70 ?_
              refine r_goto C (tgt := 78) dX8_see_73 rfl ?_
              exact hR _ _ _ _ _ _ dX8_see_78 trivial hwp hw
          · have hwp := hF hc
            refine r_const C dX8_see_45 ?_
            exact hR _ _ _ _ _ _ dX8_see_46 trivial hwp hw
  · have hwp := hF hc
    refine r_aload_n C dX8_see_5 hl rfl ?_
    refine r_getr C hw clX8 0 rfl 0 1 rfl (Nat.le_of_ble_eq_true rfl) hi_X8_see_X8 hf_X8_see_14 dX8_see_6 ?_
    refine r_getr C hw clX4 1 rfl 8 5 rfl (Nat.le_of_ble_eq_true rfl) hi_X8_see_X4 hf_X8_see_186 dX8_see_9 ?_
    refine r_const C dX8_see_12 ?_
    refine r_put C hw clX1 5 rfl 3 3 rfl rfl (Nat.le_of_ble_eq_true rfl) hi_X8_see_X1 hf_X8_see_190 rfl ⟨nar_i _, fit_i _⟩ dX8_see_13 (fun H locs hw => ?_)
    have hwp := hwp _ rfl
    refine r_const C dX8_see_16 ?_
    exact hR _ _ _ _ _ _ dX8_see_17 trivial hwp hw
set_option maxRecDepth 100000 in
theorem c_X8_see {l : Launch} {D : va_G} {cA : FieldType → ClassId} {h : Nat → Nat} {σ : St} {sz : Nat} {v1 v2 v3 : Int} {post : Int → St → Prop} (hwp : wp_X8_see σ v1 v2 v3 post) : Met l yX8_see wsX8_see rm_X8_see (va_Pc [.ref (h 0), iv v1, iv v2, iv v3] (preS D cA K_BT h σ sz)) (QI D cA K_BT h sz post) 0 0 (aA K_BT.length h sz) := by
  refine mk_met (cc := cX8_see) (nL := 4) (ret := (some .int)) (own := RX8) 0 (by decide) rfl rfl rfl rfl ?_
  intro p e s m args below meth c ls hsz C hw hl hA
  subst hsz
  exact b_X8_see_0 C hA (rt_i C _) hwp hw hl
-- X8_fitsLast
theorem hi_X8_fitsLast_X1 : ∀ w ∈ u_ws RX1 TX1 4, w ∈ wsX8_fitsLast := by decide +kernel
theorem hi_X8_fitsLast_X4 : ∀ w ∈ u_ws RX4 TX4 11, w ∈ wsX8_fitsLast := by decide +kernel
theorem hi_X8_fitsLast_X7 : ∀ w ∈ u_ws RX7 TX7 8, w ∈ wsX8_fitsLast := by decide +kernel
theorem hi_X8_fitsLast_X8 : ∀ w ∈ u_ws RX8 TX8 10, w ∈ wsX8_fitsLast := by decide +kernel
theorem hf_X8_fitsLast_225 : Cond.fieldLink RX8 225 (TX1 0).1 (TX1 0).2.1 (TX1 0).2.2.1 ∈ wsX8_fitsLast := by decide +kernel
theorem hf_X8_fitsLast_228 : Cond.fieldLink RX8 228 (TX1 1).1 (TX1 1).2.1 (TX1 1).2.2.1 ∈ wsX8_fitsLast := by decide +kernel
theorem hf_X8_fitsLast_259 : Cond.fieldLink RX8 259 (TX1 2).1 (TX1 2).2.1 (TX1 2).2.2.1 ∈ wsX8_fitsLast := by decide +kernel
theorem hf_X8_fitsLast_190 : Cond.fieldLink RX8 190 (TX1 3).1 (TX1 3).2.1 (TX1 3).2.2.1 ∈ wsX8_fitsLast := by decide +kernel
theorem hf_X8_fitsLast_83 : Cond.fieldLink RX8 83 (TX4 1).1 (TX4 1).2.1 (TX4 1).2.2.1 ∈ wsX8_fitsLast := by decide +kernel
theorem hf_X8_fitsLast_80 : Cond.fieldLink RX8 80 (TX4 2).1 (TX4 2).2.1 (TX4 2).2.2.1 ∈ wsX8_fitsLast := by decide +kernel
theorem hf_X8_fitsLast_186 : Cond.fieldLink RX8 186 (TX4 8).1 (TX4 8).2.1 (TX4 8).2.2.1 ∈ wsX8_fitsLast := by decide +kernel
theorem hf_X8_fitsLast_156 : Cond.fieldLink RX8 156 (TX7 0).1 (TX7 0).2.1 (TX7 0).2.2.1 ∈ wsX8_fitsLast := by decide +kernel
theorem hf_X8_fitsLast_134 : Cond.fieldLink RX8 134 (TX7 1).1 (TX7 1).2.1 (TX7 1).2.2.1 ∈ wsX8_fitsLast := by decide +kernel
theorem hf_X8_fitsLast_14 : Cond.fieldLink RX8 14 (TX8 0).1 (TX8 0).2.1 (TX8 0).2.2.1 ∈ wsX8_fitsLast := by decide +kernel
theorem hf_X8_fitsLast_21 : Cond.fieldLink RX8 21 (TX8 2).1 (TX8 2).2.1 (TX8 2).2.2.1 ∈ wsX8_fitsLast := by decide +kernel
theorem hf_X8_fitsLast_31 : Cond.fieldLink RX8 31 (TX8 4).1 (TX8 4).2.1 (TX8 4).2.2.1 ∈ wsX8_fitsLast := by decide +kernel
def rm_X8_fitsLast : Room := { frames := 4, cells := 0, slots := 0, locals := 90 }
set_option maxRecDepth 100000 in
theorem b_X8_fitsLast_110 {post : Int → St → Prop} (C : cx p s m args meth c wsX8_fitsLast RX8 cX8_fitsLast 6 (some .boolean) D cA) (hA : ∀ q, s.heap.size ≤ q → A q) (hR : RtI p l e rm_X8_fitsLast s m args below meth c Q cX8_fitsLast D cA K_BT h A (fun x => x = 0 ∨ x = 1) post) {k48 : Int → St → Prop} (hk48 : ∀ {v4 : Int} {σ : St} {H : Heap} {locs : List Loc} {ls : Array Slot}, k48 v4 σ → wd D cA K_BT h σ A s.heap H locs → lh ls 6 [some (.ref (h 0)), none, none, some (.ref (h 5)), some (iv v4), none] → W p l e rm_X8_fitsLast s m args below meth c H locs 0 0 Q (F0 m 48 ls [])) : ∀ {v4 : Int} {σ : St} {H : Heap} {locs : List Loc} {ls : Array Slot}, wp_X8_fitsLast_110 k48 post v4 σ → wd D cA K_BT h σ A s.heap H locs → lh ls 6 [some (.ref (h 0)), none, none, some (.ref (h 5)), some (iv v4), none] → W p l e rm_X8_fitsLast s m args below meth c H locs 0 0 Q (F0 m 110 ls []) := by
  intro v4 σ H locs ls hwp hw hl
  refine r_iinc C dX8_fitsLast_110 hl rfl (Nat.le_of_ble_eq_true rfl) rfl (fun ls hl => ?_)
  refine r_goto C (tgt := 48) dX8_fitsLast_113 rfl ?_
  exact hk48 hwp hw (lh_mask hl [true, false, false, true, true, false])
set_option maxRecDepth 100000 in
theorem b_X8_fitsLast_48 {post : Int → St → Prop} (C : cx p s m args meth c wsX8_fitsLast RX8 cX8_fitsLast 6 (some .boolean) D cA) (hA : ∀ q, s.heap.size ≤ q → A q) (hR : RtI p l e rm_X8_fitsLast s m args below meth c Q cX8_fitsLast D cA K_BT h A (fun x => x = 0 ∨ x = 1) post) : ∀ (n : Nat) {v4 : Int} {σ : St} {H : Heap} {locs : List Loc} {ls : Array Slot}, wp_X8_fitsLast_48 post n v4 σ → wd D cA K_BT h σ A s.heap H locs → lh ls 6 [some (.ref (h 0)), none, none, some (.ref (h 5)), some (iv v4), none] → W p l e rm_X8_fitsLast s m args below meth c H locs 0 0 Q (F0 m 48 ls []) := by
  intro n; induction n with
  | zero => intros; rename_i hwp _ _; exact hwp.elim
  | succ n ih =>
    intro v4 σ H locs ls hwp hw hl
    refine r_iload C dX8_fitsLast_48 hl rfl ?_
    refine r_aload_n C dX8_fitsLast_50 hl rfl ?_
    refine r_get C hw clX1 5 rfl 3 3 rfl rfl (Nat.le_of_ble_eq_true rfl) hi_X8_fitsLast_X1 hf_X8_fitsLast_190 dX8_fitsLast_51 ?_
    obtain ⟨ra, rb, hT, hF⟩ := hwp
    refine r_icmp_ge C (tgt := 116) dX8_fitsLast_54 rfl ra rb (fun hc => ?_) (fun hc => ?_)
    · have hwp := hT hc
      refine r_const C dX8_fitsLast_116 ?_
      exact hR _ _ _ _ _ _ dX8_fitsLast_117 (Or.inr rfl) hwp hw
    · have hwp := hF hc
      refine r_aload_n C dX8_fitsLast_57 hl rfl ?_
      refine r_getr C hw clX1 5 rfl 0 6 rfl (Nat.le_of_ble_eq_true rfl) hi_X8_fitsLast_X1 hf_X8_fitsLast_225 dX8_fitsLast_58 ?_
      refine r_iload C dX8_fitsLast_61 hl rfl ?_
      obtain ⟨h0, h1, hwp⟩ := hwp
      refine r_iald C hw 6 rfl rfl h0 h1 dX8_fitsLast_63 ?_
      refine r_istore C dX8_fitsLast_64 hl (Nat.le_of_ble_eq_true rfl) (Nat.le_of_ble_eq_true rfl) rfl (fun ls hl => ?_)
      refine r_iload C dX8_fitsLast_66 hl rfl ?_
      refine r_aload_n C dX8_fitsLast_68 hl rfl ?_
      refine r_getr C hw clX8 0 rfl 4 56 rfl (Nat.le_of_ble_eq_true rfl) hi_X8_fitsLast_X8 hf_X8_fitsLast_31 dX8_fitsLast_69 ?_
      refine r_get C hw clX7 56 rfl 1 1 rfl rfl (Nat.le_of_ble_eq_true rfl) hi_X8_fitsLast_X7 hf_X8_fitsLast_134 dX8_fitsLast_72 ?_
      obtain ⟨ra, rb, hT, hF⟩ := hwp
      refine r_icmp_gt C (tgt := 110) dX8_fitsLast_75 rfl ra rb (fun hc => ?_) (fun hc => ?_)
      · have hwp := hT hc
        exact b_X8_fitsLast_110 C hA hR ih hwp hw (lh_mask hl [true, false, false, true, true, false])
      · have hwp := hF hc
        refine r_aload_n C dX8_fitsLast_78 hl rfl ?_
        refine r_getr C hw clX8 0 rfl 4 56 rfl (Nat.le_of_ble_eq_true rfl) hi_X8_fitsLast_X8 hf_X8_fitsLast_31 dX8_fitsLast_79 ?_
        refine r_getr C hw clX7 56 rfl 0 57 rfl (Nat.le_of_ble_eq_true rfl) hi_X8_fitsLast_X7 hf_X8_fitsLast_156 dX8_fitsLast_82 ?_
        refine r_iload C dX8_fitsLast_85 hl rfl ?_
        obtain ⟨h0, h1, hwp⟩ := hwp
        refine r_iald C hw 57 rfl rfl h0 h1 dX8_fitsLast_87 ?_
        refine r_aload_n C dX8_fitsLast_88 hl rfl ?_
        refine r_getr C hw clX1 5 rfl 1 7 rfl (Nat.le_of_ble_eq_true rfl) hi_X8_fitsLast_X1 hf_X8_fitsLast_228 dX8_fitsLast_89 ?_
        refine r_iload C dX8_fitsLast_92 hl rfl ?_
        obtain ⟨h0, h1, hwp⟩ := hwp
        refine r_iald C hw 7 rfl rfl h0 h1 dX8_fitsLast_94 ?_
        refine r_cIr hA hw sb_BT_0_0_21 (run_s C hw sb_BT_0_0_21 (c_X2_bellIn hwp) (va_cwS 2 C.2.2.2.2.1 gX8_fitsLast_X2_bellIn rfl rfl rfl hd_X2_bellIn ⟨Nat.le_of_ble_eq_true rfl, Nat.le_of_ble_eq_true rfl⟩) rfl rfl rfl hl dX8_fitsLast_95 ⟨Nat.zero_le _, Nat.zero_le _⟩) (fun r H locs hwp hw => ?_)
        refine r_aload_n C dX8_fitsLast_98 hl rfl ?_
        refine r_getr C hw clX1 5 rfl 2 8 rfl (Nat.le_of_ble_eq_true rfl) hi_X8_fitsLast_X1 hf_X8_fitsLast_259 dX8_fitsLast_99 ?_
        refine r_iload C dX8_fitsLast_102 hl rfl ?_
        obtain ⟨h0, h1, hwp⟩ := hwp
        refine r_iald C hw 8 rfl rfl h0 h1 dX8_fitsLast_104 ?_
        obtain ⟨ra, rb, hT, hF⟩ := hwp
        refine r_icmp_eq C (tgt := 110) dX8_fitsLast_105 rfl ra rb (fun hc => ?_) (fun hc => ?_)
        · have hwp := hT hc
          exact b_X8_fitsLast_110 C hA hR ih hwp hw (lh_mask hl [true, false, false, true, true, false])
        · have hwp := hF hc
          refine r_const C dX8_fitsLast_108 ?_
          exact hR _ _ _ _ _ _ dX8_fitsLast_109 (Or.inl rfl) hwp hw
set_option maxRecDepth 100000 in
theorem b_X8_fitsLast_0 {post : Int → St → Prop} (C : cx p s m args meth c wsX8_fitsLast RX8 cX8_fitsLast 6 (some .boolean) D cA) (hA : ∀ q, s.heap.size ≤ q → A q) (hR : RtI p l e rm_X8_fitsLast s m args below meth c Q cX8_fitsLast D cA K_BT h A (fun x => x = 0 ∨ x = 1) post) : ∀ {v1 : Int} {σ : St} {H : Heap} {locs : List Loc} {ls : Array Slot}, wp_X8_fitsLast σ v1 post → wd D cA K_BT h σ A s.heap H locs → lh ls 6 [some (.ref (h 0)), some (iv v1), none, none, none, none] → W p l e rm_X8_fitsLast s m args below meth c H locs 0 0 Q (F0 m 0 ls []) := by
  intro v1 σ H locs ls hwp hw hl
  refine r_aload_n C dX8_fitsLast_0 hl rfl ?_
  refine r_getr C hw clX8 0 rfl 2 33 rfl (Nat.le_of_ble_eq_true rfl) hi_X8_fitsLast_X8 hf_X8_fitsLast_21 dX8_fitsLast_1 ?_
  refine r_get C hw clX4 33 rfl 2 2 rfl rfl (Nat.le_of_ble_eq_true rfl) hi_X8_fitsLast_X4 hf_X8_fitsLast_80 dX8_fitsLast_4 ?_
  refine r_const C dX8_fitsLast_7 ?_
  refine r_isub C dX8_fitsLast_8 ?_
  refine r_istore_n C dX8_fitsLast_9 hl (Nat.le_of_ble_eq_true rfl) (Nat.le_of_ble_eq_true rfl) rfl (fun ls hl => ?_)
  refine r_iload_n C dX8_fitsLast_10 hl rfl ?_
  obtain ⟨ra, hT, hF⟩ := hwp
  refine r_if_ge C (tgt := 16) dX8_fitsLast_11 rfl ra (fun hc => ?_) (fun hc => ?_)
  · have hwp := hT hc
    refine r_aload_n C dX8_fitsLast_16 hl rfl ?_
    refine r_getr C hw clX8 0 rfl 2 33 rfl (Nat.le_of_ble_eq_true rfl) hi_X8_fitsLast_X8 hf_X8_fitsLast_21 dX8_fitsLast_17 ?_
    refine r_getr C hw clX4 33 rfl 1 34 rfl (Nat.le_of_ble_eq_true rfl) hi_X8_fitsLast_X4 hf_X8_fitsLast_83 dX8_fitsLast_20 ?_
    refine r_iload_n C dX8_fitsLast_23 hl rfl ?_
    refine r_iload_n C dX8_fitsLast_24 hl rfl ?_
    obtain ⟨h0, h1, hwp⟩ := hwp
    refine r_iast C hw 34 rfl rfl h0 h1 dX8_fitsLast_25 (fun H locs hw => ?_)
    have hwp := hwp _ rfl
    refine r_aload_n C dX8_fitsLast_26 hl rfl ?_
    refine r_getr C hw clX8 0 rfl 4 56 rfl (Nat.le_of_ble_eq_true rfl) hi_X8_fitsLast_X8 hf_X8_fitsLast_31 dX8_fitsLast_27 ?_
    refine r_aload_n C dX8_fitsLast_30 hl rfl ?_
    refine r_getr C hw clX8 0 rfl 2 33 rfl (Nat.le_of_ble_eq_true rfl) hi_X8_fitsLast_X8 hf_X8_fitsLast_21 dX8_fitsLast_31 ?_
    refine r_cV hA hw sb_BT_TouchS_56_28 (run_v C hw sb_BT_TouchS_56_28 clX7 rfl (c_X7_ring hwp) (cwV 1 C.2.2.2.2.1 gX8_fitsLast_X7_ring rfl rfl rfl hd_X7_ring ⟨Nat.le_of_ble_eq_true rfl, Nat.le_of_ble_eq_true rfl⟩) rfl rfl rfl hl dX8_fitsLast_34 ⟨Nat.zero_le _, Nat.zero_le _⟩) (fun σ H locs hwp hw => ?_)
    have hwp := hwp _ rfl
    refine r_aload_n C dX8_fitsLast_37 hl rfl ?_
    refine r_getr C hw clX8 0 rfl 0 1 rfl (Nat.le_of_ble_eq_true rfl) hi_X8_fitsLast_X8 hf_X8_fitsLast_14 dX8_fitsLast_38 ?_
    refine r_getr C hw clX4 1 rfl 8 5 rfl (Nat.le_of_ble_eq_true rfl) hi_X8_fitsLast_X4 hf_X8_fitsLast_186 dX8_fitsLast_41 ?_
    refine r_astore_n C dX8_fitsLast_44 hl (Nat.le_of_ble_eq_true rfl) (Nat.le_of_ble_eq_true rfl) rfl (fun ls hl => ?_)
    refine r_const C dX8_fitsLast_45 ?_
    refine r_istore C dX8_fitsLast_46 hl (Nat.le_of_ble_eq_true rfl) (Nat.le_of_ble_eq_true rfl) rfl (fun ls hl => ?_)
    obtain ⟨n9, hwp⟩ := hwp
    exact b_X8_fitsLast_48 C hA hR n9 hwp hw (lh_mask hl [true, false, false, true, true, false])
  · have hwp := hF hc
    refine r_const C dX8_fitsLast_14 ?_
    exact hR _ _ _ _ _ _ dX8_fitsLast_15 (Or.inl rfl) hwp hw
set_option maxRecDepth 100000 in
theorem c_X8_fitsLast {l : Launch} {D : va_G} {cA : FieldType → ClassId} {h : Nat → Nat} {σ : St} {sz : Nat} {v1 : Int} {post : Int → St → Prop} (hwp : wp_X8_fitsLast σ v1 post) : Met l yX8_fitsLast wsX8_fitsLast rm_X8_fitsLast (va_Pc [.ref (h 0), iv v1] (preS D cA K_BT h σ sz)) (QI D cA K_BT h sz post) 0 0 (aA K_BT.length h sz) := by
  refine mk_met (cc := cX8_fitsLast) (nL := 6) (ret := (some .boolean)) (own := RX8) 4 (by decide) rfl rfl rfl rfl ?_
  intro p e s m args below meth c ls hsz C hw hl hA
  subst hsz
  exact b_X8_fitsLast_0 C hA (rt_z C _) hwp hw hl
-- X8_fits
theorem hi_X8_fits_X4 : ∀ w ∈ u_ws RX4 TX4 11, w ∈ wsX8_fits := by decide +kernel
theorem hi_X8_fits_X8 : ∀ w ∈ u_ws RX8 TX8 10, w ∈ wsX8_fits := by decide +kernel
theorem hf_X8_fits_62 : Cond.fieldLink RX8 62 (TX4 0).1 (TX4 0).2.1 (TX4 0).2.2.1 ∈ wsX8_fits := by decide +kernel
theorem hf_X8_fits_80 : Cond.fieldLink RX8 80 (TX4 2).1 (TX4 2).2.1 (TX4 2).2.2.1 ∈ wsX8_fits := by decide +kernel
theorem hf_X8_fits_14 : Cond.fieldLink RX8 14 (TX8 0).1 (TX8 0).2.1 (TX8 0).2.2.1 ∈ wsX8_fits := by decide +kernel
theorem hf_X8_fits_21 : Cond.fieldLink RX8 21 (TX8 2).1 (TX8 2).2.1 (TX8 2).2.2.1 ∈ wsX8_fits := by decide +kernel
def rm_X8_fits : Room := { frames := 5, cells := 0, slots := 0, locals := 121 }
set_option maxRecDepth 100000 in
theorem b_X8_fits_102 {post : Int → St → Prop} (C : cx p s m args meth c wsX8_fits RX8 cX8_fits 6 (some .int) D cA) (hA : ∀ q, s.heap.size ≤ q → A q) (hR : RtI p l e rm_X8_fits s m args below meth c Q cX8_fits D cA K_BT h A (fun _ => True) post) {k55 : Int → Int → Int → Int → Int → St → Prop} (hk55 : ∀ {v1 v2 v3 v4 v5 : Int} {σ : St} {H : Heap} {locs : List Loc} {ls : Array Slot}, k55 v1 v2 v3 v4 v5 σ → wd D cA K_BT h σ A s.heap H locs → lh ls 6 [some (.ref (h 0)), some (iv v1), some (iv v2), some (iv v3), some (iv v4), some (iv v5)] → W p l e rm_X8_fits s m args below meth c H locs 0 0 Q (F0 m 55 ls [])) : ∀ {v1 v2 v3 v4 v5 : Int} {σ : St} {H : Heap} {locs : List Loc} {ls : Array Slot}, wp_X8_fits_102 k55 post v1 v2 v3 v4 v5 σ → wd D cA K_BT h σ A s.heap H locs → lh ls 6 [some (.ref (h 0)), some (iv v1), some (iv v2), some (iv v3), some (iv v4), some (iv v5)] → W p l e rm_X8_fits s m args below meth c H locs 0 0 Q (F0 m 102 ls []) := by
  intro v1 v2 v3 v4 v5 σ H locs ls hwp hw hl
  refine r_iinc C dX8_fits_102 hl rfl (Nat.le_of_ble_eq_true rfl) rfl (fun ls hl => ?_)
  refine r_goto C (tgt := 55) dX8_fits_105 rfl ?_
  exact hk55 hwp hw (lh_mask hl [true, true, true, true, true, true])
set_option maxRecDepth 100000 in
theorem b_X8_fits_101 {post : Int → St → Prop} (C : cx p s m args meth c wsX8_fits RX8 cX8_fits 6 (some .int) D cA) (hA : ∀ q, s.heap.size ≤ q → A q) (hR : RtI p l e rm_X8_fits s m args below meth c Q cX8_fits D cA K_BT h A (fun _ => True) post) {k55 : Int → Int → Int → Int → Int → St → Prop} (hk55 : ∀ {v1 v2 v3 v4 v5 : Int} {σ : St} {H : Heap} {locs : List Loc} {ls : Array Slot}, k55 v1 v2 v3 v4 v5 σ → wd D cA K_BT h σ A s.heap H locs → lh ls 6 [some (.ref (h 0)), some (iv v1), some (iv v2), some (iv v3), some (iv v4), some (iv v5)] → W p l e rm_X8_fits s m args below meth c H locs 0 0 Q (F0 m 55 ls [])) : ∀ {v1 v2 v4 v5 s0 : Int} {σ : St} {H : Heap} {locs : List Loc} {ls : Array Slot}, wp_X8_fits_101 k55 post v1 v2 v4 v5 s0 σ → wd D cA K_BT h σ A s.heap H locs → lh ls 6 [some (.ref (h 0)), some (iv v1), some (iv v2), none, some (iv v4), some (iv v5)] → W p l e rm_X8_fits s m args below meth c H locs 0 0 Q (F0 m 101 ls [iv s0]) := by
  intro v1 v2 v4 v5 s0 σ H locs ls hwp hw hl
  refine r_istore_n C dX8_fits_101 hl (Nat.le_of_ble_eq_true rfl) (Nat.le_of_ble_eq_true rfl) rfl (fun ls hl => ?_)
  exact b_X8_fits_102 C hA hR hk55 hwp hw (lh_mask hl [true, true, true, true, true, true])
set_option maxRecDepth 100000 in
theorem b_X8_fits_55 {post : Int → St → Prop} (C : cx p s m args meth c wsX8_fits RX8 cX8_fits 6 (some .int) D cA) (hA : ∀ q, s.heap.size ≤ q → A q) (hR : RtI p l e rm_X8_fits s m args below meth c Q cX8_fits D cA K_BT h A (fun _ => True) post) : ∀ (n : Nat) {v1 v2 v3 v4 v5 : Int} {σ : St} {H : Heap} {locs : List Loc} {ls : Array Slot}, wp_X8_fits_55 post n v1 v2 v3 v4 v5 σ → wd D cA K_BT h σ A s.heap H locs → lh ls 6 [some (.ref (h 0)), some (iv v1), some (iv v2), some (iv v3), some (iv v4), some (iv v5)] → W p l e rm_X8_fits s m args below meth c H locs 0 0 Q (F0 m 55 ls []) := by
  intro n; induction n with
  | zero => intros; rename_i hwp _ _; exact hwp.elim
  | succ n ih =>
    intro v1 v2 v3 v4 v5 σ H locs ls hwp hw hl
    refine r_iload C dX8_fits_55 hl rfl ?_
    refine r_iload C dX8_fits_57 hl rfl ?_
    obtain ⟨ra, rb, hT, hF⟩ := hwp
    refine r_icmp_ge C (tgt := 108) dX8_fits_59 rfl ra rb (fun hc => ?_) (fun hc => ?_)
    · have hwp := hT hc
      refine r_iload_n C dX8_fits_108 hl rfl ?_
      obtain ⟨ra, hT, hF⟩ := hwp
      refine r_if_ne C (tgt := 116) dX8_fits_109 rfl ra (fun hc => ?_) (fun hc => ?_)
      · have hwp := hT hc
        refine r_iload_n C dX8_fits_116 hl rfl ?_
        exact hR _ _ _ _ _ _ dX8_fits_117 trivial hwp hw
      · have hwp := hF hc
        refine r_iload_n C dX8_fits_112 hl rfl ?_
        refine r_goto C (tgt := 117) dX8_fits_113 rfl ?_
        exact hR _ _ _ _ _ _ dX8_fits_117 trivial hwp hw
    · have hwp := hF hc
      refine r_aload_n C dX8_fits_62 hl rfl ?_
      refine r_getr C hw clX8 0 rfl 0 1 rfl (Nat.le_of_ble_eq_true rfl) hi_X8_fits_X8 hf_X8_fits_14 dX8_fits_63 ?_
      refine r_get C hw clX4 1 rfl 0 0 rfl rfl (Nat.le_of_ble_eq_true rfl) hi_X8_fits_X4 hf_X8_fits_62 dX8_fits_66 ?_
      refine r_iload C dX8_fits_69 hl rfl ?_
      refine r_cIr hA hw sb_BT_0_0_21 (run_s C hw sb_BT_0_0_21 (c_X2_isGood hwp) (va_cwS 2 C.2.2.2.2.1 gX8_fits_X2_isGood rfl rfl rfl hd_X2_isGood ⟨Nat.le_of_ble_eq_true rfl, Nat.le_of_ble_eq_true rfl⟩) rfl rfl rfl hl dX8_fits_71 ⟨Nat.zero_le _, Nat.zero_le _⟩) (fun r H locs hwp hw => ?_)
      obtain ⟨ra, hT, hF⟩ := hwp
      refine r_if_eq C (tgt := 102) dX8_fits_74 rfl ra (fun hc => ?_) (fun hc => ?_)
      · have hwp := hT hc
        exact b_X8_fits_102 C hA hR ih hwp hw (lh_mask hl [true, true, true, true, true, true])
      · have hwp := hF hc
        refine r_aload_n C dX8_fits_77 hl rfl ?_
        refine r_iload C dX8_fits_78 hl rfl ?_
        refine r_cI0 hA hw (run_v0 C hw clX8 rfl (c_X8_fitsLast hwp) (cwV 1 C.2.2.2.2.1 gX8_fits_X8_fitsLast rfl rfl rfl hd_X8_fitsLast ⟨Nat.le_of_ble_eq_true rfl, Nat.le_of_ble_eq_true rfl⟩) rfl rfl rfl hl dX8_fits_80 ⟨Nat.zero_le _, Nat.zero_le _⟩) (fun r σ H locs hwp hw => ?_)
        obtain ⟨ra, hT, hF⟩ := hwp
        refine r_if_eq C (tgt := 102) dX8_fits_83 rfl ra (fun hc => ?_) (fun hc => ?_)
        · have hwp := hT hc
          exact b_X8_fits_102 C hA hR ih hwp hw (lh_mask hl [true, true, true, true, true, true])
        · have hwp := hF hc
          refine r_iinc C dX8_fits_86 hl rfl (Nat.le_of_ble_eq_true rfl) rfl (fun ls hl => ?_)
          refine r_iload_n C dX8_fits_89 hl rfl ?_
          refine r_bipush C dX8_fits_90 bpb_m5 ?_
          obtain ⟨ra, hT, hF⟩ := hwp
          refine r_icmp_ne C (tgt := 100) dX8_fits_92 rfl ra (by decide) (fun hc => ?_) (fun hc => ?_)
          · have hwp := hT hc
            refine r_iload_n C dX8_fits_100 hl rfl ?_
            exact b_X8_fits_101 C hA hR ih hwp hw (lh_mask hl [true, true, true, false, true, true])
          · have hwp := hF hc
            refine r_iload C dX8_fits_95 hl rfl ?_
            refine r_goto C (tgt := 101) dX8_fits_97 rfl ?_
            exact b_X8_fits_101 C hA hR ih hwp hw (lh_mask hl [true, true, true, false, true, true])
set_option maxRecDepth 100000 in
theorem b_X8_fits_50 {post : Int → St → Prop} (C : cx p s m args meth c wsX8_fits RX8 cX8_fits 6 (some .int) D cA) (hA : ∀ q, s.heap.size ≤ q → A q) (hR : RtI p l e rm_X8_fits s m args below meth c Q cX8_fits D cA K_BT h A (fun _ => True) post) : ∀ {v1 v2 v3 s0 : Int} {σ : St} {H : Heap} {locs : List Loc} {ls : Array Slot}, wp_X8_fits_50 post v1 v2 v3 s0 σ → wd D cA K_BT h σ A s.heap H locs → lh ls 6 [some (.ref (h 0)), some (iv v1), some (iv v2), some (iv v3), none, none] → W p l e rm_X8_fits s m args below meth c H locs 0 0 Q (F0 m 50 ls [iv s0]) := by
  intro v1 v2 v3 s0 σ H locs ls hwp hw hl
  refine r_istore C dX8_fits_50 hl (Nat.le_of_ble_eq_true rfl) (Nat.le_of_ble_eq_true rfl) rfl (fun ls hl => ?_)
  refine r_const C dX8_fits_52 ?_
  refine r_istore C dX8_fits_53 hl (Nat.le_of_ble_eq_true rfl) (Nat.le_of_ble_eq_true rfl) rfl (fun ls hl => ?_)
  obtain ⟨n9, hwp⟩ := hwp
  exact b_X8_fits_55 C hA hR n9 hwp hw (lh_mask hl [true, true, true, true, true, true])
set_option maxRecDepth 100000 in
theorem b_X8_fits_11 {post : Int → St → Prop} (C : cx p s m args meth c wsX8_fits RX8 cX8_fits 6 (some .int) D cA) (hA : ∀ q, s.heap.size ≤ q → A q) (hR : RtI p l e rm_X8_fits s m args below meth c Q cX8_fits D cA K_BT h A (fun _ => True) post) : ∀ {v1 : Int} {σ : St} {H : Heap} {locs : List Loc} {ls : Array Slot}, wp_X8_fits_11 post v1 σ → wd D cA K_BT h σ A s.heap H locs → lh ls 6 [some (.ref (h 0)), some (iv v1), none, none, none, none] → W p l e rm_X8_fits s m args below meth c H locs 0 0 Q (F0 m 11 ls []) := by
  intro v1 σ H locs ls hwp hw hl
  refine r_const C dX8_fits_11 ?_
  refine r_istore_n C dX8_fits_12 hl (Nat.le_of_ble_eq_true rfl) (Nat.le_of_ble_eq_true rfl) rfl (fun ls hl => ?_)
  refine r_bipush C dX8_fits_13 bpb_m5 ?_
  refine r_istore_n C dX8_fits_15 hl (Nat.le_of_ble_eq_true rfl) (Nat.le_of_ble_eq_true rfl) rfl (fun ls hl => ?_)
  refine r_aload_n C dX8_fits_16 hl rfl ?_
  refine r_getr C hw clX8 0 rfl 2 33 rfl (Nat.le_of_ble_eq_true rfl) hi_X8_fits_X8 hf_X8_fits_21 dX8_fits_17 ?_
  refine r_aload_n C dX8_fits_20 hl rfl ?_
  refine r_getr C hw clX8 0 rfl 0 1 rfl (Nat.le_of_ble_eq_true rfl) hi_X8_fits_X8 hf_X8_fits_14 dX8_fits_21 ?_
  refine r_cV hA hw sb_BT_Setup2_33_29 (run_v C hw sb_BT_Setup2_33_29 clX4 rfl (c_X4_copyFrom hwp) (cwV 1 C.2.2.2.2.1 gX8_fits_X4_copyFrom rfl rfl rfl hd_X4_copyFrom ⟨Nat.le_of_ble_eq_true rfl, Nat.le_of_ble_eq_true rfl⟩) rfl rfl rfl hl dX8_fits_24 ⟨Nat.zero_le _, Nat.zero_le _⟩) (fun σ H locs hwp hw => ?_)
  have hwp := hwp _ rfl
  refine r_aload_n C dX8_fits_27 hl rfl ?_
  refine r_getr C hw clX8 0 rfl 0 1 rfl (Nat.le_of_ble_eq_true rfl) hi_X8_fits_X8 hf_X8_fits_14 dX8_fits_28 ?_
  refine r_get C hw clX4 1 rfl 2 2 rfl rfl (Nat.le_of_ble_eq_true rfl) hi_X8_fits_X4 hf_X8_fits_80 dX8_fits_31 ?_
  obtain ⟨ra, hT, hF⟩ := hwp
  refine r_if_le C (tgt := 49) dX8_fits_34 rfl ra (fun hc => ?_) (fun hc => ?_)
  · have hwp := hT hc
    refine r_const C dX8_fits_49 ?_
    exact b_X8_fits_50 C hA hR hwp hw (lh_mask hl [true, true, true, true, false, false])
  · have hwp := hF hc
    refine r_const C dX8_fits_37 ?_
    refine r_aload_n C dX8_fits_38 hl rfl ?_
    refine r_getr C hw clX8 0 rfl 0 1 rfl (Nat.le_of_ble_eq_true rfl) hi_X8_fits_X8 hf_X8_fits_14 dX8_fits_39 ?_
    refine r_get C hw clX4 1 rfl 0 0 rfl rfl (Nat.le_of_ble_eq_true rfl) hi_X8_fits_X4 hf_X8_fits_62 dX8_fits_42 ?_
    refine r_ishl C dX8_fits_45 ?_
    refine r_goto C (tgt := 50) dX8_fits_46 rfl ?_
    exact b_X8_fits_50 C hA hR hwp hw (lh_mask hl [true, true, true, true, false, false])
set_option maxRecDepth 100000 in
theorem b_X8_fits_0 {post : Int → St → Prop} (C : cx p s m args meth c wsX8_fits RX8 cX8_fits 6 (some .int) D cA) (hA : ∀ q, s.heap.size ≤ q → A q) (hR : RtI p l e rm_X8_fits s m args below meth c Q cX8_fits D cA K_BT h A (fun _ => True) post) : ∀ {v1 : Int} {σ : St} {H : Heap} {locs : List Loc} {ls : Array Slot}, wp_X8_fits σ v1 post → wd D cA K_BT h σ A s.heap H locs → lh ls 6 [some (.ref (h 0)), some (iv v1), none, none, none, none] → W p l e rm_X8_fits s m args below meth c H locs 0 0 Q (F0 m 0 ls []) := by
  intro v1 σ H locs ls hwp hw hl
  refine r_iload_n C dX8_fits_0 hl rfl ?_
  obtain ⟨ra, hT, hF⟩ := hwp
  refine r_if_eq C (tgt := 11) dX8_fits_1 rfl ra (fun hc => ?_) (fun hc => ?_)
  · have hwp := hT hc
    exact b_X8_fits_11 C hA hR hwp hw (lh_mask hl [true, true, false, false, false, false])
  · have hwp := hF hc
    refine r_iload_n C dX8_fits_4 hl rfl ?_
    refine r_const C dX8_fits_5 ?_
    obtain ⟨ra, hT, hF⟩ := hwp
    refine r_icmp_eq C (tgt := 11) dX8_fits_6 rfl ra (by decide) (fun hc => ?_) (fun hc => ?_)
    · have hwp := hT hc
      exact b_X8_fits_11 C hA hR hwp hw (lh_mask hl [true, true, false, false, false, false])
    · have hwp := hF hc
      refine r_const C dX8_fits_9 ?_
      exact hR _ _ _ _ _ _ dX8_fits_10 trivial hwp hw
set_option maxRecDepth 100000 in
theorem c_X8_fits {l : Launch} {D : va_G} {cA : FieldType → ClassId} {h : Nat → Nat} {σ : St} {sz : Nat} {v1 : Int} {post : Int → St → Prop} (hwp : wp_X8_fits σ v1 post) : Met l yX8_fits wsX8_fits rm_X8_fits (va_Pc [.ref (h 0), iv v1] (preS D cA K_BT h σ sz)) (QI D cA K_BT h sz post) 0 0 (aA K_BT.length h sz) := by
  refine mk_met (cc := cX8_fits) (nL := 6) (ret := (some .int)) (own := RX8) 4 (by decide) rfl rfl rfl rfl ?_
  intro p e s m args below meth c ls hsz C hw hl hA
  subst hsz
  exact b_X8_fits_0 C hA (rt_i C _) hwp hw hl
-- X8_isPart
def rm_X8_isPart : Room := { frames := 0, cells := 0, slots := 0, locals := 0 }
set_option maxRecDepth 100000 in
theorem b_X8_isPart_9 {σ : St} {post : Int → Prop} (C : cx p s m args meth c wsX8_isPart RX8 cX8_isPart 1 (some .boolean) D cA) (hA : ∀ q, s.heap.size ≤ q → A q) (hR : RtI p l e rm_X8_isPart s m args below meth c Q cX8_isPart D cA K_0 h A (fun x => x = 0 ∨ x = 1) (fun r σ' => σ' = σ ∧ post r)) : ∀ {H : Heap} {locs : List Loc} {ls : Array Slot}, wp_X8_isPart_9 post → wd D cA K_0 h σ A s.heap H locs → lh ls 1 [none] → W p l e rm_X8_isPart s m args below meth c H locs 0 0 Q (F0 m 9 ls []) := by
  intro H locs ls hwp hw hl
  refine r_const C dX8_isPart_9 ?_
  refine r_goto C (tgt := 14) dX8_isPart_10 rfl ?_
  exact hR _ _ _ _ _ _ dX8_isPart_14 (Or.inr rfl) ⟨rfl, hwp⟩ hw
set_option maxRecDepth 100000 in
theorem b_X8_isPart_0 {σ : St} {post : Int → Prop} (C : cx p s m args meth c wsX8_isPart RX8 cX8_isPart 1 (some .boolean) D cA) (hA : ∀ q, s.heap.size ≤ q → A q) (hR : RtI p l e rm_X8_isPart s m args below meth c Q cX8_isPart D cA K_0 h A (fun x => x = 0 ∨ x = 1) (fun r σ' => σ' = σ ∧ post r)) : ∀ {v0 : Int} {H : Heap} {locs : List Loc} {ls : Array Slot}, wp_X8_isPart v0 post → wd D cA K_0 h σ A s.heap H locs → lh ls 1 [some (iv v0)] → W p l e rm_X8_isPart s m args below meth c H locs 0 0 Q (F0 m 0 ls []) := by
  intro v0 H locs ls hwp hw hl
  refine r_iload_n C dX8_isPart_0 hl rfl ?_
  obtain ⟨ra, hT, hF⟩ := hwp
  refine r_if_eq C (tgt := 9) dX8_isPart_1 rfl ra (fun hc => ?_) (fun hc => ?_)
  · have hwp := hT hc
    exact b_X8_isPart_9 C hA hR hwp hw (lh_mask hl [false])
  · have hwp := hF hc
    refine r_iload_n C dX8_isPart_4 hl rfl ?_
    refine r_const C dX8_isPart_5 ?_
    obtain ⟨ra, hT, hF⟩ := hwp
    refine r_icmp_ne C (tgt := 13) dX8_isPart_6 rfl ra (by decide) (fun hc => ?_) (fun hc => ?_)
    · have hwp := hT hc
      refine r_const C dX8_isPart_13 ?_
      exact hR _ _ _ _ _ _ dX8_isPart_14 (Or.inl rfl) ⟨rfl, hwp⟩ hw
    · have hwp := hF hc
      exact b_X8_isPart_9 C hA hR hwp hw (lh_mask hl [false])
set_option maxRecDepth 100000 in
theorem c_X8_isPart {l : Launch} {D : va_G} {cA : FieldType → ClassId} {h : Nat → Nat} {σ : St} {sz : Nat} {v0 : Int} {post : Int → Prop} (hwp : wp_X8_isPart v0 post) : Met l yX8_isPart wsX8_isPart rm_X8_isPart (va_Pc [iv v0] (preS D cA K_0 h σ sz)) (QI D cA K_0 h sz (fun r σ' => σ' = σ ∧ post r)) 0 0 (aA K_0.length h sz) := by
  refine mk_met (cc := cX8_isPart) (nL := 1) (ret := (some .boolean)) (own := RX8) 0 (by decide) rfl rfl rfl rfl ?_
  intro p e s m args below meth c ls hsz C hw hl hA
  subst hsz
  exact b_X8_isPart_0 C hA (rt_z C _) hwp hw hl
-- X8_lowestTerms
def rm_X8_lowestTerms : Room := { frames := 0, cells := 0, slots := 0, locals := 0 }
set_option maxRecDepth 100000 in
theorem b_X8_lowestTerms_39 {σ : St} {post : Int → Prop} (C : cx p s m args meth c wsX8_lowestTerms RX8 cX8_lowestTerms 5 (some .long) D cA) (hA : ∀ q, s.heap.size ≤ q → A q) (hR : RtL p l e rm_X8_lowestTerms s m args below meth c Q cX8_lowestTerms D cA K_0 h A (fun r σ' => σ' = σ ∧ post r)) {k13 : Int → Int → Int → Int → Prop} (hk13 : ∀ {v0 v1 v3 v4 : Int} {H : Heap} {locs : List Loc} {ls : Array Slot}, k13 v0 v1 v3 v4 → wd D cA K_0 h σ A s.heap H locs → lh ls 5 [some (iv v0), some (iv v1), none, some (iv v3), some (iv v4)] → W p l e rm_X8_lowestTerms s m args below meth c H locs 0 0 Q (F0 m 13 ls [])) : ∀ {v0 v1 v3 v4 : Int} {H : Heap} {locs : List Loc} {ls : Array Slot}, wp_X8_lowestTerms_39 k13 post v0 v1 v3 v4 → wd D cA K_0 h σ A s.heap H locs → lh ls 5 [some (iv v0), some (iv v1), none, some (iv v3), some (iv v4)] → W p l e rm_X8_lowestTerms s m args below meth c H locs 0 0 Q (F0 m 39 ls []) := by
  intro v0 v1 v3 v4 H locs ls hwp hw hl
  refine r_iinc C dX8_lowestTerms_39 hl rfl (Nat.le_of_ble_eq_true rfl) rfl (fun ls hl => ?_)
  refine r_goto C (tgt := 13) dX8_lowestTerms_42 rfl ?_
  exact hk13 hwp hw (lh_mask hl [true, true, false, true, true])
set_option maxRecDepth 100000 in
theorem b_X8_lowestTerms_13 {σ : St} {post : Int → Prop} (C : cx p s m args meth c wsX8_lowestTerms RX8 cX8_lowestTerms 5 (some .long) D cA) (hA : ∀ q, s.heap.size ≤ q → A q) (hR : RtL p l e rm_X8_lowestTerms s m args below meth c Q cX8_lowestTerms D cA K_0 h A (fun r σ' => σ' = σ ∧ post r)) : ∀ (n : Nat) {v0 v1 v3 v4 : Int} {H : Heap} {locs : List Loc} {ls : Array Slot}, wp_X8_lowestTerms_13 post n v0 v1 v3 v4 → wd D cA K_0 h σ A s.heap H locs → lh ls 5 [some (iv v0), some (iv v1), none, some (iv v3), some (iv v4)] → W p l e rm_X8_lowestTerms s m args below meth c H locs 0 0 Q (F0 m 13 ls []) := by
  intro n; induction n with
  | zero => intros; rename_i hwp _ _; exact hwp.elim
  | succ n ih =>
    intro v0 v1 v3 v4 H locs ls hwp hw hl
    refine r_iload C dX8_lowestTerms_13 hl rfl ?_
    refine r_const C dX8_lowestTerms_15 ?_
    obtain ⟨ra, hT, hF⟩ := hwp
    refine r_icmp_le C (tgt := 45) dX8_lowestTerms_16 rfl ra (by decide) (fun hc => ?_) (fun hc => ?_)
    · have hwp := hT hc
      refine r_iload_n C dX8_lowestTerms_45 hl rfl ?_
      obtain ⟨ra, hwp⟩ := hwp
      refine r_i2l C dX8_lowestTerms_46 ra ?_
      exact hR _ _ _ _ _ _ dX8_lowestTerms_47 ⟨rfl, hwp⟩ hw
    · have hwp := hF hc
      refine r_iload_n C dX8_lowestTerms_19 hl rfl ?_
      refine r_iload C dX8_lowestTerms_20 hl rfl ?_
      obtain ⟨ra, rb, r0, hwp⟩ := hwp
      refine r_irem C dX8_lowestTerms_22 ra rb r0 ?_
      obtain ⟨ra, hT, hF⟩ := hwp
      refine r_if_ne C (tgt := 39) dX8_lowestTerms_23 rfl ra (fun hc => ?_) (fun hc => ?_)
      · have hwp := hT hc
        exact b_X8_lowestTerms_39 C hA hR ih hwp hw (lh_mask hl [true, true, false, true, true])
      · have hwp := hF hc
        refine r_iload_n C dX8_lowestTerms_26 hl rfl ?_
        refine r_iload C dX8_lowestTerms_27 hl rfl ?_
        obtain ⟨ra, rb, r0, hwp⟩ := hwp
        refine r_irem C dX8_lowestTerms_29 ra rb r0 ?_
        obtain ⟨ra, hT, hF⟩ := hwp
        refine r_if_ne C (tgt := 39) dX8_lowestTerms_30 rfl ra (fun hc => ?_) (fun hc => ?_)
        · have hwp := hT hc
          exact b_X8_lowestTerms_39 C hA hR ih hwp hw (lh_mask hl [true, true, false, true, true])
        · have hwp := hF hc
          refine r_iload_n C dX8_lowestTerms_33 hl rfl ?_
          refine r_iload C dX8_lowestTerms_34 hl rfl ?_
          obtain ⟨ra, rb, r0, hwp⟩ := hwp
          refine r_idiv C dX8_lowestTerms_36 ra rb r0 ?_
          obtain ⟨ra, hwp⟩ := hwp
          refine r_i2l C dX8_lowestTerms_37 ra ?_
          exact hR _ _ _ _ _ _ dX8_lowestTerms_38 ⟨rfl, hwp⟩ hw
set_option maxRecDepth 100000 in
theorem b_X8_lowestTerms_9 {σ : St} {post : Int → Prop} (C : cx p s m args meth c wsX8_lowestTerms RX8 cX8_lowestTerms 5 (some .long) D cA) (hA : ∀ q, s.heap.size ≤ q → A q) (hR : RtL p l e rm_X8_lowestTerms s m args below meth c Q cX8_lowestTerms D cA K_0 h A (fun r σ' => σ' = σ ∧ post r)) : ∀ {v0 v1 s0 : Int} {H : Heap} {locs : List Loc} {ls : Array Slot}, wp_X8_lowestTerms_9 post v0 v1 s0 → wd D cA K_0 h σ A s.heap H locs → lh ls 5 [some (iv v0), some (iv v1), none, none, none] → W p l e rm_X8_lowestTerms s m args below meth c H locs 0 0 Q (F0 m 9 ls [iv s0]) := by
  intro v0 v1 s0 H locs ls hwp hw hl
  refine r_istore_n C dX8_lowestTerms_9 hl (Nat.le_of_ble_eq_true rfl) (Nat.le_of_ble_eq_true rfl) rfl (fun ls hl => ?_)
  refine r_iload_n C dX8_lowestTerms_10 hl rfl ?_
  refine r_istore C dX8_lowestTerms_11 hl (Nat.le_of_ble_eq_true rfl) (Nat.le_of_ble_eq_true rfl) rfl (fun ls hl => ?_)
  obtain ⟨n9, hwp⟩ := hwp
  exact b_X8_lowestTerms_13 C hA hR n9 hwp hw (lh_mask hl [true, true, false, true, true])
set_option maxRecDepth 100000 in
theorem b_X8_lowestTerms_0 {σ : St} {post : Int → Prop} (C : cx p s m args meth c wsX8_lowestTerms RX8 cX8_lowestTerms 5 (some .long) D cA) (hA : ∀ q, s.heap.size ≤ q → A q) (hR : RtL p l e rm_X8_lowestTerms s m args below meth c Q cX8_lowestTerms D cA K_0 h A (fun r σ' => σ' = σ ∧ post r)) : ∀ {v0 v1 v2 : Int} {H : Heap} {locs : List Loc} {ls : Array Slot}, wp_X8_lowestTerms v0 v1 v2 post → wd D cA K_0 h σ A s.heap H locs → lh ls 5 [some (iv v0), some (iv v1), some (iv v2), none, none] → W p l e rm_X8_lowestTerms s m args below meth c H locs 0 0 Q (F0 m 0 ls []) := by
  intro v0 v1 v2 H locs ls hwp hw hl
  refine r_iload_n C dX8_lowestTerms_0 hl rfl ?_
  obtain ⟨ra, hT, hF⟩ := hwp
  refine r_if_ne C (tgt := 8) dX8_lowestTerms_1 rfl ra (fun hc => ?_) (fun hc => ?_)
  · have hwp := hT hc
    refine r_iload_n C dX8_lowestTerms_8 hl rfl ?_
    exact b_X8_lowestTerms_9 C hA hR hwp hw (lh_mask hl [true, true, false, false, false])
  · have hwp := hF hc
    refine r_iload_n C dX8_lowestTerms_4 hl rfl ?_
    refine r_goto C (tgt := 9) dX8_lowestTerms_5 rfl ?_
    exact b_X8_lowestTerms_9 C hA hR hwp hw (lh_mask hl [true, true, false, false, false])
set_option maxRecDepth 100000 in
theorem c_X8_lowestTerms {l : Launch} {D : va_G} {cA : FieldType → ClassId} {h : Nat → Nat} {σ : St} {sz : Nat} {v0 v1 v2 : Int} {post : Int → Prop} (hwp : wp_X8_lowestTerms v0 v1 v2 post) : Met l yX8_lowestTerms wsX8_lowestTerms rm_X8_lowestTerms (va_Pc [iv v0, iv v1, iv v2] (preS D cA K_0 h σ sz)) (QL D cA K_0 h sz (fun r σ' => σ' = σ ∧ post r)) 0 0 (aA K_0.length h sz) := by
  refine mk_met (cc := cX8_lowestTerms) (nL := 5) (ret := (some .long)) (own := RX8) 2 (by decide) rfl rfl rfl rfl ?_
  intro p e s m args below meth c ls hsz C hw hl hA
  subst hsz
  exact b_X8_lowestTerms_0 C hA (rt_l C _) hwp hw hl
-- X8_odds
theorem hi_X8_odds_X7 : ∀ w ∈ u_ws RX7 TX7 8, w ∈ wsX8_odds := by decide +kernel
theorem hi_X8_odds_X8 : ∀ w ∈ u_ws RX8 TX8 10, w ∈ wsX8_odds := by decide +kernel
theorem hf_X8_odds_156 : Cond.fieldLink RX8 156 (TX7 0).1 (TX7 0).2.1 (TX7 0).2.2.1 ∈ wsX8_odds := by decide +kernel
theorem hf_X8_odds_134 : Cond.fieldLink RX8 134 (TX7 1).1 (TX7 1).2.1 (TX7 1).2.2.1 ∈ wsX8_odds := by decide +kernel
theorem hf_X8_odds_27 : Cond.fieldLink RX8 27 (TX8 3).1 (TX8 3).2.1 (TX8 3).2.2.1 ∈ wsX8_odds := by decide +kernel
def rm_X8_odds : Room := { frames := 5, cells := 0, slots := 0, locals := 110 }
set_option maxRecDepth 100000 in
theorem b_X8_odds_23 {post : Int → St → Prop} (C : cx p s m args meth c wsX8_odds RX8 cX8_odds 7 (some .long) D cA) (hA : ∀ q, s.heap.size ≤ q → A q) (hR : RtL p l e rm_X8_odds s m args below meth c Q cX8_odds D cA K_BT h A post) : ∀ {σ : St} {H : Heap} {locs : List Loc} {ls : Array Slot}, wp_X8_odds_23 post σ → wd D cA K_BT h σ A s.heap H locs → lh ls 7 [none, none, none, none, none, none, none] → W p l e rm_X8_odds s m args below meth c H locs 0 0 Q (F0 m 23 ls []) := by
  intro σ H locs ls hwp hw hl
  refine r_ldc2 C (n := -9223372036854775808) (by decide +kernel) dX8_odds_23 ?_
  exact hR _ _ _ _ _ _ dX8_odds_26 hwp hw
set_option maxRecDepth 100000 in
theorem b_X8_odds_70 {post : Int → St → Prop} (C : cx p s m args meth c wsX8_odds RX8 cX8_odds 7 (some .long) D cA) (hA : ∀ q, s.heap.size ≤ q → A q) (hR : RtL p l e rm_X8_odds s m args below meth c Q cX8_odds D cA K_BT h A post) {k42 : Int → Int → Int → Int → Int → St → Prop} (hk42 : ∀ {v1 v2 v3 v5 v6 : Int} {σ : St} {H : Heap} {locs : List Loc} {ls : Array Slot}, k42 v1 v2 v3 v5 v6 σ → wd D cA K_BT h σ A s.heap H locs → lh ls 7 [some (.ref (h 0)), some (iv v1), some (iv v2), some (iv v3), some (.ref (h 50)), some (iv v5), some (iv v6)] → W p l e rm_X8_odds s m args below meth c H locs 0 0 Q (F0 m 42 ls [])) : ∀ {v1 v2 v3 v5 v6 : Int} {σ : St} {H : Heap} {locs : List Loc} {ls : Array Slot}, wp_X8_odds_70 k42 post v1 v2 v3 v5 v6 σ → wd D cA K_BT h σ A s.heap H locs → lh ls 7 [some (.ref (h 0)), some (iv v1), some (iv v2), some (iv v3), some (.ref (h 50)), some (iv v5), some (iv v6)] → W p l e rm_X8_odds s m args below meth c H locs 0 0 Q (F0 m 70 ls []) := by
  intro v1 v2 v3 v5 v6 σ H locs ls hwp hw hl
  refine r_iinc C dX8_odds_70 hl rfl (Nat.le_of_ble_eq_true rfl) rfl (fun ls hl => ?_)
  refine r_goto C (tgt := 42) dX8_odds_73 rfl ?_
  exact hk42 hwp hw (lh_mask hl [true, true, true, true, true, true, true])
set_option maxRecDepth 100000 in
theorem b_X8_odds_42 {post : Int → St → Prop} (C : cx p s m args meth c wsX8_odds RX8 cX8_odds 7 (some .long) D cA) (hA : ∀ q, s.heap.size ≤ q → A q) (hR : RtL p l e rm_X8_odds s m args below meth c Q cX8_odds D cA K_BT h A post) : ∀ (n : Nat) {v1 v2 v3 v5 v6 : Int} {σ : St} {H : Heap} {locs : List Loc} {ls : Array Slot}, wp_X8_odds_42 post n v1 v2 v3 v5 v6 σ → wd D cA K_BT h σ A s.heap H locs → lh ls 7 [some (.ref (h 0)), some (iv v1), some (iv v2), some (iv v3), some (.ref (h 50)), some (iv v5), some (iv v6)] → W p l e rm_X8_odds s m args below meth c H locs 0 0 Q (F0 m 42 ls []) := by
  intro n; induction n with
  | zero => intros; rename_i hwp _ _; exact hwp.elim
  | succ n ih =>
    intro v1 v2 v3 v5 v6 σ H locs ls hwp hw hl
    refine r_iload C dX8_odds_42 hl rfl ?_
    refine r_aload_n C dX8_odds_44 hl rfl ?_
    refine r_getr C hw clX8 0 rfl 3 49 rfl (Nat.le_of_ble_eq_true rfl) hi_X8_odds_X8 hf_X8_odds_27 dX8_odds_45 ?_
    refine r_get C hw clX7 49 rfl 1 1 rfl rfl (Nat.le_of_ble_eq_true rfl) hi_X8_odds_X7 hf_X8_odds_134 dX8_odds_48 ?_
    obtain ⟨ra, rb, hT, hF⟩ := hwp
    refine r_icmp_gt C (tgt := 76) dX8_odds_51 rfl ra rb (fun hc => ?_) (fun hc => ?_)
    · have hwp := hT hc
      refine r_iload C dX8_odds_76 hl rfl ?_
      refine r_aload_n C dX8_odds_78 hl rfl ?_
      refine r_getr C hw clX8 0 rfl 3 49 rfl (Nat.le_of_ble_eq_true rfl) hi_X8_odds_X8 hf_X8_odds_27 dX8_odds_79 ?_
      refine r_get C hw clX7 49 rfl 1 1 rfl rfl (Nat.le_of_ble_eq_true rfl) hi_X8_odds_X7 hf_X8_odds_134 dX8_odds_82 ?_
      refine r_const C dX8_odds_85 ?_
      refine r_iadd C dX8_odds_86 ?_
      refine r_iload_n C dX8_odds_87 hl rfl ?_
      refine r_cLr hA hw sb_BT_0_0_21 (run_s C hw sb_BT_0_0_21 (c_X8_lowestTerms hwp) (va_cwS 3 C.2.2.2.2.1 gX8_odds_X8_lowestTerms rfl rfl rfl hd_X8_lowestTerms ⟨Nat.le_of_ble_eq_true rfl, Nat.le_of_ble_eq_true rfl⟩) rfl rfl rfl hl dX8_odds_88 ⟨Nat.zero_le _, Nat.zero_le _⟩) (fun r H locs hwp hw => ?_)
      exact hR _ _ _ _ _ _ dX8_odds_91 hwp hw
    · have hwp := hF hc
      refine r_aload C dX8_odds_54 hl rfl ?_
      refine r_iload C dX8_odds_56 hl rfl ?_
      obtain ⟨h0, h1, hwp⟩ := hwp
      refine r_iald C hw 50 rfl rfl h0 h1 dX8_odds_58 ?_
      refine r_iload_n C dX8_odds_59 hl rfl ?_
      refine r_cIr hA hw sb_BT_0_0_21 (run_s C hw sb_BT_0_0_21 (c_X2_bellIn hwp) (va_cwS 2 C.2.2.2.2.1 gX8_odds_X2_bellIn rfl rfl rfl hd_X2_bellIn ⟨Nat.le_of_ble_eq_true rfl, Nat.le_of_ble_eq_true rfl⟩) rfl rfl rfl hl dX8_odds_60 ⟨Nat.zero_le _, Nat.zero_le _⟩) (fun r H locs hwp hw => ?_)
      refine r_iload_n C dX8_odds_63 hl rfl ?_
      obtain ⟨ra, rb, hT, hF⟩ := hwp
      refine r_icmp_ne C (tgt := 70) dX8_odds_64 rfl ra rb (fun hc => ?_) (fun hc => ?_)
      · have hwp := hT hc
        exact b_X8_odds_70 C hA hR ih hwp hw (lh_mask hl [true, true, true, true, true, true, true])
      · have hwp := hF hc
        refine r_iinc C dX8_odds_67 hl rfl (Nat.le_of_ble_eq_true rfl) rfl (fun ls hl => ?_)
        exact b_X8_odds_70 C hA hR ih hwp hw (lh_mask hl [true, true, true, true, true, true, true])
set_option maxRecDepth 100000 in
theorem b_X8_odds_0 {post : Int → St → Prop} (C : cx p s m args meth c wsX8_odds RX8 cX8_odds 7 (some .long) D cA) (hA : ∀ q, s.heap.size ≤ q → A q) (hR : RtL p l e rm_X8_odds s m args below meth c Q cX8_odds D cA K_BT h A post) : ∀ {v1 v2 v3 : Int} {σ : St} {H : Heap} {locs : List Loc} {ls : Array Slot}, wp_X8_odds σ v1 v2 v3 post → wd D cA K_BT h σ A s.heap H locs → lh ls 7 [some (.ref (h 0)), some (iv v1), some (iv v2), some (iv v3), none, none, none] → W p l e rm_X8_odds s m args below meth c H locs 0 0 Q (F0 m 0 ls []) := by
  intro v1 v2 v3 σ H locs ls hwp hw hl
  refine r_aload_n C dX8_odds_0 hl rfl ?_
  refine r_iload_n C dX8_odds_1 hl rfl ?_
  refine r_cIr0 hA hw (run_v0 C hw clX8 rfl (c_X8_isBell hwp) (cwV 1 C.2.2.2.2.1 gX8_odds_X8_isBell rfl rfl rfl hd_X8_isBell ⟨Nat.le_of_ble_eq_true rfl, Nat.le_of_ble_eq_true rfl⟩) rfl rfl rfl hl dX8_odds_2 ⟨Nat.zero_le _, Nat.zero_le _⟩) (fun r H locs hwp hw => ?_)
  obtain ⟨ra, hT, hF⟩ := hwp
  refine r_if_eq C (tgt := 23) dX8_odds_5 rfl ra (fun hc => ?_) (fun hc => ?_)
  · have hwp := hT hc
    exact b_X8_odds_23 C hA hR hwp hw (lh_mask hl [false, false, false, false, false, false, false])
  · have hwp := hF hc
    refine r_aload_n C dX8_odds_8 hl rfl ?_
    refine r_iload_n C dX8_odds_9 hl rfl ?_
    refine r_cIr0 hA hw (run_v0 C hw clX8 rfl (c_X8_isBell hwp) (cwV 1 C.2.2.2.2.1 gX8_odds_X8_isBell rfl rfl rfl hd_X8_isBell ⟨Nat.le_of_ble_eq_true rfl, Nat.le_of_ble_eq_true rfl⟩) rfl rfl rfl hl dX8_odds_10 ⟨Nat.zero_le _, Nat.zero_le _⟩) (fun r H locs hwp hw => ?_)
    obtain ⟨ra, hT, hF⟩ := hwp
    refine r_if_eq C (tgt := 23) dX8_odds_13 rfl ra (fun hc => ?_) (fun hc => ?_)
    · have hwp := hT hc
      exact b_X8_odds_23 C hA hR hwp hw (lh_mask hl [false, false, false, false, false, false, false])
    · have hwp := hF hc
      refine r_iload_n C dX8_odds_16 hl rfl ?_
      refine r_cIr hA hw sb_BT_0_0_21 (run_s C hw sb_BT_0_0_21 (c_X8_isPart hwp) (va_cwS 1 C.2.2.2.2.1 gX8_odds_X8_isPart rfl rfl rfl hd_X8_isPart ⟨Nat.le_of_ble_eq_true rfl, Nat.le_of_ble_eq_true rfl⟩) rfl rfl rfl hl dX8_odds_17 ⟨Nat.zero_le _, Nat.zero_le _⟩) (fun r H locs hwp hw => ?_)
      obtain ⟨ra, hT, hF⟩ := hwp
      refine r_if_ne C (tgt := 27) dX8_odds_20 rfl ra (fun hc => ?_) (fun hc => ?_)
      · have hwp := hT hc
        refine r_aload_n C dX8_odds_27 hl rfl ?_
        refine r_cR0 hA hw (run_v0 C hw clX8 rfl (c_X8_rung hwp) (cwV 0 C.2.2.2.2.1 gX8_odds_X8_rung rfl rfl rfl hd_X8_rung ⟨Nat.le_of_ble_eq_true rfl, Nat.le_of_ble_eq_true rfl⟩) rfl rfl rfl hl dX8_odds_28 ⟨Nat.zero_le _, Nat.zero_le _⟩) (fun σ H locs hwp hw => ?_)
        refine r_getr C hw clX7 49 rfl 0 50 rfl (Nat.le_of_ble_eq_true rfl) hi_X8_odds_X7 hf_X8_odds_156 dX8_odds_31 ?_
        refine r_astore C dX8_odds_34 hl (Nat.le_of_ble_eq_true rfl) (Nat.le_of_ble_eq_true rfl) rfl (fun ls hl => ?_)
        refine r_const C dX8_odds_36 ?_
        refine r_istore C dX8_odds_37 hl (Nat.le_of_ble_eq_true rfl) (Nat.le_of_ble_eq_true rfl) rfl (fun ls hl => ?_)
        refine r_const C dX8_odds_39 ?_
        refine r_istore C dX8_odds_40 hl (Nat.le_of_ble_eq_true rfl) (Nat.le_of_ble_eq_true rfl) rfl (fun ls hl => ?_)
        obtain ⟨n9, hwp⟩ := hwp
        exact b_X8_odds_42 C hA hR n9 hwp hw (lh_mask hl [true, true, true, true, true, true, true])
      · have hwp := hF hc
        exact b_X8_odds_23 C hA hR hwp hw (lh_mask hl [false, false, false, false, false, false, false])
set_option maxRecDepth 100000 in
theorem c_X8_odds {l : Launch} {D : va_G} {cA : FieldType → ClassId} {h : Nat → Nat} {σ : St} {sz : Nat} {v1 v2 v3 : Int} {post : Int → St → Prop} (hwp : wp_X8_odds σ v1 v2 v3 post) : Met l yX8_odds wsX8_odds rm_X8_odds (va_Pc [.ref (h 0), iv v1, iv v2, iv v3] (preS D cA K_BT h σ sz)) (QL D cA K_BT h sz post) 0 0 (aA K_BT.length h sz) := by
  refine mk_met (cc := cX8_odds) (nL := 7) (ret := (some .long)) (own := RX8) 3 (by decide) rfl rfl rfl rfl ?_
  intro p e s m args below meth c ls hsz C hw hl hA
  subst hsz
  exact b_X8_odds_0 C hA (rt_l C _) hwp hw hl
-- X8_mean
theorem hi_X8_mean_X7 : ∀ w ∈ u_ws RX7 TX7 8, w ∈ wsX8_mean := by decide +kernel
theorem hf_X8_mean_134 : Cond.fieldLink RX8 134 (TX7 1).1 (TX7 1).2.1 (TX7 1).2.2.1 ∈ wsX8_mean := by decide +kernel
def rm_X8_mean : Room := { frames := 6, cells := 0, slots := 0, locals := 134 }
set_option maxRecDepth 100000 in
theorem b_X8_mean_15 {post : Int → St → Prop} (C : cx p s m args meth c wsX8_mean RX8 cX8_mean 4 (some .long) D cA) (hA : ∀ q, s.heap.size ≤ q → A q) (hR : RtL p l e rm_X8_mean s m args below meth c Q cX8_mean D cA K_BT h A post) : ∀ (n : Nat) {v1 v2 v3 : Int} {σ : St} {H : Heap} {locs : List Loc} {ls : Array Slot}, wp_X8_mean_15 post n v1 v2 v3 σ → wd D cA K_BT h σ A s.heap H locs → lh ls 4 [some (.ref (h 0)), some (iv v1), some (iv v2), some (iv v3)] → W p l e rm_X8_mean s m args below meth c H locs 0 0 Q (F0 m 15 ls []) := by
  intro n; induction n with
  | zero => intros; rename_i hwp _ _; exact hwp.elim
  | succ n ih =>
    intro v1 v2 v3 σ H locs ls hwp hw hl
    refine r_iload_n C dX8_mean_15 hl rfl ?_
    refine r_const C dX8_mean_16 ?_
    obtain ⟨ra, hT, hF⟩ := hwp
    refine r_icmp_ge C (tgt := 34) dX8_mean_17 rfl ra (by decide) (fun hc => ?_) (fun hc => ?_)
    · have hwp := hT hc
      refine r_iload_n C dX8_mean_34 hl rfl ?_
      refine r_aload_n C dX8_mean_35 hl rfl ?_
      refine r_cR0 hA hw (run_v0 C hw clX8 rfl (c_X8_rung hwp) (cwV 0 C.2.2.2.2.1 gX8_mean_X8_rung rfl rfl rfl hd_X8_rung ⟨Nat.le_of_ble_eq_true rfl, Nat.le_of_ble_eq_true rfl⟩) rfl rfl rfl hl dX8_mean_36 ⟨Nat.zero_le _, Nat.zero_le _⟩) (fun σ H locs hwp hw => ?_)
      refine r_get C hw clX7 49 rfl 1 1 rfl rfl (Nat.le_of_ble_eq_true rfl) hi_X8_mean_X7 hf_X8_mean_134 dX8_mean_39 ?_
      refine r_const C dX8_mean_42 ?_
      refine r_iadd C dX8_mean_43 ?_
      refine r_iload_n C dX8_mean_44 hl rfl ?_
      refine r_cLr hA hw sb_BT_0_0_21 (run_s C hw sb_BT_0_0_21 (c_X8_lowestTerms hwp) (va_cwS 3 C.2.2.2.2.1 gX8_mean_X8_lowestTerms rfl rfl rfl hd_X8_lowestTerms ⟨Nat.le_of_ble_eq_true rfl, Nat.le_of_ble_eq_true rfl⟩) rfl rfl rfl hl dX8_mean_45 ⟨Nat.zero_le _, Nat.zero_le _⟩) (fun r H locs hwp hw => ?_)
      exact hR _ _ _ _ _ _ dX8_mean_48 hwp hw
    · have hwp := hF hc
      refine r_iload_n C dX8_mean_20 hl rfl ?_
      refine r_aload_n C dX8_mean_21 hl rfl ?_
      refine r_iload_n C dX8_mean_22 hl rfl ?_
      refine r_cI0 hA hw (run_v0 C hw clX8 rfl (c_X8_countMusic hwp) (cwV 1 C.2.2.2.2.1 gX8_mean_X8_countMusic rfl rfl rfl hd_X8_countMusic ⟨Nat.le_of_ble_eq_true rfl, Nat.le_of_ble_eq_true rfl⟩) rfl rfl rfl hl dX8_mean_23 ⟨Nat.zero_le _, Nat.zero_le _⟩) (fun r σ H locs hwp hw => ?_)
      refine r_iadd C dX8_mean_26 ?_
      refine r_istore_n C dX8_mean_27 hl (Nat.le_of_ble_eq_true rfl) (Nat.le_of_ble_eq_true rfl) rfl (fun ls hl => ?_)
      refine r_iinc C dX8_mean_28 hl rfl (Nat.le_of_ble_eq_true rfl) rfl (fun ls hl => ?_)
      refine r_goto C (tgt := 15) dX8_mean_31 rfl ?_
      exact ih hwp hw (lh_mask hl [true, true, true, true])
set_option maxRecDepth 100000 in
theorem b_X8_mean_0 {post : Int → St → Prop} (C : cx p s m args meth c wsX8_mean RX8 cX8_mean 4 (some .long) D cA) (hA : ∀ q, s.heap.size ≤ q → A q) (hR : RtL p l e rm_X8_mean s m args below meth c Q cX8_mean D cA K_BT h A post) : ∀ {v1 : Int} {σ : St} {H : Heap} {locs : List Loc} {ls : Array Slot}, wp_X8_mean σ v1 post → wd D cA K_BT h σ A s.heap H locs → lh ls 4 [some (.ref (h 0)), some (iv v1), none, none] → W p l e rm_X8_mean s m args below meth c H locs 0 0 Q (F0 m 0 ls []) := by
  intro v1 σ H locs ls hwp hw hl
  refine r_iload_n C dX8_mean_0 hl rfl ?_
  refine r_cIr hA hw sb_BT_0_0_21 (run_s C hw sb_BT_0_0_21 (c_X8_isPart hwp) (va_cwS 1 C.2.2.2.2.1 gX8_mean_X8_isPart rfl rfl rfl hd_X8_isPart ⟨Nat.le_of_ble_eq_true rfl, Nat.le_of_ble_eq_true rfl⟩) rfl rfl rfl hl dX8_mean_1 ⟨Nat.zero_le _, Nat.zero_le _⟩) (fun r H locs hwp hw => ?_)
  obtain ⟨ra, hT, hF⟩ := hwp
  refine r_if_ne C (tgt := 11) dX8_mean_4 rfl ra (fun hc => ?_) (fun hc => ?_)
  · have hwp := hT hc
    refine r_const C dX8_mean_11 ?_
    refine r_istore_n C dX8_mean_12 hl (Nat.le_of_ble_eq_true rfl) (Nat.le_of_ble_eq_true rfl) rfl (fun ls hl => ?_)
    refine r_const C dX8_mean_13 ?_
    refine r_istore_n C dX8_mean_14 hl (Nat.le_of_ble_eq_true rfl) (Nat.le_of_ble_eq_true rfl) rfl (fun ls hl => ?_)
    obtain ⟨n9, hwp⟩ := hwp
    exact b_X8_mean_15 C hA hR n9 hwp hw (lh_mask hl [true, true, true, true])
  · have hwp := hF hc
    refine r_ldc2 C (n := -9223372036854775808) (by decide +kernel) dX8_mean_7 ?_
    exact hR _ _ _ _ _ _ dX8_mean_10 hwp hw
set_option maxRecDepth 100000 in
theorem c_X8_mean {l : Launch} {D : va_G} {cA : FieldType → ClassId} {h : Nat → Nat} {σ : St} {sz : Nat} {v1 : Int} {post : Int → St → Prop} (hwp : wp_X8_mean σ v1 post) : Met l yX8_mean wsX8_mean rm_X8_mean (va_Pc [.ref (h 0), iv v1] (preS D cA K_BT h σ sz)) (QL D cA K_BT h sz post) 0 0 (aA K_BT.length h sz) := by
  refine mk_met (cc := cX8_mean) (nL := 4) (ret := (some .long)) (own := RX8) 2 (by decide) rfl rfl rfl rfl ?_
  intro p e s m args below meth c ls hsz C hw hl hA
  subst hsz
  exact b_X8_mean_0 C hA (rt_l C _) hwp hw hl
-- X8_event
theorem hi_X8_event_X1 : ∀ w ∈ u_ws RX1 TX1 4, w ∈ wsX8_event := by decide +kernel
theorem hi_X8_event_X4 : ∀ w ∈ u_ws RX4 TX4 11, w ∈ wsX8_event := by decide +kernel
theorem hi_X8_event_X8 : ∀ w ∈ u_ws RX8 TX8 10, w ∈ wsX8_event := by decide +kernel
theorem hf_X8_event_190 : Cond.fieldLink RX8 190 (TX1 3).1 (TX1 3).2.1 (TX1 3).2.2.1 ∈ wsX8_event := by decide +kernel
theorem hf_X8_event_213 : Cond.fieldLink RX8 213 (TX4 9).1 (TX4 9).2.1 (TX4 9).2.2.1 ∈ wsX8_event := by decide +kernel
theorem hf_X8_event_14 : Cond.fieldLink RX8 14 (TX8 0).1 (TX8 0).2.1 (TX8 0).2.2.1 ∈ wsX8_event := by decide +kernel
def rm_X8_event : Room := { frames := 1, cells := 0, slots := 0, locals := 23 }
set_option maxRecDepth 100000 in
theorem b_X8_event_80 {post : Int → St → Prop} (C : cx p s m args meth c wsX8_event RX8 cX8_event 3 (some .int) D cA) (hA : ∀ q, s.heap.size ≤ q → A q) (hR : RtI p l e rm_X8_event s m args below meth c Q cX8_event D cA K_BT h A (fun _ => True) post) : ∀ {v1 v2 : Int} {σ : St} {H : Heap} {locs : List Loc} {ls : Array Slot}, wp_X8_event_80 post v1 v2 σ → wd D cA K_BT h σ A s.heap H locs → lh ls 3 [some (.ref (h 0)), some (iv v1), some (iv v2)] → W p l e rm_X8_event s m args below meth c H locs 0 0 Q (F0 m 80 ls []) := by
  intro v1 v2 σ H locs ls hwp hw hl
  refine r_aload_n C dX8_event_80 hl rfl ?_
  refine r_getr C hw clX8 0 rfl 0 1 rfl (Nat.le_of_ble_eq_true rfl) hi_X8_event_X8 hf_X8_event_14 dX8_event_81 ?_
  refine r_getr C hw clX4 1 rfl 9 9 rfl (Nat.le_of_ble_eq_true rfl) hi_X8_event_X4 hf_X8_event_213 dX8_event_84 ?_
  refine r_iload_n C dX8_event_87 hl rfl ?_
  refine r_iload_n C dX8_event_88 hl rfl ?_
  refine r_const C dX8_event_89 ?_
  refine r_cI hA hw sb_BT_HR_9_30 (run_v C hw sb_BT_HR_9_30 clX1 rfl (c_X1_append rfl hwp) (cwV 3 C.2.2.2.2.1 gX8_event_X1_append rfl rfl rfl hd_X1_append ⟨Nat.le_of_ble_eq_true rfl, Nat.le_of_ble_eq_true rfl⟩) rfl rfl rfl hl dX8_event_90 ⟨Nat.zero_le _, Nat.zero_le _⟩) (fun r σ H locs hwp hw => ?_)
  have hwp := hwp _ rfl
  obtain ⟨ra, hT, hF⟩ := hwp
  refine r_if_eq C (tgt := 109) dX8_event_93 rfl ra (fun hc => ?_) (fun hc => ?_)
  · have hwp := hT hc
    refine r_bipush C dX8_event_109 bpb_m4 ?_
    exact hR _ _ _ _ _ _ dX8_event_111 trivial hwp hw
  · have hwp := hF hc
    refine r_aload_n C dX8_event_96 hl rfl ?_
    refine r_getr C hw clX8 0 rfl 0 1 rfl (Nat.le_of_ble_eq_true rfl) hi_X8_event_X8 hf_X8_event_14 dX8_event_97 ?_
    refine r_getr C hw clX4 1 rfl 9 9 rfl (Nat.le_of_ble_eq_true rfl) hi_X8_event_X4 hf_X8_event_213 dX8_event_100 ?_
    refine r_get C hw clX1 9 rfl 3 3 rfl rfl (Nat.le_of_ble_eq_true rfl) hi_X8_event_X1 hf_X8_event_190 dX8_event_103 ?_
    refine r_goto C (tgt := 111) dX8_event_106 rfl ?_
    exact hR _ _ _ _ _ _ dX8_event_111 trivial hwp hw
set_option maxRecDepth 100000 in
theorem b_X8_event_61 {post : Int → St → Prop} (C : cx p s m args meth c wsX8_event RX8 cX8_event 3 (some .int) D cA) (hA : ∀ q, s.heap.size ≤ q → A q) (hR : RtI p l e rm_X8_event s m args below meth c Q cX8_event D cA K_BT h A (fun _ => True) post) : ∀ {v1 v2 : Int} {σ : St} {H : Heap} {locs : List Loc} {ls : Array Slot}, wp_X8_event_61 post v1 v2 σ → wd D cA K_BT h σ A s.heap H locs → lh ls 3 [some (.ref (h 0)), some (iv v1), some (iv v2)] → W p l e rm_X8_event s m args below meth c H locs 0 0 Q (F0 m 61 ls []) := by
  intro v1 v2 σ H locs ls hwp hw hl
  refine r_iload_n C dX8_event_61 hl rfl ?_
  refine r_const C dX8_event_62 ?_
  obtain ⟨ra, hT, hF⟩ := hwp
  refine r_icmp_ne C (tgt := 80) dX8_event_63 rfl ra (by decide) (fun hc => ?_) (fun hc => ?_)
  · have hwp := hT hc
    exact b_X8_event_80 C hA hR hwp hw (lh_mask hl [true, true, true])
  · have hwp := hF hc
    refine r_iload_n C dX8_event_66 hl rfl ?_
    refine r_const C dX8_event_67 ?_
    obtain ⟨ra, hT, hF⟩ := hwp
    refine r_icmp_lt C (tgt := 77) dX8_event_68 rfl ra (by decide) (fun hc => ?_) (fun hc => ?_)
    · have hwp := hT hc
      refine r_bipush C dX8_event_77 bpb_m2 ?_
      exact hR _ _ _ _ _ _ dX8_event_79 trivial hwp hw
    · have hwp := hF hc
      refine r_iload_n C dX8_event_71 hl rfl ?_
      refine r_bipush C dX8_event_72 bpb_12 ?_
      obtain ⟨ra, hT, hF⟩ := hwp
      refine r_icmp_le C (tgt := 80) dX8_event_74 rfl ra (by decide) (fun hc => ?_) (fun hc => ?_)
      · have hwp := hT hc
        exact b_X8_event_80 C hA hR hwp hw (lh_mask hl [true, true, true])
      · have hwp := hF hc
        refine r_bipush C dX8_event_77 bpb_m2 ?_
        exact hR _ _ _ _ _ _ dX8_event_79 trivial hwp hw
set_option maxRecDepth 100000 in
theorem b_X8_event_43 {post : Int → St → Prop} (C : cx p s m args meth c wsX8_event RX8 cX8_event 3 (some .int) D cA) (hA : ∀ q, s.heap.size ≤ q → A q) (hR : RtI p l e rm_X8_event s m args below meth c Q cX8_event D cA K_BT h A (fun _ => True) post) : ∀ {v1 v2 : Int} {σ : St} {H : Heap} {locs : List Loc} {ls : Array Slot}, wp_X8_event_43 post v1 v2 σ → wd D cA K_BT h σ A s.heap H locs → lh ls 3 [some (.ref (h 0)), some (iv v1), some (iv v2)] → W p l e rm_X8_event s m args below meth c H locs 0 0 Q (F0 m 43 ls []) := by
  intro v1 v2 σ H locs ls hwp hw hl
  refine r_iload_n C dX8_event_43 hl rfl ?_
  refine r_const C dX8_event_44 ?_
  obtain ⟨ra, hT, hF⟩ := hwp
  refine r_icmp_ne C (tgt := 61) dX8_event_45 rfl ra (by decide) (fun hc => ?_) (fun hc => ?_)
  · have hwp := hT hc
    exact b_X8_event_61 C hA hR hwp hw (lh_mask hl [true, true, true])
  · have hwp := hF hc
    refine r_iload_n C dX8_event_48 hl rfl ?_
    obtain ⟨ra, hT, hF⟩ := hwp
    refine r_if_lt C (tgt := 58) dX8_event_49 rfl ra (fun hc => ?_) (fun hc => ?_)
    · have hwp := hT hc
      refine r_bipush C dX8_event_58 bpb_m2 ?_
      exact hR _ _ _ _ _ _ dX8_event_60 trivial hwp hw
    · have hwp := hF hc
      refine r_iload_n C dX8_event_52 hl rfl ?_
      refine r_bipush C dX8_event_53 bpb_16 ?_
      obtain ⟨ra, hT, hF⟩ := hwp
      refine r_icmp_le C (tgt := 61) dX8_event_55 rfl ra (by decide) (fun hc => ?_) (fun hc => ?_)
      · have hwp := hT hc
        exact b_X8_event_61 C hA hR hwp hw (lh_mask hl [true, true, true])
      · have hwp := hF hc
        refine r_bipush C dX8_event_58 bpb_m2 ?_
        exact hR _ _ _ _ _ _ dX8_event_60 trivial hwp hw
set_option maxRecDepth 100000 in
theorem b_X8_event_0 {post : Int → St → Prop} (C : cx p s m args meth c wsX8_event RX8 cX8_event 3 (some .int) D cA) (hA : ∀ q, s.heap.size ≤ q → A q) (hR : RtI p l e rm_X8_event s m args below meth c Q cX8_event D cA K_BT h A (fun _ => True) post) : ∀ {v1 v2 : Int} {σ : St} {H : Heap} {locs : List Loc} {ls : Array Slot}, wp_X8_event σ v1 v2 post → wd D cA K_BT h σ A s.heap H locs → lh ls 3 [some (.ref (h 0)), some (iv v1), some (iv v2)] → W p l e rm_X8_event s m args below meth c H locs 0 0 Q (F0 m 0 ls []) := by
  intro v1 v2 σ H locs ls hwp hw hl
  refine r_iload_n C dX8_event_0 hl rfl ?_
  refine r_const C dX8_event_1 ?_
  obtain ⟨ra, hT, hF⟩ := hwp
  refine r_icmp_ne C (tgt := 18) dX8_event_2 rfl ra (by decide) (fun hc => ?_) (fun hc => ?_)
  · have hwp := hT hc
    refine r_iload_n C dX8_event_18 hl rfl ?_
    obtain ⟨ra, hT, hF⟩ := hwp
    refine r_if_lt C (tgt := 27) dX8_event_19 rfl ra (fun hc => ?_) (fun hc => ?_)
    · have hwp := hT hc
      refine r_const C dX8_event_27 ?_
      exact hR _ _ _ _ _ _ dX8_event_28 trivial hwp hw
    · have hwp := hF hc
      refine r_iload_n C dX8_event_22 hl rfl ?_
      refine r_const C dX8_event_23 ?_
      obtain ⟨ra, hT, hF⟩ := hwp
      refine r_icmp_le C (tgt := 29) dX8_event_24 rfl ra (by decide) (fun hc => ?_) (fun hc => ?_)
      · have hwp := hT hc
        refine r_iload_n C dX8_event_29 hl rfl ?_
        refine r_const C dX8_event_30 ?_
        obtain ⟨ra, hT, hF⟩ := hwp
        refine r_icmp_gt C (tgt := 43) dX8_event_31 rfl ra (by decide) (fun hc => ?_) (fun hc => ?_)
        · have hwp := hT hc
          exact b_X8_event_43 C hA hR hwp hw (lh_mask hl [true, true, true])
        · have hwp := hF hc
          refine r_iload_n C dX8_event_34 hl rfl ?_
          refine r_cIr hA hw sb_BT_0_0_21 (run_s C hw sb_BT_0_0_21 (c_X8_isLead hwp) (va_cwS 1 C.2.2.2.2.1 gX8_event_X8_isLead rfl rfl rfl hd_X8_isLead ⟨Nat.le_of_ble_eq_true rfl, Nat.le_of_ble_eq_true rfl⟩) rfl rfl rfl hl dX8_event_35 ⟨Nat.zero_le _, Nat.zero_le _⟩) (fun r H locs hwp hw => ?_)
          obtain ⟨ra, hT, hF⟩ := hwp
          refine r_if_ne C (tgt := 43) dX8_event_38 rfl ra (fun hc => ?_) (fun hc => ?_)
          · have hwp := hT hc
            exact b_X8_event_43 C hA hR hwp hw (lh_mask hl [true, true, true])
          · have hwp := hF hc
            refine r_const C dX8_event_41 ?_
            exact hR _ _ _ _ _ _ dX8_event_42 trivial hwp hw
      · have hwp := hF hc
        refine r_const C dX8_event_27 ?_
        exact hR _ _ _ _ _ _ dX8_event_28 trivial hwp hw
  · have hwp := hF hc
    refine r_aload_n C dX8_event_5 hl rfl ?_
    refine r_getr C hw clX8 0 rfl 0 1 rfl (Nat.le_of_ble_eq_true rfl) hi_X8_event_X8 hf_X8_event_14 dX8_event_6 ?_
    refine r_getr C hw clX4 1 rfl 9 9 rfl (Nat.le_of_ble_eq_true rfl) hi_X8_event_X4 hf_X8_event_213 dX8_event_9 ?_
    refine r_const C dX8_event_12 ?_
    refine r_put C hw clX1 9 rfl 3 3 rfl rfl (Nat.le_of_ble_eq_true rfl) hi_X8_event_X1 hf_X8_event_190 rfl ⟨nar_i _, fit_i _⟩ dX8_event_13 (fun H locs hw => ?_)
    have hwp := hwp _ rfl
    refine r_const C dX8_event_16 ?_
    exact hR _ _ _ _ _ _ dX8_event_17 trivial hwp hw
set_option maxRecDepth 100000 in
theorem c_X8_event {l : Launch} {D : va_G} {cA : FieldType → ClassId} {h : Nat → Nat} {σ : St} {sz : Nat} {v1 v2 : Int} {post : Int → St → Prop} (hwp : wp_X8_event σ v1 v2 post) : Met l yX8_event wsX8_event rm_X8_event (va_Pc [.ref (h 0), iv v1, iv v2] (preS D cA K_BT h σ sz)) (QI D cA K_BT h sz post) 0 0 (aA K_BT.length h sz) := by
  refine mk_met (cc := cX8_event) (nL := 3) (ret := (some .int)) (own := RX8) 0 (by decide) rfl rfl rfl rfl ?_
  intro p e s m args below meth c ls hsz C hw hl hA
  subst hsz
  exact b_X8_event_0 C hA (rt_i C _) hwp hw hl
-- X8_after
theorem hi_X8_after_X8 : ∀ w ∈ u_ws RX8 TX8 10, w ∈ wsX8_after := by decide +kernel
theorem hf_X8_after_14 : Cond.fieldLink RX8 14 (TX8 0).1 (TX8 0).2.1 (TX8 0).2.2.1 ∈ wsX8_after := by decide +kernel
theorem hf_X8_after_21 : Cond.fieldLink RX8 21 (TX8 2).1 (TX8 2).2.1 (TX8 2).2.2.1 ∈ wsX8_after := by decide +kernel
theorem hf_X8_after_31 : Cond.fieldLink RX8 31 (TX8 4).1 (TX8 4).2.1 (TX8 4).2.2.1 ∈ wsX8_after := by decide +kernel
def rm_X8_after : Room := { frames := 5, cells := 0, slots := 0, locals := 122 }
set_option maxRecDepth 100000 in
theorem b_X8_after_0 {post : Int → St → Prop} (C : cx p s m args meth c wsX8_after RX8 cX8_after 2 (some .int) D cA) (hA : ∀ q, s.heap.size ≤ q → A q) (hR : RtI p l e rm_X8_after s m args below meth c Q cX8_after D cA K_BT h A (fun _ => True) post) : ∀ {v1 : Int} {σ : St} {H : Heap} {locs : List Loc} {ls : Array Slot}, wp_X8_after σ v1 post → wd D cA K_BT h σ A s.heap H locs → lh ls 2 [some (.ref (h 0)), some (iv v1)] → W p l e rm_X8_after s m args below meth c H locs 0 0 Q (F0 m 0 ls []) := by
  intro v1 σ H locs ls hwp hw hl
  refine r_iload_n C dX8_after_0 hl rfl ?_
  obtain ⟨ra, hT, hF⟩ := hwp
  refine r_if_lt C (tgt := 9) dX8_after_1 rfl ra (fun hc => ?_) (fun hc => ?_)
  · have hwp := hT hc
    refine r_const C dX8_after_9 ?_
    exact hR _ _ _ _ _ _ dX8_after_10 trivial hwp hw
  · have hwp := hF hc
    refine r_iload_n C dX8_after_4 hl rfl ?_
    refine r_const C dX8_after_5 ?_
    obtain ⟨ra, hT, hF⟩ := hwp
    refine r_icmp_le C (tgt := 11) dX8_after_6 rfl ra (by decide) (fun hc => ?_) (fun hc => ?_)
    · have hwp := hT hc
      refine r_aload_n C dX8_after_11 hl rfl ?_
      refine r_getr C hw clX8 0 rfl 2 33 rfl (Nat.le_of_ble_eq_true rfl) hi_X8_after_X8 hf_X8_after_21 dX8_after_12 ?_
      refine r_aload_n C dX8_after_15 hl rfl ?_
      refine r_getr C hw clX8 0 rfl 0 1 rfl (Nat.le_of_ble_eq_true rfl) hi_X8_after_X8 hf_X8_after_14 dX8_after_16 ?_
      refine r_cV hA hw sb_BT_Setup2_33_29 (run_v C hw sb_BT_Setup2_33_29 clX4 rfl (c_X4_copyFrom hwp) (cwV 1 C.2.2.2.2.1 gX8_after_X4_copyFrom rfl rfl rfl hd_X4_copyFrom ⟨Nat.le_of_ble_eq_true rfl, Nat.le_of_ble_eq_true rfl⟩) rfl rfl rfl hl dX8_after_19 ⟨Nat.zero_le _, Nat.zero_le _⟩) (fun σ H locs hwp hw => ?_)
      have hwp := hwp _ rfl
      refine r_aload_n C dX8_after_22 hl rfl ?_
      refine r_getr C hw clX8 0 rfl 2 33 rfl (Nat.le_of_ble_eq_true rfl) hi_X8_after_X8 hf_X8_after_21 dX8_after_23 ?_
      refine r_cV hA hw sb_BT_Setup_33_31 (run_v C hw sb_BT_Setup_33_31 clX4 rfl (c_X4_happen hwp) (cwV 0 C.2.2.2.2.1 gX8_after_X4_happen rfl rfl rfl hd_X4_happen ⟨Nat.le_of_ble_eq_true rfl, Nat.le_of_ble_eq_true rfl⟩) rfl rfl rfl hl dX8_after_26 ⟨Nat.zero_le _, Nat.zero_le _⟩) (fun σ H locs hwp hw => ?_)
      have hwp := hwp _ rfl
      refine r_aload_n C dX8_after_29 hl rfl ?_
      refine r_getr C hw clX8 0 rfl 4 56 rfl (Nat.le_of_ble_eq_true rfl) hi_X8_after_X8 hf_X8_after_31 dX8_after_30 ?_
      refine r_aload_n C dX8_after_33 hl rfl ?_
      refine r_getr C hw clX8 0 rfl 2 33 rfl (Nat.le_of_ble_eq_true rfl) hi_X8_after_X8 hf_X8_after_21 dX8_after_34 ?_
      refine r_cV hA hw sb_BT_TouchS_56_28 (run_v C hw sb_BT_TouchS_56_28 clX7 rfl (c_X7_ring hwp) (cwV 1 C.2.2.2.2.1 gX8_after_X7_ring rfl rfl rfl hd_X7_ring ⟨Nat.le_of_ble_eq_true rfl, Nat.le_of_ble_eq_true rfl⟩) rfl rfl rfl hl dX8_after_37 ⟨Nat.zero_le _, Nat.zero_le _⟩) (fun σ H locs hwp hw => ?_)
      have hwp := hwp _ rfl
      refine r_iload_n C dX8_after_40 hl rfl ?_
      obtain ⟨ra, hS0, hS1, hD⟩ := hwp
      rcases lk_0_1 ra with hc | hc | hc
      · have hwp := hS0 hc
        refine r_look C (tgt := 68) dX8_after_41 ra rfl (by rw [hc] <;> rfl) rfl ?_
        refine r_aload_n C dX8_after_68 hl rfl ?_
        refine r_getr C hw clX8 0 rfl 4 56 rfl (Nat.le_of_ble_eq_true rfl) hi_X8_after_X8 hf_X8_after_31 dX8_after_69 ?_
        refine r_cI hA hw sb_BT_Touch_56_32 (run_v C hw sb_BT_Touch_56_32 clX7 rfl (c_X7_roundRow hwp) (cwV 0 C.2.2.2.2.1 gX8_after_X7_roundRow rfl rfl rfl hd_X7_roundRow ⟨Nat.le_of_ble_eq_true rfl, Nat.le_of_ble_eq_true rfl⟩) rfl rfl rfl hl dX8_after_72 ⟨Nat.zero_le _, Nat.zero_le _⟩) (fun r σ H locs hwp hw => ?_)
        have hwp := hwp _ rfl
        exact hR _ _ _ _ _ _ dX8_after_75 trivial hwp hw
      · have hwp := hS1 hc
        refine r_look C (tgt := 76) dX8_after_41 ra rfl (by rw [hc] <;> rfl) rfl ?_
        refine r_aload_n C dX8_after_76 hl rfl ?_
        refine r_getr C hw clX8 0 rfl 4 56 rfl (Nat.le_of_ble_eq_true rfl) hi_X8_after_X8 hf_X8_after_31 dX8_after_77 ?_
        refine r_cI hA hw sb_BT_Touch_56_32 (run_v C hw sb_BT_Touch_56_32 clX7 rfl (c_X7_falseRow hwp) (cwV 0 C.2.2.2.2.1 gX8_after_X7_falseRow rfl rfl rfl hd_X7_falseRow ⟨Nat.le_of_ble_eq_true rfl, Nat.le_of_ble_eq_true rfl⟩) rfl rfl rfl hl dX8_after_80 ⟨Nat.zero_le _, Nat.zero_le _⟩) (fun r σ H locs hwp hw => ?_)
        have hwp := hwp _ rfl
        exact hR _ _ _ _ _ _ dX8_after_83 trivial hwp hw
      · have hwp := hD hc
        refine r_look C (tgt := 84) dX8_after_41 ra rfl (lo_0_1 hc) rfl ?_
        refine r_aload_n C dX8_after_84 hl rfl ?_
        refine r_getr C hw clX8 0 rfl 4 56 rfl (Nat.le_of_ble_eq_true rfl) hi_X8_after_X8 hf_X8_after_31 dX8_after_85 ?_
        refine r_cI hA hw sb_BT_Touch_56_32 (run_v C hw sb_BT_Touch_56_32 clX7 rfl (c_X7_isTrue hwp) (cwV 0 C.2.2.2.2.1 gX8_after_X7_isTrue rfl rfl rfl hd_X7_isTrue ⟨Nat.le_of_ble_eq_true rfl, Nat.le_of_ble_eq_true rfl⟩) rfl rfl rfl hl dX8_after_88 ⟨Nat.zero_le _, Nat.zero_le _⟩) (fun r σ H locs hwp hw => ?_)
        have hwp := hwp _ rfl
        obtain ⟨ra, hT, hF⟩ := hwp
        refine r_if_eq C (tgt := 98) dX8_after_91 rfl ra (fun hc => ?_) (fun hc => ?_)
        · have hwp := hT hc
          refine r_const C dX8_after_98 ?_
          exact hR _ _ _ _ _ _ dX8_after_99 trivial hwp hw
        · have hwp := hF hc
          refine r_const C dX8_after_94 ?_
          refine r_goto C (tgt := 99) dX8_after_95 rfl ?_
          exact hR _ _ _ _ _ _ dX8_after_99 trivial hwp hw
    · have hwp := hF hc
      refine r_const C dX8_after_9 ?_
      exact hR _ _ _ _ _ _ dX8_after_10 trivial hwp hw
set_option maxRecDepth 100000 in
theorem c_X8_after {l : Launch} {D : va_G} {cA : FieldType → ClassId} {h : Nat → Nat} {σ : St} {sz : Nat} {v1 : Int} {post : Int → St → Prop} (hwp : wp_X8_after σ v1 post) : Met l yX8_after wsX8_after rm_X8_after (va_Pc [.ref (h 0), iv v1] (preS D cA K_BT h σ sz)) (QI D cA K_BT h sz post) 0 0 (aA K_BT.length h sz) := by
  refine mk_met (cc := cX8_after) (nL := 2) (ret := (some .int)) (own := RX8) 0 (by decide) rfl rfl rfl rfl ?_
  intro p e s m args below meth c ls hsz C hw hl hA
  subst hsz
  exact b_X8_after_0 C hA (rt_i C _) hwp hw hl
-- X8_book
theorem hi_X8_book_X1 : ∀ w ∈ u_ws RX1 TX1 4, w ∈ wsX8_book := by decide +kernel
theorem hi_X8_book_X4 : ∀ w ∈ u_ws RX4 TX4 11, w ∈ wsX8_book := by decide +kernel
theorem hi_X8_book_X8 : ∀ w ∈ u_ws RX8 TX8 10, w ∈ wsX8_book := by decide +kernel
theorem hf_X8_book_190 : Cond.fieldLink RX8 190 (TX1 3).1 (TX1 3).2.1 (TX1 3).2.2.1 ∈ wsX8_book := by decide +kernel
theorem hf_X8_book_222 : Cond.fieldLink RX8 222 (TX4 10).1 (TX4 10).2.1 (TX4 10).2.2.1 ∈ wsX8_book := by decide +kernel
theorem hf_X8_book_14 : Cond.fieldLink RX8 14 (TX8 0).1 (TX8 0).2.1 (TX8 0).2.2.1 ∈ wsX8_book := by decide +kernel
def rm_X8_book : Room := { frames := 1, cells := 0, slots := 0, locals := 23 }
set_option maxRecDepth 100000 in
theorem b_X8_book_0 {post : Int → St → Prop} (C : cx p s m args meth c wsX8_book RX8 cX8_book 3 (some .int) D cA) (hA : ∀ q, s.heap.size ≤ q → A q) (hR : RtI p l e rm_X8_book s m args below meth c Q cX8_book D cA K_BT h A (fun _ => True) post) : ∀ {v1 v2 : Int} {σ : St} {H : Heap} {locs : List Loc} {ls : Array Slot}, wp_X8_book σ v1 v2 post → wd D cA K_BT h σ A s.heap H locs → lh ls 3 [some (.ref (h 0)), some (iv v1), some (iv v2)] → W p l e rm_X8_book s m args below meth c H locs 0 0 Q (F0 m 0 ls []) := by
  intro v1 v2 σ H locs ls hwp hw hl
  refine r_iload_n C dX8_book_0 hl rfl ?_
  refine r_const C dX8_book_1 ?_
  obtain ⟨ra, hT, hF⟩ := hwp
  refine r_icmp_ne C (tgt := 18) dX8_book_2 rfl ra (by decide) (fun hc => ?_) (fun hc => ?_)
  · have hwp := hT hc
    refine r_iload_n C dX8_book_18 hl rfl ?_
    obtain ⟨ra, hT, hF⟩ := hwp
    refine r_if_lt C (tgt := 37) dX8_book_19 rfl ra (fun hc => ?_) (fun hc => ?_)
    · have hwp := hT hc
      refine r_const C dX8_book_37 ?_
      exact hR _ _ _ _ _ _ dX8_book_38 trivial hwp hw
    · have hwp := hF hc
      refine r_iload_n C dX8_book_22 hl rfl ?_
      refine r_sipush C dX8_book_23 bps_192 ?_
      obtain ⟨ra, hT, hF⟩ := hwp
      refine r_icmp_gt C (tgt := 37) dX8_book_26 rfl ra (by decide) (fun hc => ?_) (fun hc => ?_)
      · have hwp := hT hc
        refine r_const C dX8_book_37 ?_
        exact hR _ _ _ _ _ _ dX8_book_38 trivial hwp hw
      · have hwp := hF hc
        refine r_aload_n C dX8_book_29 hl rfl ?_
        refine r_iload_n C dX8_book_30 hl rfl ?_
        refine r_cIr0 hA hw (run_v0 C hw clX8 rfl (c_X8_isBell hwp) (cwV 1 C.2.2.2.2.1 gX8_book_X8_isBell rfl rfl rfl hd_X8_isBell ⟨Nat.le_of_ble_eq_true rfl, Nat.le_of_ble_eq_true rfl⟩) rfl rfl rfl hl dX8_book_31 ⟨Nat.zero_le _, Nat.zero_le _⟩) (fun r H locs hwp hw => ?_)
        obtain ⟨ra, hT, hF⟩ := hwp
        refine r_if_ne C (tgt := 39) dX8_book_34 rfl ra (fun hc => ?_) (fun hc => ?_)
        · have hwp := hT hc
          refine r_aload_n C dX8_book_39 hl rfl ?_
          refine r_getr C hw clX8 0 rfl 0 1 rfl (Nat.le_of_ble_eq_true rfl) hi_X8_book_X8 hf_X8_book_14 dX8_book_40 ?_
          refine r_getr C hw clX4 1 rfl 10 13 rfl (Nat.le_of_ble_eq_true rfl) hi_X8_book_X4 hf_X8_book_222 dX8_book_43 ?_
          refine r_iload_n C dX8_book_46 hl rfl ?_
          refine r_iload_n C dX8_book_47 hl rfl ?_
          refine r_const C dX8_book_48 ?_
          refine r_cI hA hw sb_BT_HR_13_33 (run_v C hw sb_BT_HR_13_33 clX1 rfl (c_X1_append rfl hwp) (cwV 3 C.2.2.2.2.1 gX8_book_X1_append rfl rfl rfl hd_X1_append ⟨Nat.le_of_ble_eq_true rfl, Nat.le_of_ble_eq_true rfl⟩) rfl rfl rfl hl dX8_book_49 ⟨Nat.zero_le _, Nat.zero_le _⟩) (fun r σ H locs hwp hw => ?_)
          have hwp := hwp _ rfl
          obtain ⟨ra, hT, hF⟩ := hwp
          refine r_if_eq C (tgt := 68) dX8_book_52 rfl ra (fun hc => ?_) (fun hc => ?_)
          · have hwp := hT hc
            refine r_bipush C dX8_book_68 bpb_m4 ?_
            exact hR _ _ _ _ _ _ dX8_book_70 trivial hwp hw
          · have hwp := hF hc
            refine r_aload_n C dX8_book_55 hl rfl ?_
            refine r_getr C hw clX8 0 rfl 0 1 rfl (Nat.le_of_ble_eq_true rfl) hi_X8_book_X8 hf_X8_book_14 dX8_book_56 ?_
            refine r_getr C hw clX4 1 rfl 10 13 rfl (Nat.le_of_ble_eq_true rfl) hi_X8_book_X4 hf_X8_book_222 dX8_book_59 ?_
            refine r_get C hw clX1 13 rfl 3 3 rfl rfl (Nat.le_of_ble_eq_true rfl) hi_X8_book_X1 hf_X8_book_190 dX8_book_62 ?_
            refine r_goto C (tgt := 70) dX8_book_65 rfl ?_
            exact hR _ _ _ _ _ _ dX8_book_70 trivial hwp hw
        · have hwp := hF hc
          refine r_const C dX8_book_37 ?_
          exact hR _ _ _ _ _ _ dX8_book_38 trivial hwp hw
  · have hwp := hF hc
    refine r_aload_n C dX8_book_5 hl rfl ?_
    refine r_getr C hw clX8 0 rfl 0 1 rfl (Nat.le_of_ble_eq_true rfl) hi_X8_book_X8 hf_X8_book_14 dX8_book_6 ?_
    refine r_getr C hw clX4 1 rfl 10 13 rfl (Nat.le_of_ble_eq_true rfl) hi_X8_book_X4 hf_X8_book_222 dX8_book_9 ?_
    refine r_const C dX8_book_12 ?_
    refine r_put C hw clX1 13 rfl 3 3 rfl rfl (Nat.le_of_ble_eq_true rfl) hi_X8_book_X1 hf_X8_book_190 rfl ⟨nar_i _, fit_i _⟩ dX8_book_13 (fun H locs hw => ?_)
    have hwp := hwp _ rfl
    refine r_const C dX8_book_16 ?_
    exact hR _ _ _ _ _ _ dX8_book_17 trivial hwp hw
set_option maxRecDepth 100000 in
theorem c_X8_book {l : Launch} {D : va_G} {cA : FieldType → ClassId} {h : Nat → Nat} {σ : St} {sz : Nat} {v1 v2 : Int} {post : Int → St → Prop} (hwp : wp_X8_book σ v1 v2 post) : Met l yX8_book wsX8_book rm_X8_book (va_Pc [.ref (h 0), iv v1, iv v2] (preS D cA K_BT h σ sz)) (QI D cA K_BT h sz post) 0 0 (aA K_BT.length h sz) := by
  refine mk_met (cc := cX8_book) (nL := 3) (ret := (some .int)) (own := RX8) 0 (by decide) rfl rfl rfl rfl ?_
  intro p e s m args below meth c ls hsz C hw hl hA
  subst hsz
  exact b_X8_book_0 C hA (rt_i C _) hwp hw hl
-- X8_looked
theorem hi_X8_looked_X1 : ∀ w ∈ u_ws RX1 TX1 4, w ∈ wsX8_looked := by decide +kernel
theorem hi_X8_looked_X4 : ∀ w ∈ u_ws RX4 TX4 11, w ∈ wsX8_looked := by decide +kernel
theorem hi_X8_looked_X7 : ∀ w ∈ u_ws RX7 TX7 8, w ∈ wsX8_looked := by decide +kernel
theorem hi_X8_looked_X8 : ∀ w ∈ u_ws RX8 TX8 10, w ∈ wsX8_looked := by decide +kernel
theorem hf_X8_looked_225 : Cond.fieldLink RX8 225 (TX1 0).1 (TX1 0).2.1 (TX1 0).2.2.1 ∈ wsX8_looked := by decide +kernel
theorem hf_X8_looked_228 : Cond.fieldLink RX8 228 (TX1 1).1 (TX1 1).2.1 (TX1 1).2.2.1 ∈ wsX8_looked := by decide +kernel
theorem hf_X8_looked_190 : Cond.fieldLink RX8 190 (TX1 3).1 (TX1 3).2.1 (TX1 3).2.2.1 ∈ wsX8_looked := by decide +kernel
theorem hf_X8_looked_222 : Cond.fieldLink RX8 222 (TX4 10).1 (TX4 10).2.1 (TX4 10).2.2.1 ∈ wsX8_looked := by decide +kernel
theorem hf_X8_looked_156 : Cond.fieldLink RX8 156 (TX7 0).1 (TX7 0).2.1 (TX7 0).2.2.1 ∈ wsX8_looked := by decide +kernel
theorem hf_X8_looked_14 : Cond.fieldLink RX8 14 (TX8 0).1 (TX8 0).2.1 (TX8 0).2.2.1 ∈ wsX8_looked := by decide +kernel
def rm_X8_looked : Room := { frames := 6, cells := 0, slots := 0, locals := 131 }
set_option maxRecDepth 100000 in
theorem b_X8_looked_55 {post : Int → St → Prop} (C : cx p s m args meth c wsX8_looked RX8 cX8_looked 4 (some .int) D cA) (hA : ∀ q, s.heap.size ≤ q → A q) (hR : RtI p l e rm_X8_looked s m args below meth c Q cX8_looked D cA K_BT h A (fun _ => True) post) : ∀ {v2 : Int} {σ : St} {H : Heap} {locs : List Loc} {ls : Array Slot}, wp_X8_looked_55 post v2 σ → wd D cA K_BT h σ A s.heap H locs → lh ls 4 [none, none, some (iv v2), none] → W p l e rm_X8_looked s m args below meth c H locs 0 0 Q (F0 m 55 ls []) := by
  intro v2 σ H locs ls hwp hw hl
  refine r_iload_n C dX8_looked_55 hl rfl ?_
  exact hR _ _ _ _ _ _ dX8_looked_56 trivial hwp hw
set_option maxRecDepth 100000 in
theorem b_X8_looked_10 {post : Int → St → Prop} (C : cx p s m args meth c wsX8_looked RX8 cX8_looked 4 (some .int) D cA) (hA : ∀ q, s.heap.size ≤ q → A q) (hR : RtI p l e rm_X8_looked s m args below meth c Q cX8_looked D cA K_BT h A (fun _ => True) post) : ∀ (n : Nat) {v2 : Int} {σ : St} {H : Heap} {locs : List Loc} {ls : Array Slot}, wp_X8_looked_10 post n v2 σ → wd D cA K_BT h σ A s.heap H locs → lh ls 4 [some (.ref (h 0)), some (.ref (h 13)), some (iv v2), none] → W p l e rm_X8_looked s m args below meth c H locs 0 0 Q (F0 m 10 ls []) := by
  intro n; induction n with
  | zero => intros; rename_i hwp _ _; exact hwp.elim
  | succ n ih =>
    intro v2 σ H locs ls hwp hw hl
    refine r_iload_n C dX8_looked_10 hl rfl ?_
    refine r_aload_n C dX8_looked_11 hl rfl ?_
    refine r_get C hw clX1 13 rfl 3 3 rfl rfl (Nat.le_of_ble_eq_true rfl) hi_X8_looked_X1 hf_X8_looked_190 dX8_looked_12 ?_
    obtain ⟨ra, rb, hT, hF⟩ := hwp
    refine r_icmp_ge C (tgt := 63) dX8_looked_15 rfl ra rb (fun hc => ?_) (fun hc => ?_)
    · have hwp := hT hc
      refine r_bipush C dX8_looked_63 bpb_m5 ?_
      exact hR _ _ _ _ _ _ dX8_looked_65 trivial hwp hw
    · have hwp := hF hc
      refine r_aload_n C dX8_looked_18 hl rfl ?_
      refine r_getr C hw clX1 13 rfl 0 14 rfl (Nat.le_of_ble_eq_true rfl) hi_X8_looked_X1 hf_X8_looked_225 dX8_looked_19 ?_
      refine r_iload_n C dX8_looked_22 hl rfl ?_
      obtain ⟨h0, h1, hwp⟩ := hwp
      refine r_iald C hw 14 rfl rfl h0 h1 dX8_looked_23 ?_
      refine r_istore_n C dX8_looked_24 hl (Nat.le_of_ble_eq_true rfl) (Nat.le_of_ble_eq_true rfl) rfl (fun ls hl => ?_)
      refine r_aload_n C dX8_looked_25 hl rfl ?_
      refine r_iload_n C dX8_looked_26 hl rfl ?_
      refine r_cI0 hA hw (run_v0 C hw clX8 rfl (c_X8_isRow hwp) (cwV 1 C.2.2.2.2.1 gX8_looked_X8_isRow rfl rfl rfl hd_X8_isRow ⟨Nat.le_of_ble_eq_true rfl, Nat.le_of_ble_eq_true rfl⟩) rfl rfl rfl hl dX8_looked_27 ⟨Nat.zero_le _, Nat.zero_le _⟩) (fun r σ H locs hwp hw => ?_)
      obtain ⟨ra, hT, hF⟩ := hwp
      refine r_if_eq C (tgt := 55) dX8_looked_30 rfl ra (fun hc => ?_) (fun hc => ?_)
      · have hwp := hT hc
        exact b_X8_looked_55 C hA hR hwp hw (lh_mask hl [false, false, true, false])
      · have hwp := hF hc
        refine r_aload_n C dX8_looked_33 hl rfl ?_
        refine r_cR0 hA hw (run_v0 C hw clX8 rfl (c_X8_rung hwp) (cwV 0 C.2.2.2.2.1 gX8_looked_X8_rung rfl rfl rfl hd_X8_rung ⟨Nat.le_of_ble_eq_true rfl, Nat.le_of_ble_eq_true rfl⟩) rfl rfl rfl hl dX8_looked_34 ⟨Nat.zero_le _, Nat.zero_le _⟩) (fun σ H locs hwp hw => ?_)
        refine r_getr C hw clX7 49 rfl 0 50 rfl (Nat.le_of_ble_eq_true rfl) hi_X8_looked_X7 hf_X8_looked_156 dX8_looked_37 ?_
        refine r_iload_n C dX8_looked_40 hl rfl ?_
        obtain ⟨h0, h1, hwp⟩ := hwp
        refine r_iald C hw 50 rfl rfl h0 h1 dX8_looked_41 ?_
        refine r_const C dX8_looked_42 ?_
        refine r_cIr hA hw sb_BT_0_0_21 (run_s C hw sb_BT_0_0_21 (c_X2_bellIn hwp) (va_cwS 2 C.2.2.2.2.1 gX8_looked_X2_bellIn rfl rfl rfl hd_X2_bellIn ⟨Nat.le_of_ble_eq_true rfl, Nat.le_of_ble_eq_true rfl⟩) rfl rfl rfl hl dX8_looked_43 ⟨Nat.zero_le _, Nat.zero_le _⟩) (fun r H locs hwp hw => ?_)
        refine r_aload_n C dX8_looked_46 hl rfl ?_
        refine r_getr C hw clX1 13 rfl 1 15 rfl (Nat.le_of_ble_eq_true rfl) hi_X8_looked_X1 hf_X8_looked_228 dX8_looked_47 ?_
        refine r_iload_n C dX8_looked_50 hl rfl ?_
        obtain ⟨h0, h1, hwp⟩ := hwp
        refine r_iald C hw 15 rfl rfl h0 h1 dX8_looked_51 ?_
        obtain ⟨ra, rb, hT, hF⟩ := hwp
        refine r_icmp_eq C (tgt := 57) dX8_looked_52 rfl ra rb (fun hc => ?_) (fun hc => ?_)
        · have hwp := hT hc
          refine r_iinc C dX8_looked_57 hl rfl (Nat.le_of_ble_eq_true rfl) rfl (fun ls hl => ?_)
          refine r_goto C (tgt := 10) dX8_looked_60 rfl ?_
          exact ih hwp hw (lh_mask hl [true, true, true, false])
        · have hwp := hF hc
          exact b_X8_looked_55 C hA hR hwp hw (lh_mask hl [false, false, true, false])
set_option maxRecDepth 100000 in
theorem b_X8_looked_0 {post : Int → St → Prop} (C : cx p s m args meth c wsX8_looked RX8 cX8_looked 4 (some .int) D cA) (hA : ∀ q, s.heap.size ≤ q → A q) (hR : RtI p l e rm_X8_looked s m args below meth c Q cX8_looked D cA K_BT h A (fun _ => True) post) : ∀ {σ : St} {H : Heap} {locs : List Loc} {ls : Array Slot}, wp_X8_looked σ post → wd D cA K_BT h σ A s.heap H locs → lh ls 4 [some (.ref (h 0)), none, none, none] → W p l e rm_X8_looked s m args below meth c H locs 0 0 Q (F0 m 0 ls []) := by
  intro σ H locs ls hwp hw hl
  refine r_aload_n C dX8_looked_0 hl rfl ?_
  refine r_getr C hw clX8 0 rfl 0 1 rfl (Nat.le_of_ble_eq_true rfl) hi_X8_looked_X8 hf_X8_looked_14 dX8_looked_1 ?_
  refine r_getr C hw clX4 1 rfl 10 13 rfl (Nat.le_of_ble_eq_true rfl) hi_X8_looked_X4 hf_X8_looked_222 dX8_looked_4 ?_
  refine r_astore_n C dX8_looked_7 hl (Nat.le_of_ble_eq_true rfl) (Nat.le_of_ble_eq_true rfl) rfl (fun ls hl => ?_)
  refine r_const C dX8_looked_8 ?_
  refine r_istore_n C dX8_looked_9 hl (Nat.le_of_ble_eq_true rfl) (Nat.le_of_ble_eq_true rfl) rfl (fun ls hl => ?_)
  obtain ⟨n9, hwp⟩ := hwp
  exact b_X8_looked_10 C hA hR n9 hwp hw (lh_mask hl [true, true, true, false])
set_option maxRecDepth 100000 in
theorem c_X8_looked {l : Launch} {D : va_G} {cA : FieldType → ClassId} {h : Nat → Nat} {σ : St} {sz : Nat} {post : Int → St → Prop} (hwp : wp_X8_looked σ post) : Met l yX8_looked wsX8_looked rm_X8_looked (va_Pc [.ref (h 0)] (preS D cA K_BT h σ sz)) (QI D cA K_BT h sz post) 0 0 (aA K_BT.length h sz) := by
  refine mk_met (cc := cX8_looked) (nL := 4) (ret := (some .int)) (own := RX8) 3 (by decide) rfl rfl rfl rfl ?_
  intro p e s m args below meth c ls hsz C hw hl hA
  subst hsz
  exact b_X8_looked_0 C hA (rt_i C _) hwp hw hl
-- X8_isTape
def rm_X8_isTape : Room := { frames := 0, cells := 0, slots := 0, locals := 0 }
set_option maxRecDepth 100000 in
theorem b_X8_isTape_0 {σ : St} {post : Int → Prop} (C : cx p s m args meth c wsX8_isTape RX8 cX8_isTape 1 (some .boolean) D cA) (hA : ∀ q, s.heap.size ≤ q → A q) (hR : RtI p l e rm_X8_isTape s m args below meth c Q cX8_isTape D cA K_0 h A (fun x => x = 0 ∨ x = 1) (fun r σ' => σ' = σ ∧ post r)) : ∀ {v0 : Int} {H : Heap} {locs : List Loc} {ls : Array Slot}, wp_X8_isTape v0 post → wd D cA K_0 h σ A s.heap H locs → lh ls 1 [some (iv v0)] → W p l e rm_X8_isTape s m args below meth c H locs 0 0 Q (F0 m 0 ls []) := by
  intro v0 H locs ls hwp hw hl
  refine r_iload_n C dX8_isTape_0 hl rfl ?_
  obtain ⟨ra, hT, hF⟩ := hwp
  refine r_if_lt C (tgt := 14) dX8_isTape_1 rfl ra (fun hc => ?_) (fun hc => ?_)
  · have hwp := hT hc
    refine r_const C dX8_isTape_14 ?_
    exact hR _ _ _ _ _ _ dX8_isTape_15 (Or.inl rfl) ⟨rfl, hwp⟩ hw
  · have hwp := hF hc
    refine r_iload_n C dX8_isTape_4 hl rfl ?_
    refine r_bipush C dX8_isTape_5 bpb_6 ?_
    obtain ⟨ra, hT, hF⟩ := hwp
    refine r_icmp_ge C (tgt := 14) dX8_isTape_7 rfl ra (by decide) (fun hc => ?_) (fun hc => ?_)
    · have hwp := hT hc
      refine r_const C dX8_isTape_14 ?_
      exact hR _ _ _ _ _ _ dX8_isTape_15 (Or.inl rfl) ⟨rfl, hwp⟩ hw
    · have hwp := hF hc
      refine r_const C dX8_isTape_10 ?_
      refine r_goto C (tgt := 15) dX8_isTape_11 rfl ?_
      exact hR _ _ _ _ _ _ dX8_isTape_15 (Or.inr rfl) ⟨rfl, hwp⟩ hw
set_option maxRecDepth 100000 in
theorem c_X8_isTape {l : Launch} {D : va_G} {cA : FieldType → ClassId} {h : Nat → Nat} {σ : St} {sz : Nat} {v0 : Int} {post : Int → Prop} (hwp : wp_X8_isTape v0 post) : Met l yX8_isTape wsX8_isTape rm_X8_isTape (va_Pc [iv v0] (preS D cA K_0 h σ sz)) (QI D cA K_0 h sz (fun r σ' => σ' = σ ∧ post r)) 0 0 (aA K_0.length h sz) := by
  refine mk_met (cc := cX8_isTape) (nL := 1) (ret := (some .boolean)) (own := RX8) 0 (by decide) rfl rfl rfl rfl ?_
  intro p e s m args below meth c ls hsz C hw hl hA
  subst hsz
  exact b_X8_isTape_0 C hA (rt_z C _) hwp hw hl
-- X8_judge
theorem hi_X8_judge_X4 : ∀ w ∈ u_ws RX4 TX4 11, w ∈ wsX8_judge := by decide +kernel
theorem hi_X8_judge_X6 : ∀ w ∈ u_ws RX6 TX6 3, w ∈ wsX8_judge := by decide +kernel
theorem hi_X8_judge_X7 : ∀ w ∈ u_ws RX7 TX7 8, w ∈ wsX8_judge := by decide +kernel
theorem hi_X8_judge_X8 : ∀ w ∈ u_ws RX8 TX8 10, w ∈ wsX8_judge := by decide +kernel
theorem hf_X8_judge_62 : Cond.fieldLink RX8 62 (TX4 0).1 (TX4 0).2.1 (TX4 0).2.2.1 ∈ wsX8_judge := by decide +kernel
theorem hf_X8_judge_234 : Cond.fieldLink RX8 234 (TX6 0).1 (TX6 0).2.1 (TX6 0).2.2.1 ∈ wsX8_judge := by decide +kernel
theorem hf_X8_judge_240 : Cond.fieldLink RX8 240 (TX6 2).1 (TX6 2).2.1 (TX6 2).2.2.1 ∈ wsX8_judge := by decide +kernel
theorem hf_X8_judge_156 : Cond.fieldLink RX8 156 (TX7 0).1 (TX7 0).2.1 (TX7 0).2.2.1 ∈ wsX8_judge := by decide +kernel
theorem hf_X8_judge_14 : Cond.fieldLink RX8 14 (TX8 0).1 (TX8 0).2.1 (TX8 0).2.2.1 ∈ wsX8_judge := by decide +kernel
theorem hf_X8_judge_50 : Cond.fieldLink RX8 50 (TX8 7).1 (TX8 7).2.1 (TX8 7).2.2.1 ∈ wsX8_judge := by decide +kernel
def rm_X8_judge : Room := { frames := 6, cells := 0, slots := 0, locals := 131 }
set_option maxRecDepth 100000 in
theorem b_X8_judge_55 {post : Int → St → Prop} (C : cx p s m args meth c wsX8_judge RX8 cX8_judge 6 (some .int) D cA) (hA : ∀ q, s.heap.size ≤ q → A q) (hR : RtI p l e rm_X8_judge s m args below meth c Q cX8_judge D cA K_BT h A (fun _ => True) post) {v2 : Int} (hv2 : (v2).toNat < 6) : ∀ (n : Nat) {v1 v3 v5 : Int} {σ : St} {H : Heap} {locs : List Loc} {ls : Array Slot}, wp_X8_judge_55 post n v1 v2 v3 v5 σ → wd D cA K_BT h σ A s.heap H locs → lh ls 6 [some (.ref (h 0)), some (iv v1), some (iv v2), some (iv v3), some (.ref (h (80 + 2 * (v2).toNat))), some (iv v5)] → W p l e rm_X8_judge s m args below meth c H locs 0 0 Q (F0 m 55 ls []) := by
  intro n; induction n with
  | zero => intros; rename_i hwp _ _; exact hwp.elim
  | succ n ih =>
    intro v1 v3 v5 σ H locs ls hwp hw hl
    refine r_iload C dX8_judge_55 hl rfl ?_
    refine r_aload_n C dX8_judge_57 hl rfl ?_
    refine r_getr C hw clX8 0 rfl 0 1 rfl (Nat.le_of_ble_eq_true rfl) hi_X8_judge_X8 hf_X8_judge_14 dX8_judge_58 ?_
    refine r_get C hw clX4 1 rfl 0 0 rfl rfl (Nat.le_of_ble_eq_true rfl) hi_X8_judge_X4 hf_X8_judge_62 dX8_judge_61 ?_
    obtain ⟨ra, rb, hT, hF⟩ := hwp
    refine r_icmp_gt C (tgt := 126) dX8_judge_64 rfl ra rb (fun hc => ?_) (fun hc => ?_)
    · have hwp := hT hc
      refine r_bipush C dX8_judge_126 bpb_m5 ?_
      exact hR _ _ _ _ _ _ dX8_judge_128 trivial hwp hw
    · have hwp := hF hc
      refine r_aload C dX8_judge_67 hl rfl ?_
      refine r_iload_n C dX8_judge_69 hl rfl ?_
      refine r_iload C dX8_judge_70 hl rfl ?_
      refine r_cIr hA hw (sub_tape hv2) (run_v C hw (sub_tape hv2) clX6 rfl (c_X6_has hwp) (cwV 2 C.2.2.2.2.1 gX8_judge_X6_has rfl rfl rfl hd_X6_has ⟨Nat.le_of_ble_eq_true rfl, Nat.le_of_ble_eq_true rfl⟩) rfl rfl rfl hl dX8_judge_72 ⟨Nat.zero_le _, Nat.zero_le _⟩) (fun r H locs hwp hw => ?_)
      obtain ⟨ra, hT, hF⟩ := hwp
      refine r_if_ne C (tgt := 86) dX8_judge_75 rfl ra (fun hc => ?_) (fun hc => ?_)
      · have hwp := hT hc
        refine r_aload C dX8_judge_86 hl rfl ?_
        refine r_getr C hw clX6 (80 + 2 * (v2).toNat) (kt_o hv2) 2 (81 + 2 * (v2).toNat) rfl (Nat.le_of_ble_eq_true rfl) hi_X8_judge_X6 hf_X8_judge_240 dX8_judge_88 ?_
        refine r_iload_n C dX8_judge_91 hl rfl ?_
        refine r_iload C dX8_judge_92 hl rfl ?_
        refine r_iadd C dX8_judge_94 ?_
        refine r_const C dX8_judge_95 ?_
        refine r_isub C dX8_judge_96 ?_
        obtain ⟨h0, h1, hwp⟩ := hwp
        refine r_lald C hw (81 + 2 * (v2).toNat) (kt_a hv2) rfl h0 h1 dX8_judge_97 ?_
        refine r_aload_n C dX8_judge_98 hl rfl ?_
        refine r_cR0 hA hw (run_v0 C hw clX8 rfl (c_X8_rung hwp) (cwV 0 C.2.2.2.2.1 gX8_judge_X8_rung rfl rfl rfl hd_X8_rung ⟨Nat.le_of_ble_eq_true rfl, Nat.le_of_ble_eq_true rfl⟩) rfl rfl rfl hl dX8_judge_99 ⟨Nat.zero_le _, Nat.zero_le _⟩) (fun σ H locs hwp hw => ?_)
        refine r_getr C hw clX7 49 rfl 0 50 rfl (Nat.le_of_ble_eq_true rfl) hi_X8_judge_X7 hf_X8_judge_156 dX8_judge_102 ?_
        refine r_iload_n C dX8_judge_105 hl rfl ?_
        obtain ⟨h0, h1, hwp⟩ := hwp
        refine r_iald C hw 50 rfl rfl h0 h1 dX8_judge_106 ?_
        refine r_iload C dX8_judge_107 hl rfl ?_
        refine r_cIr hA hw sb_BT_0_0_21 (run_s C hw sb_BT_0_0_21 (c_X2_bellIn hwp) (va_cwS 2 C.2.2.2.2.1 gX8_judge_X2_bellIn rfl rfl rfl hd_X2_bellIn ⟨Nat.le_of_ble_eq_true rfl, Nat.le_of_ble_eq_true rfl⟩) rfl rfl rfl hl dX8_judge_109 ⟨Nat.zero_le _, Nat.zero_le _⟩) (fun r H locs hwp hw => ?_)
        obtain ⟨ra, hwp⟩ := hwp
        refine r_i2l C dX8_judge_112 ra ?_
        obtain ⟨ra, rb, hwp⟩ := hwp
        refine r_lcmp C dX8_judge_113 ra rb ?_
        obtain ⟨ra, hT, hF⟩ := hwp
        refine r_if_eq C (tgt := 120) dX8_judge_114 rfl ra (fun hc => ?_) (fun hc => ?_)
        · have hwp := hT hc
          refine r_iinc C dX8_judge_120 hl rfl (Nat.le_of_ble_eq_true rfl) rfl (fun ls hl => ?_)
          refine r_goto C (tgt := 55) dX8_judge_123 rfl ?_
          exact ih hwp hw (lh_mask hl [true, true, true, true, true, true])
        · have hwp := hF hc
          refine r_iload C dX8_judge_117 hl rfl ?_
          exact hR _ _ _ _ _ _ dX8_judge_119 trivial hwp hw
      · have hwp := hF hc
        refine r_bipush C dX8_judge_78 bpb_100 ?_
        refine r_iload C dX8_judge_80 hl rfl ?_
        refine r_iadd C dX8_judge_82 ?_
        refine r_const C dX8_judge_83 ?_
        refine r_isub C dX8_judge_84 ?_
        exact hR _ _ _ _ _ _ dX8_judge_85 trivial hwp hw
set_option maxRecDepth 100000 in
theorem b_X8_judge_45 {post : Int → St → Prop} (C : cx p s m args meth c wsX8_judge RX8 cX8_judge 6 (some .int) D cA) (hA : ∀ q, s.heap.size ≤ q → A q) (hR : RtI p l e rm_X8_judge s m args below meth c Q cX8_judge D cA K_BT h A (fun _ => True) post) {v2 : Int} (hv2 : (v2).toNat < 6) : ∀ {v1 v3 : Int} {σ : St} {H : Heap} {locs : List Loc} {ls : Array Slot}, wp_X8_judge_45 post v1 v2 v3 σ → wd D cA K_BT h σ A s.heap H locs → lh ls 6 [some (.ref (h 0)), some (iv v1), some (iv v2), some (iv v3), some (.ref (h (80 + 2 * (v2).toNat))), none] → W p l e rm_X8_judge s m args below meth c H locs 0 0 Q (F0 m 45 ls []) := by
  intro v1 v3 σ H locs ls hwp hw hl
  refine r_iload_n C dX8_judge_45 hl rfl ?_
  obtain ⟨ra, hT, hF⟩ := hwp
  refine r_if_ge C (tgt := 52) dX8_judge_46 rfl ra (fun hc => ?_) (fun hc => ?_)
  · have hwp := hT hc
    refine r_const C dX8_judge_52 ?_
    refine r_istore C dX8_judge_53 hl (Nat.le_of_ble_eq_true rfl) (Nat.le_of_ble_eq_true rfl) rfl (fun ls hl => ?_)
    obtain ⟨n9, hwp⟩ := hwp
    exact b_X8_judge_55 C hA hR hv2 n9 hwp hw (lh_mask hl [true, true, true, true, true, true])
  · have hwp := hF hc
    refine r_bipush C dX8_judge_49 bpb_100 ?_
    exact hR _ _ _ _ _ _ dX8_judge_51 trivial hwp hw
set_option maxRecDepth 100000 in
theorem b_X8_judge_0 {post : Int → St → Prop} (C : cx p s m args meth c wsX8_judge RX8 cX8_judge 6 (some .int) D cA) (hA : ∀ q, s.heap.size ≤ q → A q) (hR : RtI p l e rm_X8_judge s m args below meth c Q cX8_judge D cA K_BT h A (fun _ => True) post) : ∀ {v1 v2 v3 : Int} {σ : St} {H : Heap} {locs : List Loc} {ls : Array Slot}, wp_X8_judge σ v1 v2 v3 post → wd D cA K_BT h σ A s.heap H locs → lh ls 6 [some (.ref (h 0)), some (iv v1), some (iv v2), some (iv v3), none, none] → W p l e rm_X8_judge s m args below meth c H locs 0 0 Q (F0 m 0 ls []) := by
  intro v1 v2 v3 σ H locs ls hwp hw hl
  refine r_aload_n C dX8_judge_0 hl rfl ?_
  refine r_iload_n C dX8_judge_1 hl rfl ?_
  refine r_cI0 hA hw (run_v0 C hw clX8 rfl (c_X8_isRow hwp) (cwV 1 C.2.2.2.2.1 gX8_judge_X8_isRow rfl rfl rfl hd_X8_isRow ⟨Nat.le_of_ble_eq_true rfl, Nat.le_of_ble_eq_true rfl⟩) rfl rfl rfl hl dX8_judge_2 ⟨Nat.zero_le _, Nat.zero_le _⟩) (fun r σ H locs hwp hw => ?_)
  obtain ⟨ra, hT, hF⟩ := hwp
  refine r_if_eq C (tgt := 15) dX8_judge_5 rfl ra (fun hc => ?_) (fun hc => ?_)
  · have hwp := hT hc
    refine r_const C dX8_judge_15 ?_
    exact hR _ _ _ _ _ _ dX8_judge_16 trivial hwp hw
  · have hwp := hF hc
    refine r_iload_n C dX8_judge_8 hl rfl ?_
    refine r_cIr hA hw sb_BT_0_0_21 (run_s C hw sb_BT_0_0_21 (c_X8_isTape hwp) (va_cwS 1 C.2.2.2.2.1 gX8_judge_X8_isTape rfl rfl rfl hd_X8_isTape ⟨Nat.le_of_ble_eq_true rfl, Nat.le_of_ble_eq_true rfl⟩) rfl rfl rfl hl dX8_judge_9 ⟨Nat.zero_le _, Nat.zero_le _⟩) (fun r H locs hwp hw => ?_)
    obtain ⟨ra, hT, hF⟩ := hwp
    refine r_if_ne C (tgt := 17) dX8_judge_12 rfl ra (fun hc => ?_) (fun hc => ?_)
    · have hwp := hT hc
      refine r_aload_n C dX8_judge_17 hl rfl ?_
      refine r_getr C hw clX8 0 rfl 7 79 rfl (Nat.le_of_ble_eq_true rfl) hi_X8_judge_X8 hf_X8_judge_50 dX8_judge_18 ?_
      refine r_iload_n C dX8_judge_21 hl rfl ?_
      obtain ⟨h0, h1, hwp⟩ := hwp
      have hv2 : (v2).toNat < 6 := by omega
      refine r_aald C hw 79 rfl rfl h0 h1 (80 + 2 * (v2).toNat) (kt_r hv2) dX8_judge_22 ?_
      refine r_astore C dX8_judge_23 hl (Nat.le_of_ble_eq_true rfl) (Nat.le_of_ble_eq_true rfl) rfl (fun ls hl => ?_)
      refine r_aload C dX8_judge_25 hl rfl ?_
      refine r_get C hw clX6 (80 + 2 * (v2).toNat) (kt_o hv2) 0 0 rfl rfl (Nat.le_of_ble_eq_true rfl) hi_X8_judge_X6 hf_X8_judge_234 dX8_judge_27 ?_
      refine r_const C dX8_judge_30 ?_
      obtain ⟨ra, hT, hF⟩ := hwp
      refine r_icmp_eq C (tgt := 45) dX8_judge_31 rfl ra (by decide) (fun hc => ?_) (fun hc => ?_)
      · have hwp := hT hc
        exact b_X8_judge_45 C hA hR hv2 hwp hw (lh_mask hl [true, true, true, true, true, false])
      · have hwp := hF hc
        refine r_aload C dX8_judge_34 hl rfl ?_
        refine r_get C hw clX6 (80 + 2 * (v2).toNat) (kt_o hv2) 0 0 rfl rfl (Nat.le_of_ble_eq_true rfl) hi_X8_judge_X6 hf_X8_judge_234 dX8_judge_36 ?_
        obtain ⟨ra, hT, hF⟩ := hwp
        refine r_if_eq C (tgt := 45) dX8_judge_39 rfl ra (fun hc => ?_) (fun hc => ?_)
        · have hwp := hT hc
          exact b_X8_judge_45 C hA hR hv2 hwp hw (lh_mask hl [true, true, true, true, true, false])
        · have hwp := hF hc
          refine r_bipush C dX8_judge_42 bpb_m12 ?_
          exact hR _ _ _ _ _ _ dX8_judge_44 trivial hwp hw
    · have hwp := hF hc
      refine r_const C dX8_judge_15 ?_
      exact hR _ _ _ _ _ _ dX8_judge_16 trivial hwp hw
set_option maxRecDepth 100000 in
theorem c_X8_judge {l : Launch} {D : va_G} {cA : FieldType → ClassId} {h : Nat → Nat} {σ : St} {sz : Nat} {v1 v2 v3 : Int} {post : Int → St → Prop} (hwp : wp_X8_judge σ v1 v2 v3 post) : Met l yX8_judge wsX8_judge rm_X8_judge (va_Pc [.ref (h 0), iv v1, iv v2, iv v3] (preS D cA K_BT h σ sz)) (QI D cA K_BT h sz post) 0 0 (aA K_BT.length h sz) := by
  refine mk_met (cc := cX8_judge) (nL := 6) (ret := (some .int)) (own := RX8) 2 (by decide) rfl rfl rfl rfl ?_
  intro p e s m args below meth c ls hsz C hw hl hA
  subst hsz
  exact b_X8_judge_0 C hA (rt_i C _) hwp hw hl
-- X8_image
theorem hi_X8_image_X4 : ∀ w ∈ u_ws RX4 TX4 11, w ∈ wsX8_image := by decide +kernel
theorem hi_X8_image_X8 : ∀ w ∈ u_ws RX8 TX8 10, w ∈ wsX8_image := by decide +kernel
theorem hf_X8_image_80 : Cond.fieldLink RX8 80 (TX4 2).1 (TX4 2).2.1 (TX4 2).2.2.1 ∈ wsX8_image := by decide +kernel
theorem hf_X8_image_14 : Cond.fieldLink RX8 14 (TX8 0).1 (TX8 0).2.1 (TX8 0).2.2.1 ∈ wsX8_image := by decide +kernel
theorem hf_X8_image_18 : Cond.fieldLink RX8 18 (TX8 1).1 (TX8 1).2.1 (TX8 1).2.2.1 ∈ wsX8_image := by decide +kernel
theorem hf_X8_image_54 : Cond.fieldLink RX8 54 (TX8 8).1 (TX8 8).2.1 (TX8 8).2.2.1 ∈ wsX8_image := by decide +kernel
def rm_X8_image : Room := { frames := 3, cells := 0, slots := 0, locals := 121 }
set_option maxRecDepth 100000 in
theorem b_X8_image_0 {post : Int → St → Prop} (C : cx p s m args meth c wsX8_image RX8 cX8_image 1 (some .int) D cA) (hA : ∀ q, s.heap.size ≤ q → A q) (hR : RtI p l e rm_X8_image s m args below meth c Q cX8_image D cA K_BT h A (fun _ => True) post) : ∀ {σ : St} {H : Heap} {locs : List Loc} {ls : Array Slot}, wp_X8_image σ post → wd D cA K_BT h σ A s.heap H locs → lh ls 1 [some (.ref (h 0))] → W p l e rm_X8_image s m args below meth c H locs 0 0 Q (F0 m 0 ls []) := by
  intro σ H locs ls hwp hw hl
  refine r_aload_n C dX8_image_0 hl rfl ?_
  refine r_getr C hw clX8 0 rfl 1 17 rfl (Nat.le_of_ble_eq_true rfl) hi_X8_image_X8 hf_X8_image_18 dX8_image_1 ?_
  refine r_aload_n C dX8_image_4 hl rfl ?_
  refine r_getr C hw clX8 0 rfl 0 1 rfl (Nat.le_of_ble_eq_true rfl) hi_X8_image_X8 hf_X8_image_14 dX8_image_5 ?_
  refine r_cV hA hw sb_BT_Setup2_17_34 (run_v C hw sb_BT_Setup2_17_34 clX4 rfl (c_X4_copyFrom hwp) (cwV 1 C.2.2.2.2.1 gX8_image_X4_copyFrom rfl rfl rfl hd_X4_copyFrom ⟨Nat.le_of_ble_eq_true rfl, Nat.le_of_ble_eq_true rfl⟩) rfl rfl rfl hl dX8_image_8 ⟨Nat.zero_le _, Nat.zero_le _⟩) (fun σ H locs hwp hw => ?_)
  have hwp := hwp _ rfl
  refine r_aload_n C dX8_image_11 hl rfl ?_
  refine r_const C dX8_image_12 ?_
  refine r_put C hw clX8 0 rfl 8 8 rfl rfl (Nat.le_of_ble_eq_true rfl) hi_X8_image_X8 hf_X8_image_54 rfl (oi_z (Or.inr rfl)) dX8_image_13 (fun H locs hw => ?_)
  have hwp := hwp _ rfl
  refine r_aload_n C dX8_image_16 hl rfl ?_
  refine r_getr C hw clX8 0 rfl 0 1 rfl (Nat.le_of_ble_eq_true rfl) hi_X8_image_X8 hf_X8_image_14 dX8_image_17 ?_
  refine r_get C hw clX4 1 rfl 2 2 rfl rfl (Nat.le_of_ble_eq_true rfl) hi_X8_image_X4 hf_X8_image_80 dX8_image_20 ?_
  exact hR _ _ _ _ _ _ dX8_image_23 trivial hwp hw
set_option maxRecDepth 100000 in
theorem c_X8_image {l : Launch} {D : va_G} {cA : FieldType → ClassId} {h : Nat → Nat} {σ : St} {sz : Nat} {post : Int → St → Prop} (hwp : wp_X8_image σ post) : Met l yX8_image wsX8_image rm_X8_image (va_Pc [.ref (h 0)] (preS D cA K_BT h σ sz)) (QI D cA K_BT h sz post) 0 0 (aA K_BT.length h sz) := by
  refine mk_met (cc := cX8_image) (nL := 1) (ret := (some .int)) (own := RX8) 0 (by decide) rfl rfl rfl rfl ?_
  intro p e s m args below meth c ls hsz C hw hl hA
  subst hsz
  exact b_X8_image_0 C hA (rt_i C _) hwp hw hl
-- X8_undo
theorem hi_X8_undo_X4 : ∀ w ∈ u_ws RX4 TX4 11, w ∈ wsX8_undo := by decide +kernel
theorem hi_X8_undo_X8 : ∀ w ∈ u_ws RX8 TX8 10, w ∈ wsX8_undo := by decide +kernel
theorem hf_X8_undo_80 : Cond.fieldLink RX8 80 (TX4 2).1 (TX4 2).2.1 (TX4 2).2.2.1 ∈ wsX8_undo := by decide +kernel
theorem hf_X8_undo_14 : Cond.fieldLink RX8 14 (TX8 0).1 (TX8 0).2.1 (TX8 0).2.2.1 ∈ wsX8_undo := by decide +kernel
theorem hf_X8_undo_18 : Cond.fieldLink RX8 18 (TX8 1).1 (TX8 1).2.1 (TX8 1).2.2.1 ∈ wsX8_undo := by decide +kernel
theorem hf_X8_undo_54 : Cond.fieldLink RX8 54 (TX8 8).1 (TX8 8).2.1 (TX8 8).2.2.1 ∈ wsX8_undo := by decide +kernel
theorem hf_X8_undo_58 : Cond.fieldLink RX8 58 (TX8 9).1 (TX8 9).2.1 (TX8 9).2.2.1 ∈ wsX8_undo := by decide +kernel
def rm_X8_undo : Room := { frames := 3, cells := 0, slots := 0, locals := 121 }
set_option maxRecDepth 100000 in
theorem b_X8_undo_0 {post : Int → St → Prop} (C : cx p s m args meth c wsX8_undo RX8 cX8_undo 1 (some .int) D cA) (hA : ∀ q, s.heap.size ≤ q → A q) (hR : RtI p l e rm_X8_undo s m args below meth c Q cX8_undo D cA K_BT h A (fun _ => True) post) : ∀ {σ : St} {H : Heap} {locs : List Loc} {ls : Array Slot}, wp_X8_undo σ post → wd D cA K_BT h σ A s.heap H locs → lh ls 1 [some (.ref (h 0))] → W p l e rm_X8_undo s m args below meth c H locs 0 0 Q (F0 m 0 ls []) := by
  intro σ H locs ls hwp hw hl
  refine r_aload_n C dX8_undo_0 hl rfl ?_
  refine r_get C hw clX8 0 rfl 8 8 rfl rfl (Nat.le_of_ble_eq_true rfl) hi_X8_undo_X8 hf_X8_undo_54 dX8_undo_1 ?_
  obtain ⟨ra, hT, hF⟩ := hwp
  refine r_if_ne C (tgt := 10) dX8_undo_4 rfl ra (fun hc => ?_) (fun hc => ?_)
  · have hwp := hT hc
    refine r_aload_n C dX8_undo_10 hl rfl ?_
    refine r_getr C hw clX8 0 rfl 0 1 rfl (Nat.le_of_ble_eq_true rfl) hi_X8_undo_X8 hf_X8_undo_14 dX8_undo_11 ?_
    refine r_aload_n C dX8_undo_14 hl rfl ?_
    refine r_getr C hw clX8 0 rfl 1 17 rfl (Nat.le_of_ble_eq_true rfl) hi_X8_undo_X8 hf_X8_undo_18 dX8_undo_15 ?_
    refine r_cV hA hw sb_BT_Setup2_1_35 (run_v C hw sb_BT_Setup2_1_35 clX4 rfl (c_X4_copyFrom hwp) (cwV 1 C.2.2.2.2.1 gX8_undo_X4_copyFrom rfl rfl rfl hd_X4_copyFrom ⟨Nat.le_of_ble_eq_true rfl, Nat.le_of_ble_eq_true rfl⟩) rfl rfl rfl hl dX8_undo_18 ⟨Nat.zero_le _, Nat.zero_le _⟩) (fun σ H locs hwp hw => ?_)
    have hwp := hwp _ rfl
    refine r_aload_n C dX8_undo_21 hl rfl ?_
    refine r_const C dX8_undo_22 ?_
    refine r_put C hw clX8 0 rfl 9 9 rfl rfl (Nat.le_of_ble_eq_true rfl) hi_X8_undo_X8 hf_X8_undo_58 rfl (oi_z (Or.inr rfl)) dX8_undo_23 (fun H locs hw => ?_)
    have hwp := hwp _ rfl
    refine r_aload_n C dX8_undo_26 hl rfl ?_
    refine r_getr C hw clX8 0 rfl 0 1 rfl (Nat.le_of_ble_eq_true rfl) hi_X8_undo_X8 hf_X8_undo_14 dX8_undo_27 ?_
    refine r_get C hw clX4 1 rfl 2 2 rfl rfl (Nat.le_of_ble_eq_true rfl) hi_X8_undo_X4 hf_X8_undo_80 dX8_undo_30 ?_
    exact hR _ _ _ _ _ _ dX8_undo_33 trivial hwp hw
  · have hwp := hF hc
    refine r_bipush C dX8_undo_7 bpb_m3 ?_
    exact hR _ _ _ _ _ _ dX8_undo_9 trivial hwp hw
set_option maxRecDepth 100000 in
theorem c_X8_undo {l : Launch} {D : va_G} {cA : FieldType → ClassId} {h : Nat → Nat} {σ : St} {sz : Nat} {post : Int → St → Prop} (hwp : wp_X8_undo σ post) : Met l yX8_undo wsX8_undo rm_X8_undo (va_Pc [.ref (h 0)] (preS D cA K_BT h σ sz)) (QI D cA K_BT h sz post) 0 0 (aA K_BT.length h sz) := by
  refine mk_met (cc := cX8_undo) (nL := 1) (ret := (some .int)) (own := RX8) 0 (by decide) rfl rfl rfl rfl ?_
  intro p e s m args below meth c ls hsz C hw hl hA
  subst hsz
  exact b_X8_undo_0 C hA (rt_i C _) hwp hw hl
-- X8_count
theorem hi_X8_count_X1 : ∀ w ∈ u_ws RX1 TX1 4, w ∈ wsX8_count := by decide +kernel
theorem hi_X8_count_X4 : ∀ w ∈ u_ws RX4 TX4 11, w ∈ wsX8_count := by decide +kernel
theorem hi_X8_count_X5 : ∀ w ∈ u_ws RX5 TX5 8, w ∈ wsX8_count := by decide +kernel
theorem hi_X8_count_X8 : ∀ w ∈ u_ws RX8 TX8 10, w ∈ wsX8_count := by decide +kernel
theorem hf_X8_count_190 : Cond.fieldLink RX8 190 (TX1 3).1 (TX1 3).2.1 (TX1 3).2.2.1 ∈ wsX8_count := by decide +kernel
theorem hf_X8_count_186 : Cond.fieldLink RX8 186 (TX4 8).1 (TX4 8).2.1 (TX4 8).2.2.1 ∈ wsX8_count := by decide +kernel
theorem hf_X8_count_213 : Cond.fieldLink RX8 213 (TX4 9).1 (TX4 9).2.1 (TX4 9).2.2.1 ∈ wsX8_count := by decide +kernel
theorem hf_X8_count_222 : Cond.fieldLink RX8 222 (TX4 10).1 (TX4 10).2.1 (TX4 10).2.2.1 ∈ wsX8_count := by decide +kernel
theorem hf_X8_count_110 : Cond.fieldLink RX8 110 (TX5 0).1 (TX5 0).2.1 (TX5 0).2.2.1 ∈ wsX8_count := by decide +kernel
theorem hf_X8_count_14 : Cond.fieldLink RX8 14 (TX8 0).1 (TX8 0).2.1 (TX8 0).2.2.1 ∈ wsX8_count := by decide +kernel
theorem hf_X8_count_44 : Cond.fieldLink RX8 44 (TX8 6).1 (TX8 6).2.1 (TX8 6).2.2.1 ∈ wsX8_count := by decide +kernel
def rm_X8_count : Room := { frames := 0, cells := 0, slots := 0, locals := 0 }
set_option maxRecDepth 100000 in
theorem b_X8_count_0 {σ : St} {post : Int → Prop} (C : cx p s m args meth c wsX8_count RX8 cX8_count 2 (some .int) D cA) (hA : ∀ q, s.heap.size ≤ q → A q) (hR : RtI p l e rm_X8_count s m args below meth c Q cX8_count D cA K_BT h A (fun _ => True) (fun r σ' => σ' = σ ∧ post r)) : ∀ {v1 : Int} {H : Heap} {locs : List Loc} {ls : Array Slot}, wp_X8_count σ v1 post → wd D cA K_BT h σ A s.heap H locs → lh ls 2 [some (.ref (h 0)), some (iv v1)] → W p l e rm_X8_count s m args below meth c H locs 0 0 Q (F0 m 0 ls []) := by
  intro v1 H locs ls hwp hw hl
  refine r_iload_n C dX8_count_0 hl rfl ?_
  obtain ⟨ra, hS0, hS1, hS2, hS3, hD⟩ := hwp
  rcases sw_0_3 ra with hc | hc | hc | hc | hc
  · have hwp := hS0 hc
    refine r_tin C (tgt := 32) dX8_count_1 ra 0 hc (by decide) (by decide) rfl rfl ?_
    refine r_aload_n C dX8_count_32 hl rfl ?_
    refine r_getr C hw clX8 0 rfl 0 1 rfl (Nat.le_of_ble_eq_true rfl) hi_X8_count_X8 hf_X8_count_14 dX8_count_33 ?_
    refine r_getr C hw clX4 1 rfl 8 5 rfl (Nat.le_of_ble_eq_true rfl) hi_X8_count_X4 hf_X8_count_186 dX8_count_36 ?_
    refine r_get C hw clX1 5 rfl 3 3 rfl rfl (Nat.le_of_ble_eq_true rfl) hi_X8_count_X1 hf_X8_count_190 dX8_count_39 ?_
    exact hR _ _ _ _ _ _ dX8_count_42 trivial ⟨rfl, hwp⟩ hw
  · have hwp := hS1 hc
    refine r_tin C (tgt := 43) dX8_count_1 ra 1 hc (by decide) (by decide) rfl rfl ?_
    refine r_aload_n C dX8_count_43 hl rfl ?_
    refine r_getr C hw clX8 0 rfl 0 1 rfl (Nat.le_of_ble_eq_true rfl) hi_X8_count_X8 hf_X8_count_14 dX8_count_44 ?_
    refine r_getr C hw clX4 1 rfl 9 9 rfl (Nat.le_of_ble_eq_true rfl) hi_X8_count_X4 hf_X8_count_213 dX8_count_47 ?_
    refine r_get C hw clX1 9 rfl 3 3 rfl rfl (Nat.le_of_ble_eq_true rfl) hi_X8_count_X1 hf_X8_count_190 dX8_count_50 ?_
    exact hR _ _ _ _ _ _ dX8_count_53 trivial ⟨rfl, hwp⟩ hw
  · have hwp := hS2 hc
    refine r_tin C (tgt := 54) dX8_count_1 ra 2 hc (by decide) (by decide) rfl rfl ?_
    refine r_aload_n C dX8_count_54 hl rfl ?_
    refine r_getr C hw clX8 0 rfl 0 1 rfl (Nat.le_of_ble_eq_true rfl) hi_X8_count_X8 hf_X8_count_14 dX8_count_55 ?_
    refine r_getr C hw clX4 1 rfl 10 13 rfl (Nat.le_of_ble_eq_true rfl) hi_X8_count_X4 hf_X8_count_222 dX8_count_58 ?_
    refine r_get C hw clX1 13 rfl 3 3 rfl rfl (Nat.le_of_ble_eq_true rfl) hi_X8_count_X1 hf_X8_count_190 dX8_count_61 ?_
    exact hR _ _ _ _ _ _ dX8_count_64 trivial ⟨rfl, hwp⟩ hw
  · have hwp := hS3 hc
    refine r_tin C (tgt := 65) dX8_count_1 ra 3 hc (by decide) (by decide) rfl rfl ?_
    refine r_aload_n C dX8_count_65 hl rfl ?_
    refine r_getr C hw clX8 0 rfl 6 74 rfl (Nat.le_of_ble_eq_true rfl) hi_X8_count_X8 hf_X8_count_44 dX8_count_66 ?_
    refine r_get C hw clX5 74 rfl 0 0 rfl rfl (Nat.le_of_ble_eq_true rfl) hi_X8_count_X5 hf_X8_count_110 dX8_count_69 ?_
    exact hR _ _ _ _ _ _ dX8_count_72 trivial ⟨rfl, hwp⟩ hw
  · have hwp := hD hc
    refine r_tout C (tgt := 73) dX8_count_1 ra hc rfl ?_
    refine r_bipush C dX8_count_73 bpb_m2 ?_
    exact hR _ _ _ _ _ _ dX8_count_75 trivial ⟨rfl, hwp⟩ hw
set_option maxRecDepth 100000 in
theorem c_X8_count {l : Launch} {D : va_G} {cA : FieldType → ClassId} {h : Nat → Nat} {σ : St} {sz : Nat} {v1 : Int} {post : Int → Prop} (hwp : wp_X8_count σ v1 post) : Met l yX8_count wsX8_count rm_X8_count (va_Pc [.ref (h 0), iv v1] (preS D cA K_BT h σ sz)) (QI D cA K_BT h sz (fun r σ' => σ' = σ ∧ post r)) 0 0 (aA K_BT.length h sz) := by
  refine mk_met (cc := cX8_count) (nL := 2) (ret := (some .int)) (own := RX8) 0 (by decide) rfl rfl rfl rfl ?_
  intro p e s m args below meth c ls hsz C hw hl hA
  subst hsz
  exact b_X8_count_0 C hA (rt_i C _) hwp hw hl
-- X8_tape
theorem hi_X8_tape_X8 : ∀ w ∈ u_ws RX8 TX8 10, w ∈ wsX8_tape := by decide +kernel
theorem hf_X8_tape_50 : Cond.fieldLink RX8 50 (TX8 7).1 (TX8 7).2.1 (TX8 7).2.2.1 ∈ wsX8_tape := by decide +kernel
def rm_X8_tape : Room := { frames := 1, cells := 0, slots := 0, locals := 23 }
set_option maxRecDepth 100000 in
theorem b_X8_tape_0 {post : Int → St → Prop} (C : cx p s m args meth c wsX8_tape RX8 cX8_tape 4 (some .int) D cA) (hA : ∀ q, s.heap.size ≤ q → A q) (hR : RtI p l e rm_X8_tape s m args below meth c Q cX8_tape D cA K_BT h A (fun _ => True) post) : ∀ {v1 v2 v3 : Int} {σ : St} {H : Heap} {locs : List Loc} {ls : Array Slot}, wp_X8_tape σ v1 v2 v3 post → wd D cA K_BT h σ A s.heap H locs → lh ls 4 [some (.ref (h 0)), some (iv v1), some (iv v2), some (iv v3)] → W p l e rm_X8_tape s m args below meth c H locs 0 0 Q (F0 m 0 ls []) := by
  intro v1 v2 v3 σ H locs ls hwp hw hl
  refine r_iload_n C dX8_tape_0 hl rfl ?_
  refine r_cIr hA hw sb_BT_0_0_21 (run_s C hw sb_BT_0_0_21 (c_X8_isTape hwp) (va_cwS 1 C.2.2.2.2.1 gX8_tape_X8_isTape rfl rfl rfl hd_X8_isTape ⟨Nat.le_of_ble_eq_true rfl, Nat.le_of_ble_eq_true rfl⟩) rfl rfl rfl hl dX8_tape_1 ⟨Nat.zero_le _, Nat.zero_le _⟩) (fun r H locs hwp hw => ?_)
  obtain ⟨ra, hT, hF⟩ := hwp
  refine r_if_ne C (tgt := 9) dX8_tape_4 rfl ra (fun hc => ?_) (fun hc => ?_)
  · have hwp := hT hc
    refine r_iload_n C dX8_tape_9 hl rfl ?_
    refine r_const C dX8_tape_10 ?_
    obtain ⟨ra, hT, hF⟩ := hwp
    refine r_icmp_lt C (tgt := 19) dX8_tape_11 rfl ra (by decide) (fun hc => ?_) (fun hc => ?_)
    · have hwp := hT hc
      refine r_bipush C dX8_tape_19 bpb_m2 ?_
      exact hR _ _ _ _ _ _ dX8_tape_21 trivial hwp hw
    · have hwp := hF hc
      refine r_iload_n C dX8_tape_14 hl rfl ?_
      refine r_const C dX8_tape_15 ?_
      obtain ⟨ra, hT, hF⟩ := hwp
      refine r_icmp_le C (tgt := 22) dX8_tape_16 rfl ra (by decide) (fun hc => ?_) (fun hc => ?_)
      · have hwp := hT hc
        refine r_iload_n C dX8_tape_22 hl rfl ?_
        refine r_const C dX8_tape_23 ?_
        obtain ⟨ra, hT, hF⟩ := hwp
        refine r_icmp_ne C (tgt := 40) dX8_tape_24 rfl ra (by decide) (fun hc => ?_) (fun hc => ?_)
        · have hwp := hT hc
          refine r_iload_n C dX8_tape_40 hl rfl ?_
          refine r_bipush C dX8_tape_41 bpb_60 ?_
          obtain ⟨ra, hT, hF⟩ := hwp
          refine r_icmp_le C (tgt := 49) dX8_tape_43 rfl ra (by decide) (fun hc => ?_) (fun hc => ?_)
          · have hwp := hT hc
            refine r_iload_n C dX8_tape_49 hl rfl ?_
            obtain ⟨ra, hT, hF⟩ := hwp
            refine r_if_ge C (tgt := 56) dX8_tape_50 rfl ra (fun hc => ?_) (fun hc => ?_)
            · have hwp := hT hc
              refine r_aload_n C dX8_tape_56 hl rfl ?_
              refine r_getr C hw clX8 0 rfl 7 79 rfl (Nat.le_of_ble_eq_true rfl) hi_X8_tape_X8 hf_X8_tape_50 dX8_tape_57 ?_
              refine r_iload_n C dX8_tape_60 hl rfl ?_
              obtain ⟨h0, h1, hwp⟩ := hwp
              have hv1 : (v1).toNat < 6 := by omega
              refine r_aald C hw 79 rfl rfl h0 h1 (80 + 2 * (v1).toNat) (kt_r hv1) dX8_tape_61 ?_
              refine r_iload_n C dX8_tape_62 hl rfl ?_
              refine r_iload_n C dX8_tape_63 hl rfl ?_
              refine r_cV hA hw (sub_tape hv1) (run_v C hw (sub_tape hv1) clX6 rfl (c_X6_begin hwp) (cwV 2 C.2.2.2.2.1 gX8_tape_X6_begin rfl rfl rfl hd_X6_begin ⟨Nat.le_of_ble_eq_true rfl, Nat.le_of_ble_eq_true rfl⟩) rfl rfl rfl hl dX8_tape_64 ⟨Nat.zero_le _, Nat.zero_le _⟩) (fun σ H locs hwp hw => ?_)
              have hwp := hwp _ rfl
              refine r_const C dX8_tape_67 ?_
              exact hR _ _ _ _ _ _ dX8_tape_68 trivial hwp hw
            · have hwp := hF hc
              refine r_bipush C dX8_tape_53 bpb_m14 ?_
              exact hR _ _ _ _ _ _ dX8_tape_55 trivial hwp hw
          · have hwp := hF hc
            refine r_bipush C dX8_tape_46 bpb_m2 ?_
            exact hR _ _ _ _ _ _ dX8_tape_48 trivial hwp hw
        · have hwp := hF hc
          refine r_aload_n C dX8_tape_27 hl rfl ?_
          refine r_getr C hw clX8 0 rfl 7 79 rfl (Nat.le_of_ble_eq_true rfl) hi_X8_tape_X8 hf_X8_tape_50 dX8_tape_28 ?_
          refine r_iload_n C dX8_tape_31 hl rfl ?_
          obtain ⟨h0, h1, hwp⟩ := hwp
          have hv1 : (v1).toNat < 6 := by omega
          refine r_aald C hw 79 rfl rfl h0 h1 (80 + 2 * (v1).toNat) (kt_r hv1) dX8_tape_32 ?_
          refine r_const C dX8_tape_33 ?_
          refine r_const C dX8_tape_34 ?_
          refine r_cV hA hw (sub_tape hv1) (run_v C hw (sub_tape hv1) clX6 rfl (c_X6_begin hwp) (cwV 2 C.2.2.2.2.1 gX8_tape_X6_begin rfl rfl rfl hd_X6_begin ⟨Nat.le_of_ble_eq_true rfl, Nat.le_of_ble_eq_true rfl⟩) rfl rfl rfl hl dX8_tape_35 ⟨Nat.zero_le _, Nat.zero_le _⟩) (fun σ H locs hwp hw => ?_)
          have hwp := hwp _ rfl
          refine r_const C dX8_tape_38 ?_
          exact hR _ _ _ _ _ _ dX8_tape_39 trivial hwp hw
      · have hwp := hF hc
        refine r_bipush C dX8_tape_19 bpb_m2 ?_
        exact hR _ _ _ _ _ _ dX8_tape_21 trivial hwp hw
  · have hwp := hF hc
    refine r_const C dX8_tape_7 ?_
    exact hR _ _ _ _ _ _ dX8_tape_8 trivial hwp hw
set_option maxRecDepth 100000 in
theorem c_X8_tape {l : Launch} {D : va_G} {cA : FieldType → ClassId} {h : Nat → Nat} {σ : St} {sz : Nat} {v1 v2 v3 : Int} {post : Int → St → Prop} (hwp : wp_X8_tape σ v1 v2 v3 post) : Met l yX8_tape wsX8_tape rm_X8_tape (va_Pc [.ref (h 0), iv v1, iv v2, iv v3] (preS D cA K_BT h σ sz)) (QI D cA K_BT h sz post) 0 0 (aA K_BT.length h sz) := by
  refine mk_met (cc := cX8_tape) (nL := 4) (ret := (some .int)) (own := RX8) 0 (by decide) rfl rfl rfl rfl ?_
  intro p e s m args below meth c ls hsz C hw hl hA
  subst hsz
  exact b_X8_tape_0 C hA (rt_i C _) hwp hw hl
-- X8_item
theorem hi_X8_item_X6 : ∀ w ∈ u_ws RX6 TX6 3, w ∈ wsX8_item := by decide +kernel
theorem hi_X8_item_X8 : ∀ w ∈ u_ws RX8 TX8 10, w ∈ wsX8_item := by decide +kernel
theorem hf_X8_item_234 : Cond.fieldLink RX8 234 (TX6 0).1 (TX6 0).2.1 (TX6 0).2.2.1 ∈ wsX8_item := by decide +kernel
theorem hf_X8_item_240 : Cond.fieldLink RX8 240 (TX6 2).1 (TX6 2).2.1 (TX6 2).2.2.1 ∈ wsX8_item := by decide +kernel
theorem hf_X8_item_50 : Cond.fieldLink RX8 50 (TX8 7).1 (TX8 7).2.1 (TX8 7).2.2.1 ∈ wsX8_item := by decide +kernel
def rm_X8_item : Room := { frames := 1, cells := 0, slots := 0, locals := 22 }
set_option maxRecDepth 100000 in
theorem b_X8_item_0 {post : Int → St → Prop} (C : cx p s m args meth c wsX8_item RX8 cX8_item 6 (some .int) D cA) (hA : ∀ q, s.heap.size ≤ q → A q) (hR : RtI p l e rm_X8_item s m args below meth c Q cX8_item D cA K_BT h A (fun _ => True) post) : ∀ {v1 v2 v3 : Int} {σ : St} {H : Heap} {locs : List Loc} {ls : Array Slot}, wp_X8_item σ v1 v2 v3 post → wd D cA K_BT h σ A s.heap H locs → lh ls 6 [some (.ref (h 0)), some (iv v1), some (iv v2), some (jv v3), none, none] → W p l e rm_X8_item s m args below meth c H locs 0 0 Q (F0 m 0 ls []) := by
  intro v1 v2 v3 σ H locs ls hwp hw hl
  refine r_iload_n C dX8_item_0 hl rfl ?_
  refine r_cIr hA hw sb_BT_0_0_21 (run_s C hw sb_BT_0_0_21 (c_X8_isTape hwp) (va_cwS 1 C.2.2.2.2.1 gX8_item_X8_isTape rfl rfl rfl hd_X8_isTape ⟨Nat.le_of_ble_eq_true rfl, Nat.le_of_ble_eq_true rfl⟩) rfl rfl rfl hl dX8_item_1 ⟨Nat.zero_le _, Nat.zero_le _⟩) (fun r H locs hwp hw => ?_)
  obtain ⟨ra, hT, hF⟩ := hwp
  refine r_if_ne C (tgt := 9) dX8_item_4 rfl ra (fun hc => ?_) (fun hc => ?_)
  · have hwp := hT hc
    refine r_aload_n C dX8_item_9 hl rfl ?_
    refine r_getr C hw clX8 0 rfl 7 79 rfl (Nat.le_of_ble_eq_true rfl) hi_X8_item_X8 hf_X8_item_50 dX8_item_10 ?_
    refine r_iload_n C dX8_item_13 hl rfl ?_
    obtain ⟨h0, h1, hwp⟩ := hwp
    have hv1 : (v1).toNat < 6 := by omega
    refine r_aald C hw 79 rfl rfl h0 h1 (80 + 2 * (v1).toNat) (kt_r hv1) dX8_item_14 ?_
    refine r_astore C dX8_item_15 hl (Nat.le_of_ble_eq_true rfl) (Nat.le_of_ble_eq_true rfl) rfl (fun ls hl => ?_)
    refine r_aload C dX8_item_17 hl rfl ?_
    refine r_get C hw clX6 (80 + 2 * (v1).toNat) (kt_o hv1) 0 0 rfl rfl (Nat.le_of_ble_eq_true rfl) hi_X8_item_X6 hf_X8_item_234 dX8_item_19 ?_
    refine r_const C dX8_item_22 ?_
    obtain ⟨ra, hT, hF⟩ := hwp
    refine r_icmp_ne C (tgt := 29) dX8_item_23 rfl ra (by decide) (fun hc => ?_) (fun hc => ?_)
    · have hwp := hT hc
      refine r_aload C dX8_item_29 hl rfl ?_
      refine r_iload_n C dX8_item_31 hl rfl ?_
      refine r_const C dX8_item_32 ?_
      refine r_cIr hA hw (sub_tape hv1) (run_v C hw (sub_tape hv1) clX6 rfl (c_X6_has hwp) (cwV 2 C.2.2.2.2.1 gX8_item_X6_has rfl rfl rfl hd_X6_has ⟨Nat.le_of_ble_eq_true rfl, Nat.le_of_ble_eq_true rfl⟩) rfl rfl rfl hl dX8_item_33 ⟨Nat.zero_le _, Nat.zero_le _⟩) (fun r H locs hwp hw => ?_)
      obtain ⟨ra, hT, hF⟩ := hwp
      refine r_if_ne C (tgt := 42) dX8_item_36 rfl ra (fun hc => ?_) (fun hc => ?_)
      · have hwp := hT hc
        refine r_aload C dX8_item_42 hl rfl ?_
        refine r_getr C hw clX6 (80 + 2 * (v1).toNat) (kt_o hv1) 2 (81 + 2 * (v1).toNat) rfl (Nat.le_of_ble_eq_true rfl) hi_X8_item_X6 hf_X8_item_240 dX8_item_44 ?_
        refine r_iload_n C dX8_item_47 hl rfl ?_
        refine r_aload C dX8_item_48 hl rfl ?_
        refine r_get C hw clX6 (80 + 2 * (v1).toNat) (kt_o hv1) 0 0 rfl rfl (Nat.le_of_ble_eq_true rfl) hi_X8_item_X6 hf_X8_item_234 dX8_item_50 ?_
        refine r_lload_n C dX8_item_53 hl rfl ?_
        refine r_cLr hA hw sb_BT_0_0_21 (run_s C hw sb_BT_0_0_21 (c_X6_narrowed hwp) (va_cwS 2 C.2.2.2.2.1 gX8_item_X6_narrowed rfl rfl rfl hd_X6_narrowed ⟨Nat.le_of_ble_eq_true rfl, Nat.le_of_ble_eq_true rfl⟩) rfl rfl rfl hl dX8_item_54 ⟨Nat.zero_le _, Nat.zero_le _⟩) (fun r H locs hwp hw => ?_)
        obtain ⟨h0, h1, hwp⟩ := hwp
        refine r_last C hw (81 + 2 * (v1).toNat) (kt_a hv1) rfl h0 h1 dX8_item_57 (fun H locs hw => ?_)
        have hwp := hwp _ rfl
        refine r_const C dX8_item_58 ?_
        exact hR _ _ _ _ _ _ dX8_item_59 trivial hwp hw
      · have hwp := hF hc
        refine r_bipush C dX8_item_39 bpb_m13 ?_
        exact hR _ _ _ _ _ _ dX8_item_41 trivial hwp hw
    · have hwp := hF hc
      refine r_bipush C dX8_item_26 bpb_m11 ?_
      exact hR _ _ _ _ _ _ dX8_item_28 trivial hwp hw
  · have hwp := hF hc
    refine r_const C dX8_item_7 ?_
    exact hR _ _ _ _ _ _ dX8_item_8 trivial hwp hw
set_option maxRecDepth 100000 in
theorem c_X8_item {l : Launch} {D : va_G} {cA : FieldType → ClassId} {h : Nat → Nat} {σ : St} {sz : Nat} {v1 v2 v3 : Int} {post : Int → St → Prop} (hwp : wp_X8_item σ v1 v2 v3 post) : Met l yX8_item wsX8_item rm_X8_item (va_Pc [.ref (h 0), iv v1, iv v2, jv v3] (preS D cA K_BT h σ sz)) (QI D cA K_BT h sz post) 0 0 (aA K_BT.length h sz) := by
  refine mk_met (cc := cX8_item) (nL := 6) (ret := (some .int)) (own := RX8) 1 (by decide) rfl rfl rfl rfl ?_
  intro p e s m args below meth c ls hsz C hw hl hA
  subst hsz
  exact b_X8_item_0 C hA (rt_i C _) hwp hw hl
-- X8_peek
theorem hi_X8_peek_X6 : ∀ w ∈ u_ws RX6 TX6 3, w ∈ wsX8_peek := by decide +kernel
theorem hi_X8_peek_X8 : ∀ w ∈ u_ws RX8 TX8 10, w ∈ wsX8_peek := by decide +kernel
theorem hf_X8_peek_240 : Cond.fieldLink RX8 240 (TX6 2).1 (TX6 2).2.1 (TX6 2).2.2.1 ∈ wsX8_peek := by decide +kernel
theorem hf_X8_peek_50 : Cond.fieldLink RX8 50 (TX8 7).1 (TX8 7).2.1 (TX8 7).2.2.1 ∈ wsX8_peek := by decide +kernel
def rm_X8_peek : Room := { frames := 1, cells := 0, slots := 0, locals := 22 }
set_option maxRecDepth 100000 in
theorem b_X8_peek_21 {σ : St} {post : Int → Prop} (C : cx p s m args meth c wsX8_peek RX8 cX8_peek 3 (some .long) D cA) (hA : ∀ q, s.heap.size ≤ q → A q) (hR : RtL p l e rm_X8_peek s m args below meth c Q cX8_peek D cA K_BT h A (fun r σ' => σ' = σ ∧ post r)) : ∀ {v1 v2 : Int} {H : Heap} {locs : List Loc} {ls : Array Slot}, wp_X8_peek_21 post v1 v2 σ → wd D cA K_BT h σ A s.heap H locs → lh ls 3 [some (.ref (h 0)), some (iv v1), some (iv v2)] → W p l e rm_X8_peek s m args below meth c H locs 0 0 Q (F0 m 21 ls []) := by
  intro v1 v2 H locs ls hwp hw hl
  refine r_ldc2 C (n := -9223372036854775808) (by decide +kernel) dX8_peek_21 ?_
  exact hR _ _ _ _ _ _ dX8_peek_24 ⟨rfl, hwp⟩ hw
set_option maxRecDepth 100000 in
theorem b_X8_peek_0 {σ : St} {post : Int → Prop} (C : cx p s m args meth c wsX8_peek RX8 cX8_peek 3 (some .long) D cA) (hA : ∀ q, s.heap.size ≤ q → A q) (hR : RtL p l e rm_X8_peek s m args below meth c Q cX8_peek D cA K_BT h A (fun r σ' => σ' = σ ∧ post r)) : ∀ {v1 v2 : Int} {H : Heap} {locs : List Loc} {ls : Array Slot}, wp_X8_peek σ v1 v2 post → wd D cA K_BT h σ A s.heap H locs → lh ls 3 [some (.ref (h 0)), some (iv v1), some (iv v2)] → W p l e rm_X8_peek s m args below meth c H locs 0 0 Q (F0 m 0 ls []) := by
  intro v1 v2 H locs ls hwp hw hl
  refine r_iload_n C dX8_peek_0 hl rfl ?_
  refine r_cIr hA hw sb_BT_0_0_21 (run_s C hw sb_BT_0_0_21 (c_X8_isTape hwp) (va_cwS 1 C.2.2.2.2.1 gX8_peek_X8_isTape rfl rfl rfl hd_X8_isTape ⟨Nat.le_of_ble_eq_true rfl, Nat.le_of_ble_eq_true rfl⟩) rfl rfl rfl hl dX8_peek_1 ⟨Nat.zero_le _, Nat.zero_le _⟩) (fun r H locs hwp hw => ?_)
  obtain ⟨ra, hT, hF⟩ := hwp
  refine r_if_eq C (tgt := 21) dX8_peek_4 rfl ra (fun hc => ?_) (fun hc => ?_)
  · have hwp := hT hc
    exact b_X8_peek_21 C hA hR hwp hw (lh_mask hl [true, true, true])
  · have hwp := hF hc
    refine r_aload_n C dX8_peek_7 hl rfl ?_
    refine r_getr C hw clX8 0 rfl 7 79 rfl (Nat.le_of_ble_eq_true rfl) hi_X8_peek_X8 hf_X8_peek_50 dX8_peek_8 ?_
    refine r_iload_n C dX8_peek_11 hl rfl ?_
    obtain ⟨h0, h1, hwp⟩ := hwp
    have hv1 : (v1).toNat < 6 := by omega
    refine r_aald C hw 79 rfl rfl h0 h1 (80 + 2 * (v1).toNat) (kt_r hv1) dX8_peek_12 ?_
    refine r_iload_n C dX8_peek_13 hl rfl ?_
    refine r_const C dX8_peek_14 ?_
    refine r_cIr hA hw (sub_tape hv1) (run_v C hw (sub_tape hv1) clX6 rfl (c_X6_has hwp) (cwV 2 C.2.2.2.2.1 gX8_peek_X6_has rfl rfl rfl hd_X6_has ⟨Nat.le_of_ble_eq_true rfl, Nat.le_of_ble_eq_true rfl⟩) rfl rfl rfl hl dX8_peek_15 ⟨Nat.zero_le _, Nat.zero_le _⟩) (fun r H locs hwp hw => ?_)
    obtain ⟨ra, hT, hF⟩ := hwp
    refine r_if_ne C (tgt := 25) dX8_peek_18 rfl ra (fun hc => ?_) (fun hc => ?_)
    · have hwp := hT hc
      refine r_aload_n C dX8_peek_25 hl rfl ?_
      refine r_getr C hw clX8 0 rfl 7 79 rfl (Nat.le_of_ble_eq_true rfl) hi_X8_peek_X8 hf_X8_peek_50 dX8_peek_26 ?_
      refine r_iload_n C dX8_peek_29 hl rfl ?_
      obtain ⟨h0, h1, hwp⟩ := hwp
      have hv1 : (v1).toNat < 6 := by omega
      refine r_aald C hw 79 rfl rfl h0 h1 (80 + 2 * (v1).toNat) (kt_r hv1) dX8_peek_30 ?_
      refine r_getr C hw clX6 (80 + 2 * (v1).toNat) (kt_o hv1) 2 (81 + 2 * (v1).toNat) rfl (Nat.le_of_ble_eq_true rfl) hi_X8_peek_X6 hf_X8_peek_240 dX8_peek_31 ?_
      refine r_iload_n C dX8_peek_34 hl rfl ?_
      obtain ⟨h0, h1, hwp⟩ := hwp
      refine r_lald C hw (81 + 2 * (v1).toNat) (kt_a hv1) rfl h0 h1 dX8_peek_35 ?_
      exact hR _ _ _ _ _ _ dX8_peek_36 ⟨rfl, hwp⟩ hw
    · have hwp := hF hc
      exact b_X8_peek_21 C hA hR hwp hw (lh_mask hl [true, true, true])
set_option maxRecDepth 100000 in
theorem c_X8_peek {l : Launch} {D : va_G} {cA : FieldType → ClassId} {h : Nat → Nat} {σ : St} {sz : Nat} {v1 v2 : Int} {post : Int → Prop} (hwp : wp_X8_peek σ v1 v2 post) : Met l yX8_peek wsX8_peek rm_X8_peek (va_Pc [.ref (h 0), iv v1, iv v2] (preS D cA K_BT h σ sz)) (QL D cA K_BT h sz (fun r σ' => σ' = σ ∧ post r)) 0 0 (aA K_BT.length h sz) := by
  refine mk_met (cc := cX8_peek) (nL := 3) (ret := (some .long)) (own := RX8) 0 (by decide) rfl rfl rfl rfl ?_
  intro p e s m args below meth c ls hsz C hw hl hA
  subst hsz
  exact b_X8_peek_0 C hA (rt_l C _) hwp hw hl
-- X8_shift
theorem hi_X8_shift_X6 : ∀ w ∈ u_ws RX6 TX6 3, w ∈ wsX8_shift := by decide +kernel
theorem hi_X8_shift_X8 : ∀ w ∈ u_ws RX8 TX8 10, w ∈ wsX8_shift := by decide +kernel
theorem hf_X8_shift_234 : Cond.fieldLink RX8 234 (TX6 0).1 (TX6 0).2.1 (TX6 0).2.2.1 ∈ wsX8_shift := by decide +kernel
theorem hf_X8_shift_240 : Cond.fieldLink RX8 240 (TX6 2).1 (TX6 2).2.1 (TX6 2).2.2.1 ∈ wsX8_shift := by decide +kernel
theorem hf_X8_shift_50 : Cond.fieldLink RX8 50 (TX8 7).1 (TX8 7).2.1 (TX8 7).2.2.1 ∈ wsX8_shift := by decide +kernel
def rm_X8_shift : Room := { frames := 1, cells := 0, slots := 0, locals := 100 }
set_option maxRecDepth 100000 in
theorem b_X8_shift_0 {post : Int → St → Prop} (C : cx p s m args meth c wsX8_shift RX8 cX8_shift 8 (some .int) D cA) (hA : ∀ q, s.heap.size ≤ q → A q) (hR : RtI p l e rm_X8_shift s m args below meth c Q cX8_shift D cA K_BT h A (fun _ => True) post) : ∀ {v1 v2 v3 v4 v5 : Int} {σ : St} {H : Heap} {locs : List Loc} {ls : Array Slot}, wp_X8_shift σ v1 v2 v3 v4 v5 post → wd D cA K_BT h σ A s.heap H locs → lh ls 8 [some (.ref (h 0)), some (iv v1), some (iv v2), some (iv v3), some (iv v4), some (iv v5), none, none] → W p l e rm_X8_shift s m args below meth c H locs 0 0 Q (F0 m 0 ls []) := by
  intro v1 v2 v3 v4 v5 σ H locs ls hwp hw hl
  refine r_iload_n C dX8_shift_0 hl rfl ?_
  refine r_cIr hA hw sb_BT_0_0_21 (run_s C hw sb_BT_0_0_21 (c_X8_isTape hwp) (va_cwS 1 C.2.2.2.2.1 gX8_shift_X8_isTape rfl rfl rfl hd_X8_isTape ⟨Nat.le_of_ble_eq_true rfl, Nat.le_of_ble_eq_true rfl⟩) rfl rfl rfl hl dX8_shift_1 ⟨Nat.zero_le _, Nat.zero_le _⟩) (fun r H locs hwp hw => ?_)
  obtain ⟨ra, hT, hF⟩ := hwp
  refine r_if_eq C (tgt := 14) dX8_shift_4 rfl ra (fun hc => ?_) (fun hc => ?_)
  · have hwp := hT hc
    refine r_const C dX8_shift_14 ?_
    exact hR _ _ _ _ _ _ dX8_shift_15 trivial hwp hw
  · have hwp := hF hc
    refine r_iload_n C dX8_shift_7 hl rfl ?_
    refine r_cIr hA hw sb_BT_0_0_21 (run_s C hw sb_BT_0_0_21 (c_X8_isTape hwp) (va_cwS 1 C.2.2.2.2.1 gX8_shift_X8_isTape rfl rfl rfl hd_X8_isTape ⟨Nat.le_of_ble_eq_true rfl, Nat.le_of_ble_eq_true rfl⟩) rfl rfl rfl hl dX8_shift_8 ⟨Nat.zero_le _, Nat.zero_le _⟩) (fun r H locs hwp hw => ?_)
    obtain ⟨ra, hT, hF⟩ := hwp
    refine r_if_ne C (tgt := 16) dX8_shift_11 rfl ra (fun hc => ?_) (fun hc => ?_)
    · have hwp := hT hc
      refine r_aload_n C dX8_shift_16 hl rfl ?_
      refine r_getr C hw clX8 0 rfl 7 79 rfl (Nat.le_of_ble_eq_true rfl) hi_X8_shift_X8 hf_X8_shift_50 dX8_shift_17 ?_
      refine r_iload_n C dX8_shift_20 hl rfl ?_
      obtain ⟨h0, h1, hwp⟩ := hwp
      have hv1 : (v1).toNat < 6 := by omega
      refine r_aald C hw 79 rfl rfl h0 h1 (80 + 2 * (v1).toNat) (kt_r hv1) dX8_shift_21 ?_
      refine r_astore C dX8_shift_22 hl (Nat.le_of_ble_eq_true rfl) (Nat.le_of_ble_eq_true rfl) rfl (fun ls hl => ?_)
      refine r_aload_n C dX8_shift_24 hl rfl ?_
      refine r_getr C hw clX8 0 rfl 7 79 rfl (Nat.le_of_ble_eq_true rfl) hi_X8_shift_X8 hf_X8_shift_50 dX8_shift_25 ?_
      refine r_iload_n C dX8_shift_28 hl rfl ?_
      obtain ⟨h0, h1, hwp⟩ := hwp
      have hv3 : (v3).toNat < 6 := by omega
      refine r_aald C hw 79 rfl rfl h0 h1 (80 + 2 * (v3).toNat) (kt_r hv3) dX8_shift_29 ?_
      refine r_astore C dX8_shift_30 hl (Nat.le_of_ble_eq_true rfl) (Nat.le_of_ble_eq_true rfl) rfl (fun ls hl => ?_)
      refine r_aload C dX8_shift_32 hl rfl ?_
      refine r_get C hw clX6 (80 + 2 * (v1).toNat) (kt_o hv1) 0 0 rfl rfl (Nat.le_of_ble_eq_true rfl) hi_X8_shift_X6 hf_X8_shift_234 dX8_shift_34 ?_
      refine r_const C dX8_shift_37 ?_
      obtain ⟨ra, hT, hF⟩ := hwp
      refine r_icmp_eq C (tgt := 50) dX8_shift_38 rfl ra (by decide) (fun hc => ?_) (fun hc => ?_)
      · have hwp := hT hc
        refine r_bipush C dX8_shift_50 bpb_m11 ?_
        exact hR _ _ _ _ _ _ dX8_shift_52 trivial hwp hw
      · have hwp := hF hc
        refine r_aload C dX8_shift_41 hl rfl ?_
        refine r_get C hw clX6 (80 + 2 * (v3).toNat) (kt_o hv3) 0 0 rfl rfl (Nat.le_of_ble_eq_true rfl) hi_X8_shift_X6 hf_X8_shift_234 dX8_shift_43 ?_
        refine r_const C dX8_shift_46 ?_
        obtain ⟨ra, hT, hF⟩ := hwp
        refine r_icmp_ne C (tgt := 53) dX8_shift_47 rfl ra (by decide) (fun hc => ?_) (fun hc => ?_)
        · have hwp := hT hc
          refine r_aload C dX8_shift_53 hl rfl ?_
          refine r_get C hw clX6 (80 + 2 * (v1).toNat) (kt_o hv1) 0 0 rfl rfl (Nat.le_of_ble_eq_true rfl) hi_X8_shift_X6 hf_X8_shift_234 dX8_shift_55 ?_
          refine r_aload C dX8_shift_58 hl rfl ?_
          refine r_get C hw clX6 (80 + 2 * (v3).toNat) (kt_o hv3) 0 0 rfl rfl (Nat.le_of_ble_eq_true rfl) hi_X8_shift_X6 hf_X8_shift_234 dX8_shift_60 ?_
          obtain ⟨ra, rb, hT, hF⟩ := hwp
          refine r_icmp_eq C (tgt := 69) dX8_shift_63 rfl ra rb (fun hc => ?_) (fun hc => ?_)
          · have hwp := hT hc
            refine r_aload C dX8_shift_69 hl rfl ?_
            refine r_iload_n C dX8_shift_71 hl rfl ?_
            refine r_iload C dX8_shift_72 hl rfl ?_
            refine r_cIr hA hw (sub_tape hv1) (run_v C hw (sub_tape hv1) clX6 rfl (c_X6_has hwp) (cwV 2 C.2.2.2.2.1 gX8_shift_X6_has rfl rfl rfl hd_X6_has ⟨Nat.le_of_ble_eq_true rfl, Nat.le_of_ble_eq_true rfl⟩) rfl rfl rfl hl dX8_shift_74 ⟨Nat.zero_le _, Nat.zero_le _⟩) (fun r H locs hwp hw => ?_)
            obtain ⟨ra, hT, hF⟩ := hwp
            refine r_if_eq C (tgt := 92) dX8_shift_77 rfl ra (fun hc => ?_) (fun hc => ?_)
            · have hwp := hT hc
              refine r_bipush C dX8_shift_92 bpb_m13 ?_
              exact hR _ _ _ _ _ _ dX8_shift_94 trivial hwp hw
            · have hwp := hF hc
              refine r_aload C dX8_shift_80 hl rfl ?_
              refine r_iload C dX8_shift_82 hl rfl ?_
              refine r_iload C dX8_shift_84 hl rfl ?_
              refine r_cIr hA hw (sub_tape hv3) (run_v C hw (sub_tape hv3) clX6 rfl (c_X6_has hwp) (cwV 2 C.2.2.2.2.1 gX8_shift_X6_has rfl rfl rfl hd_X6_has ⟨Nat.le_of_ble_eq_true rfl, Nat.le_of_ble_eq_true rfl⟩) rfl rfl rfl hl dX8_shift_86 ⟨Nat.zero_le _, Nat.zero_le _⟩) (fun r H locs hwp hw => ?_)
              obtain ⟨ra, hT, hF⟩ := hwp
              refine r_if_ne C (tgt := 95) dX8_shift_89 rfl ra (fun hc => ?_) (fun hc => ?_)
              · have hwp := hT hc
                refine r_aload C dX8_shift_95 hl rfl ?_
                refine r_getr C hw clX6 (80 + 2 * (v1).toNat) (kt_o hv1) 2 (81 + 2 * (v1).toNat) rfl (Nat.le_of_ble_eq_true rfl) hi_X8_shift_X6 hf_X8_shift_240 dX8_shift_97 ?_
                refine r_iload_n C dX8_shift_100 hl rfl ?_
                refine r_aload C dX8_shift_101 hl rfl ?_
                refine r_getr C hw clX6 (80 + 2 * (v3).toNat) (kt_o hv3) 2 (81 + 2 * (v3).toNat) rfl (Nat.le_of_ble_eq_true rfl) hi_X8_shift_X6 hf_X8_shift_240 dX8_shift_103 ?_
                refine r_iload C dX8_shift_106 hl rfl ?_
                refine r_iload C dX8_shift_108 hl rfl ?_
                obtain ⟨h1, h2, h3, h4, h5, hwp⟩ := hwp
                refine r_copy_long C hw hl (81 + 2 * (v1).toNat) (81 + 2 * (v3).toNat) (kt_a hv1) (kt_a hv3) rfl rfl (by decide +kernel) (by decide +kernel) (by decide +kernel) (by decide +kernel) h1 h2 h3 h4 h5 (Nat.le_of_ble_eq_true rfl) (Nat.le_of_ble_eq_true rfl) dX8_shift_110 (fun H locs hw => ?_)
                have hwp := hwp _ rfl
                refine r_iload C dX8_shift_113 hl rfl ?_
                exact hR _ _ _ _ _ _ dX8_shift_115 trivial hwp hw
              · have hwp := hF hc
                refine r_bipush C dX8_shift_92 bpb_m13 ?_
                exact hR _ _ _ _ _ _ dX8_shift_94 trivial hwp hw
          · have hwp := hF hc
            refine r_bipush C dX8_shift_66 bpb_m12 ?_
            exact hR _ _ _ _ _ _ dX8_shift_68 trivial hwp hw
        · have hwp := hF hc
          refine r_bipush C dX8_shift_50 bpb_m11 ?_
          exact hR _ _ _ _ _ _ dX8_shift_52 trivial hwp hw
    · have hwp := hF hc
      refine r_const C dX8_shift_14 ?_
      exact hR _ _ _ _ _ _ dX8_shift_15 trivial hwp hw
set_option maxRecDepth 100000 in
theorem c_X8_shift {l : Launch} {D : va_G} {cA : FieldType → ClassId} {h : Nat → Nat} {σ : St} {sz : Nat} {v1 v2 v3 v4 v5 : Int} {post : Int → St → Prop} (hwp : wp_X8_shift σ v1 v2 v3 v4 v5 post) : Met l yX8_shift wsX8_shift rm_X8_shift (va_Pc [.ref (h 0), iv v1, iv v2, iv v3, iv v4, iv v5] (preS D cA K_BT h σ sz)) (QI D cA K_BT h sz post) 0 0 (aA K_BT.length h sz) := by
  refine mk_met (cc := cX8_shift) (nL := 8) (ret := (some .int)) (own := RX8) 2 (by decide) rfl rfl rfl rfl ?_
  intro p e s m args below meth c ls hsz C hw hl hA
  subst hsz
  exact b_X8_shift_0 C hA (rt_i C _) hwp hw hl
end
