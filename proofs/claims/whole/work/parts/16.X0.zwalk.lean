section
variable {p : Program} {l : Launch} {e : Env} {s : State} {m : MethodId} {args : Array Value} {below : List Frame} {meth : Method} {c : Code} {Q : State → Prop} {D : va_G} {cA : FieldType → ClassId} {h : Nat → Nat} {A : Nat → Prop}
-- X0_ringTillAgain
theorem hi_X0_ringTillAgain_X0 : ∀ w ∈ u_ws RX0 TX0 7, w ∈ wsX0_ringTillAgain := by decide +kernel
theorem hi_X0_ringTillAgain_X7 : ∀ w ∈ u_ws RX7 TX7 8, w ∈ wsX0_ringTillAgain := by decide +kernel
theorem hf_X0_ringTillAgain_21 : Cond.fieldLink RX0 21 (TX0 2).1 (TX0 2).2.1 (TX0 2).2.2.1 ∈ wsX0_ringTillAgain := by decide +kernel
theorem hf_X0_ringTillAgain_28 : Cond.fieldLink RX0 28 (TX0 3).1 (TX0 3).2.1 (TX0 3).2.2.1 ∈ wsX0_ringTillAgain := by decide +kernel
theorem hf_X0_ringTillAgain_57 : Cond.fieldLink RX0 57 (TX7 0).1 (TX7 0).2.1 (TX7 0).2.2.1 ∈ wsX0_ringTillAgain := by decide +kernel
theorem hf_X0_ringTillAgain_73 : Cond.fieldLink RX0 73 (TX7 1).1 (TX7 1).2.1 (TX7 1).2.2.1 ∈ wsX0_ringTillAgain := by decide +kernel
theorem hf_X0_ringTillAgain_54 : Cond.fieldLink RX0 54 (TX7 2).1 (TX7 2).2.1 (TX7 2).2.2.1 ∈ wsX0_ringTillAgain := by decide +kernel
def rm_X0_ringTillAgain : Room := { frames := 2, cells := 0, slots := 0, locals := 46 }
set_option maxRecDepth 100000 in
theorem b_X0_ringTillAgain_2 {post : Int → St → Prop} (C : cx p s m args meth c wsX0_ringTillAgain RX0 cX0_ringTillAgain 3 (some .int) D cA) (hA : ∀ q, s.heap.size ≤ q → A q) (hR : RtI p l e rm_X0_ringTillAgain s m args below meth c Q cX0_ringTillAgain D cA K_Few h A (fun _ => True) post) : ∀ (n : Nat) {v1 v2 : Int} {σ : St} {H : Heap} {locs : List Loc} {ls : Array Slot}, wp_X0_ringTillAgain_2 post n v1 v2 σ → wd D cA K_Few h σ A s.heap H locs → lh ls 3 [some (.ref (h 0)), some (iv v1), some (iv v2)] → W p l e rm_X0_ringTillAgain s m args below meth c H locs 0 0 Q (F0 m 2 ls []) := by
  intro n; induction n with
  | zero => intros; rename_i hwp _ _; exact hwp.elim
  | succ n ih =>
    intro v1 v2 σ H locs ls hwp hw hl
    refine r_iload_n C dX0_ringTillAgain_2 hl rfl ?_
    refine r_aload_n C dX0_ringTillAgain_3 hl rfl ?_
    refine r_getr C hw clX0 0 rfl 2 1 rfl (Nat.le_of_ble_eq_true rfl) hi_X0_ringTillAgain_X0 hf_X0_ringTillAgain_21 dX0_ringTillAgain_4 ?_
    refine r_get C hw clX7 1 rfl 2 2 rfl rfl (Nat.le_of_ble_eq_true rfl) hi_X0_ringTillAgain_X7 hf_X0_ringTillAgain_54 dX0_ringTillAgain_7 ?_
    obtain ⟨ra, rb, hT, hF⟩ := hwp
    refine r_icmp_ge C (tgt := 67) dX0_ringTillAgain_10 rfl ra rb (fun hc => ?_) (fun hc => ?_)
    · have hwp := hT hc
      refine r_bipush C dX0_ringTillAgain_67 bpb_m5 ?_
      exact hR _ _ _ _ _ _ dX0_ringTillAgain_69 trivial hwp hw
    · have hwp := hF hc
      refine r_aload_n C dX0_ringTillAgain_13 hl rfl ?_
      refine r_getr C hw clX0 0 rfl 2 1 rfl (Nat.le_of_ble_eq_true rfl) hi_X0_ringTillAgain_X0 hf_X0_ringTillAgain_21 dX0_ringTillAgain_14 ?_
      refine r_iload_n C dX0_ringTillAgain_17 hl rfl ?_
      refine r_iload_n C dX0_ringTillAgain_18 hl rfl ?_
      refine r_cV hA hw sb_Few_Touch_1_12 (run_v C hw sb_Few_Touch_1_12 clX7 rfl (c_X7_step hwp) (cwV 2 C.2.2.2.2.1 gX0_ringTillAgain_X7_step rfl rfl rfl hd_X7_step ⟨Nat.le_of_ble_eq_true rfl, Nat.le_of_ble_eq_true rfl⟩) rfl rfl rfl hl dX0_ringTillAgain_19 ⟨Nat.zero_le _, Nat.zero_le _⟩) (fun σ H locs hwp hw => ?_)
      have hwp := hwp _ rfl
      refine r_aload_n C dX0_ringTillAgain_22 hl rfl ?_
      refine r_getr C hw clX0 0 rfl 3 8 rfl (Nat.le_of_ble_eq_true rfl) hi_X0_ringTillAgain_X0 hf_X0_ringTillAgain_28 dX0_ringTillAgain_23 ?_
      refine r_aload_n C dX0_ringTillAgain_26 hl rfl ?_
      refine r_getr C hw clX0 0 rfl 2 1 rfl (Nat.le_of_ble_eq_true rfl) hi_X0_ringTillAgain_X0 hf_X0_ringTillAgain_21 dX0_ringTillAgain_27 ?_
      refine r_getr C hw clX7 1 rfl 0 2 rfl (Nat.le_of_ble_eq_true rfl) hi_X0_ringTillAgain_X7 hf_X0_ringTillAgain_57 dX0_ringTillAgain_30 ?_
      refine r_aload_n C dX0_ringTillAgain_33 hl rfl ?_
      refine r_getr C hw clX0 0 rfl 2 1 rfl (Nat.le_of_ble_eq_true rfl) hi_X0_ringTillAgain_X0 hf_X0_ringTillAgain_21 dX0_ringTillAgain_34 ?_
      refine r_get C hw clX7 1 rfl 1 1 rfl rfl (Nat.le_of_ble_eq_true rfl) hi_X0_ringTillAgain_X7 hf_X0_ringTillAgain_73 dX0_ringTillAgain_37 ?_
      refine r_cI hA hw sb_Few_RTr_8_13 (run_v C hw sb_Few_RTr_8_13 clX3 rfl (c_X3_enter hwp) (cwV 2 C.2.2.2.2.1 gX0_ringTillAgain_X3_enter rfl rfl rfl hd_X3_enter ⟨Nat.le_of_ble_eq_true rfl, Nat.le_of_ble_eq_true rfl⟩) rfl rfl rfl hl dX0_ringTillAgain_40 ⟨Nat.zero_le _, Nat.zero_le _⟩) (fun r σ H locs hwp hw => ?_)
      have hwp := hwp _ rfl
      refine r_aload_n C dX0_ringTillAgain_43 hl rfl ?_
      refine r_getr C hw clX0 0 rfl 2 1 rfl (Nat.le_of_ble_eq_true rfl) hi_X0_ringTillAgain_X0 hf_X0_ringTillAgain_21 dX0_ringTillAgain_44 ?_
      refine r_get C hw clX7 1 rfl 1 1 rfl rfl (Nat.le_of_ble_eq_true rfl) hi_X0_ringTillAgain_X7 hf_X0_ringTillAgain_73 dX0_ringTillAgain_47 ?_
      obtain ⟨ra, rb, hT, hF⟩ := hwp
      refine r_icmp_eq C (tgt := 61) dX0_ringTillAgain_50 rfl ra rb (fun hc => ?_) (fun hc => ?_)
      · have hwp := hT hc
        refine r_iinc C dX0_ringTillAgain_61 hl rfl (Nat.le_of_ble_eq_true rfl) rfl (fun ls hl => ?_)
        refine r_goto C (tgt := 2) dX0_ringTillAgain_64 rfl ?_
        exact ih hwp hw (lh_mask hl [true, true, true])
      · have hwp := hF hc
        refine r_aload_n C dX0_ringTillAgain_53 hl rfl ?_
        refine r_getr C hw clX0 0 rfl 2 1 rfl (Nat.le_of_ble_eq_true rfl) hi_X0_ringTillAgain_X0 hf_X0_ringTillAgain_21 dX0_ringTillAgain_54 ?_
        refine r_get C hw clX7 1 rfl 1 1 rfl rfl (Nat.le_of_ble_eq_true rfl) hi_X0_ringTillAgain_X7 hf_X0_ringTillAgain_73 dX0_ringTillAgain_57 ?_
        exact hR _ _ _ _ _ _ dX0_ringTillAgain_60 trivial hwp hw
set_option maxRecDepth 100000 in
theorem b_X0_ringTillAgain_0 {post : Int → St → Prop} (C : cx p s m args meth c wsX0_ringTillAgain RX0 cX0_ringTillAgain 3 (some .int) D cA) (hA : ∀ q, s.heap.size ≤ q → A q) (hR : RtI p l e rm_X0_ringTillAgain s m args below meth c Q cX0_ringTillAgain D cA K_Few h A (fun _ => True) post) : ∀ {v1 : Int} {σ : St} {H : Heap} {locs : List Loc} {ls : Array Slot}, wp_X0_ringTillAgain σ v1 post → wd D cA K_Few h σ A s.heap H locs → lh ls 3 [some (.ref (h 0)), some (iv v1), none] → W p l e rm_X0_ringTillAgain s m args below meth c H locs 0 0 Q (F0 m 0 ls []) := by
  intro v1 σ H locs ls hwp hw hl
  refine r_const C dX0_ringTillAgain_0 ?_
  refine r_istore_n C dX0_ringTillAgain_1 hl (Nat.le_of_ble_eq_true rfl) (Nat.le_of_ble_eq_true rfl) rfl (fun ls hl => ?_)
  obtain ⟨n9, hwp⟩ := hwp
  exact b_X0_ringTillAgain_2 C hA hR n9 hwp hw (lh_mask hl [true, true, true])
set_option maxRecDepth 100000 in
theorem c_X0_ringTillAgain {l : Launch} {D : va_G} {cA : FieldType → ClassId} {h : Nat → Nat} {σ : St} {sz : Nat} {v1 : Int} {post : Int → St → Prop} (hwp : wp_X0_ringTillAgain σ v1 post) : Met l yX0_ringTillAgain wsX0_ringTillAgain rm_X0_ringTillAgain (va_Pc [.ref (h 0), iv v1] (preS D cA K_Few h σ sz)) (QI D cA K_Few h sz post) 0 0 (aA K_Few.length h sz) := by
  refine mk_met (cc := cX0_ringTillAgain) (nL := 3) (ret := (some .int)) (own := RX0) 1 (by decide) rfl rfl rfl rfl ?_
  intro p e s m args below meth c ls hsz C hw hl hA
  subst hsz
  exact b_X0_ringTillAgain_0 C hA (rt_i C _) hwp hw hl
-- X0_isEnd
theorem hi_X0_isEnd_X0 : ∀ w ∈ u_ws RX0 TX0 7, w ∈ wsX0_isEnd := by decide +kernel
theorem hi_X0_isEnd_X7 : ∀ w ∈ u_ws RX7 TX7 8, w ∈ wsX0_isEnd := by decide +kernel
theorem hf_X0_isEnd_21 : Cond.fieldLink RX0 21 (TX0 2).1 (TX0 2).2.1 (TX0 2).2.2.1 ∈ wsX0_isEnd := by decide +kernel
theorem hf_X0_isEnd_36 : Cond.fieldLink RX0 36 (TX0 5).1 (TX0 5).2.1 (TX0 5).2.2.1 ∈ wsX0_isEnd := by decide +kernel
theorem hf_X0_isEnd_57 : Cond.fieldLink RX0 57 (TX7 0).1 (TX7 0).2.1 (TX7 0).2.2.1 ∈ wsX0_isEnd := by decide +kernel
theorem hf_X0_isEnd_54 : Cond.fieldLink RX0 54 (TX7 2).1 (TX7 2).2.1 (TX7 2).2.2.1 ∈ wsX0_isEnd := by decide +kernel
def rm_X0_isEnd : Room := { frames := 0, cells := 0, slots := 0, locals := 0 }
set_option maxRecDepth 100000 in
theorem b_X0_isEnd_0 {σ : St} {post : Int → Prop} (C : cx p s m args meth c wsX0_isEnd RX0 cX0_isEnd 2 (some .boolean) D cA) (hA : ∀ q, s.heap.size ≤ q → A q) (hR : RtI p l e rm_X0_isEnd s m args below meth c Q cX0_isEnd D cA K_Few h A (fun x => x = 0 ∨ x = 1) (fun r σ' => σ' = σ ∧ post r)) : ∀ {v1 : Int} {H : Heap} {locs : List Loc} {ls : Array Slot}, wp_X0_isEnd σ v1 post → wd D cA K_Few h σ A s.heap H locs → lh ls 2 [some (.ref (h 0)), some (iv v1)] → W p l e rm_X0_isEnd s m args below meth c H locs 0 0 Q (F0 m 0 ls []) := by
  intro v1 H locs ls hwp hw hl
  refine r_iload_n C dX0_isEnd_0 hl rfl ?_
  refine r_aload_n C dX0_isEnd_1 hl rfl ?_
  refine r_get C hw clX0 0 rfl 5 5 rfl rfl (Nat.le_of_ble_eq_true rfl) hi_X0_isEnd_X0 hf_X0_isEnd_36 dX0_isEnd_2 ?_
  refine r_aload_n C dX0_isEnd_5 hl rfl ?_
  refine r_getr C hw clX0 0 rfl 2 1 rfl (Nat.le_of_ble_eq_true rfl) hi_X0_isEnd_X0 hf_X0_isEnd_21 dX0_isEnd_6 ?_
  refine r_get C hw clX7 1 rfl 2 2 rfl rfl (Nat.le_of_ble_eq_true rfl) hi_X0_isEnd_X7 hf_X0_isEnd_54 dX0_isEnd_9 ?_
  refine r_imul C dX0_isEnd_12 ?_
  obtain ⟨ra, rb, hT, hF⟩ := hwp
  refine r_icmp_ne C (tgt := 41) dX0_isEnd_13 rfl ra rb (fun hc => ?_) (fun hc => ?_)
  · have hwp := hT hc
    refine r_const C dX0_isEnd_41 ?_
    exact hR _ _ _ _ _ _ dX0_isEnd_42 (Or.inl rfl) ⟨rfl, hwp⟩ hw
  · have hwp := hF hc
    refine r_aload_n C dX0_isEnd_16 hl rfl ?_
    refine r_getr C hw clX0 0 rfl 2 1 rfl (Nat.le_of_ble_eq_true rfl) hi_X0_isEnd_X0 hf_X0_isEnd_21 dX0_isEnd_17 ?_
    refine r_getr C hw clX7 1 rfl 0 2 rfl (Nat.le_of_ble_eq_true rfl) hi_X0_isEnd_X7 hf_X0_isEnd_57 dX0_isEnd_20 ?_
    refine r_iload_n C dX0_isEnd_23 hl rfl ?_
    obtain ⟨h0, h1, hwp⟩ := hwp
    refine r_iald C hw 2 rfl rfl h0 h1 dX0_isEnd_24 ?_
    refine r_aload_n C dX0_isEnd_25 hl rfl ?_
    refine r_getr C hw clX0 0 rfl 2 1 rfl (Nat.le_of_ble_eq_true rfl) hi_X0_isEnd_X0 hf_X0_isEnd_21 dX0_isEnd_26 ?_
    refine r_getr C hw clX7 1 rfl 0 2 rfl (Nat.le_of_ble_eq_true rfl) hi_X0_isEnd_X7 hf_X0_isEnd_57 dX0_isEnd_29 ?_
    refine r_const C dX0_isEnd_32 ?_
    refine r_iald C hw 2 rfl rfl (by decide) (by decide) dX0_isEnd_33 ?_
    obtain ⟨ra, rb, hT, hF⟩ := hwp
    refine r_icmp_ne C (tgt := 41) dX0_isEnd_34 rfl ra rb (fun hc => ?_) (fun hc => ?_)
    · have hwp := hT hc
      refine r_const C dX0_isEnd_41 ?_
      exact hR _ _ _ _ _ _ dX0_isEnd_42 (Or.inl rfl) ⟨rfl, hwp⟩ hw
    · have hwp := hF hc
      refine r_const C dX0_isEnd_37 ?_
      refine r_goto C (tgt := 42) dX0_isEnd_38 rfl ?_
      exact hR _ _ _ _ _ _ dX0_isEnd_42 (Or.inr rfl) ⟨rfl, hwp⟩ hw
set_option maxRecDepth 100000 in
theorem c_X0_isEnd {l : Launch} {D : va_G} {cA : FieldType → ClassId} {h : Nat → Nat} {σ : St} {sz : Nat} {v1 : Int} {post : Int → Prop} (hwp : wp_X0_isEnd σ v1 post) : Met l yX0_isEnd wsX0_isEnd rm_X0_isEnd (va_Pc [.ref (h 0), iv v1] (preS D cA K_Few h σ sz)) (QI D cA K_Few h sz (fun r σ' => σ' = σ ∧ post r)) 0 0 (aA K_Few.length h sz) := by
  refine mk_met (cc := cX0_isEnd) (nL := 2) (ret := (some .boolean)) (own := RX0) 0 (by decide) rfl rfl rfl rfl ?_
  intro p e s m args below meth c ls hsz C hw hl hA
  subst hsz
  exact b_X0_isEnd_0 C hA (rt_z C _) hwp hw hl
-- X0_backTo
theorem hi_X0_backTo_X0 : ∀ w ∈ u_ws RX0 TX0 7, w ∈ wsX0_backTo := by decide +kernel
theorem hi_X0_backTo_X7 : ∀ w ∈ u_ws RX7 TX7 8, w ∈ wsX0_backTo := by decide +kernel
theorem hf_X0_backTo_21 : Cond.fieldLink RX0 21 (TX0 2).1 (TX0 2).2.1 (TX0 2).2.2.1 ∈ wsX0_backTo := by decide +kernel
theorem hf_X0_backTo_28 : Cond.fieldLink RX0 28 (TX0 3).1 (TX0 3).2.1 (TX0 3).2.2.1 ∈ wsX0_backTo := by decide +kernel
theorem hf_X0_backTo_57 : Cond.fieldLink RX0 57 (TX7 0).1 (TX7 0).2.1 (TX7 0).2.2.1 ∈ wsX0_backTo := by decide +kernel
theorem hf_X0_backTo_73 : Cond.fieldLink RX0 73 (TX7 1).1 (TX7 1).2.1 (TX7 1).2.2.1 ∈ wsX0_backTo := by decide +kernel
def rm_X0_backTo : Room := { frames := 2, cells := 0, slots := 0, locals := 45 }
set_option maxRecDepth 100000 in
theorem b_X0_backTo_8 {post : St → Prop} (C : cx p s m args meth c wsX0_backTo RX0 cX0_backTo 3 none D cA) (hA : ∀ q, s.heap.size ≤ q → A q) (hR : RtV p l e rm_X0_backTo s m args below meth c Q cX0_backTo D cA K_Few h A post) : ∀ (n : Nat) {v1 v2 : Int} {σ : St} {H : Heap} {locs : List Loc} {ls : Array Slot}, wp_X0_backTo_8 post n v1 v2 σ → wd D cA K_Few h σ A s.heap H locs → lh ls 3 [some (.ref (h 0)), some (iv v1), some (iv v2)] → W p l e rm_X0_backTo s m args below meth c H locs 0 0 Q (F0 m 8 ls []) := by
  intro n; induction n with
  | zero => intros; rename_i hwp _ _; exact hwp.elim
  | succ n ih =>
    intro v1 v2 σ H locs ls hwp hw hl
    refine r_iload_n C dX0_backTo_8 hl rfl ?_
    refine r_iload_n C dX0_backTo_9 hl rfl ?_
    obtain ⟨ra, rb, hT, hF⟩ := hwp
    refine r_icmp_le C (tgt := 34) dX0_backTo_10 rfl ra rb (fun hc => ?_) (fun hc => ?_)
    · have hwp := hT hc
      refine r_aload_n C dX0_backTo_34 hl rfl ?_
      refine r_getr C hw clX0 0 rfl 2 1 rfl (Nat.le_of_ble_eq_true rfl) hi_X0_backTo_X0 hf_X0_backTo_21 dX0_backTo_35 ?_
      refine r_iload_n C dX0_backTo_38 hl rfl ?_
      refine r_put C hw clX7 1 rfl 1 1 rfl rfl (Nat.le_of_ble_eq_true rfl) hi_X0_backTo_X7 hf_X0_backTo_73 rfl ⟨nar_i _, fit_i _⟩ dX0_backTo_39 (fun H locs hw => ?_)
      have hwp := hwp _ rfl
      exact hR _ _ _ _ _ dX0_backTo_42 hwp hw
    · have hwp := hF hc
      refine r_aload_n C dX0_backTo_13 hl rfl ?_
      refine r_getr C hw clX0 0 rfl 3 8 rfl (Nat.le_of_ble_eq_true rfl) hi_X0_backTo_X0 hf_X0_backTo_28 dX0_backTo_14 ?_
      refine r_aload_n C dX0_backTo_17 hl rfl ?_
      refine r_getr C hw clX0 0 rfl 2 1 rfl (Nat.le_of_ble_eq_true rfl) hi_X0_backTo_X0 hf_X0_backTo_21 dX0_backTo_18 ?_
      refine r_getr C hw clX7 1 rfl 0 2 rfl (Nat.le_of_ble_eq_true rfl) hi_X0_backTo_X7 hf_X0_backTo_57 dX0_backTo_21 ?_
      refine r_iload_n C dX0_backTo_24 hl rfl ?_
      refine r_cV hA hw sb_Few_RTr_8_13 (run_v C hw sb_Few_RTr_8_13 clX3 rfl (c_X3_leave hwp) (cwV 2 C.2.2.2.2.1 gX0_backTo_X3_leave rfl rfl rfl hd_X3_leave ⟨Nat.le_of_ble_eq_true rfl, Nat.le_of_ble_eq_true rfl⟩) rfl rfl rfl hl dX0_backTo_25 ⟨Nat.zero_le _, Nat.zero_le _⟩) (fun σ H locs hwp hw => ?_)
      have hwp := hwp _ rfl
      refine r_iinc C dX0_backTo_28 hl rfl (Nat.le_of_ble_eq_true rfl) rfl (fun ls hl => ?_)
      refine r_goto C (tgt := 8) dX0_backTo_31 rfl ?_
      exact ih hwp hw (lh_mask hl [true, true, true])
set_option maxRecDepth 100000 in
theorem b_X0_backTo_0 {post : St → Prop} (C : cx p s m args meth c wsX0_backTo RX0 cX0_backTo 3 none D cA) (hA : ∀ q, s.heap.size ≤ q → A q) (hR : RtV p l e rm_X0_backTo s m args below meth c Q cX0_backTo D cA K_Few h A post) : ∀ {v1 : Int} {σ : St} {H : Heap} {locs : List Loc} {ls : Array Slot}, wp_X0_backTo σ v1 post → wd D cA K_Few h σ A s.heap H locs → lh ls 3 [some (.ref (h 0)), some (iv v1), none] → W p l e rm_X0_backTo s m args below meth c H locs 0 0 Q (F0 m 0 ls []) := by
  intro v1 σ H locs ls hwp hw hl
  refine r_aload_n C dX0_backTo_0 hl rfl ?_
  refine r_getr C hw clX0 0 rfl 2 1 rfl (Nat.le_of_ble_eq_true rfl) hi_X0_backTo_X0 hf_X0_backTo_21 dX0_backTo_1 ?_
  refine r_get C hw clX7 1 rfl 1 1 rfl rfl (Nat.le_of_ble_eq_true rfl) hi_X0_backTo_X7 hf_X0_backTo_73 dX0_backTo_4 ?_
  refine r_istore_n C dX0_backTo_7 hl (Nat.le_of_ble_eq_true rfl) (Nat.le_of_ble_eq_true rfl) rfl (fun ls hl => ?_)
  obtain ⟨n9, hwp⟩ := hwp
  exact b_X0_backTo_8 C hA hR n9 hwp hw (lh_mask hl [true, true, true])
set_option maxRecDepth 100000 in
theorem c_X0_backTo {l : Launch} {D : va_G} {cA : FieldType → ClassId} {h : Nat → Nat} {σ : St} {sz : Nat} {v1 : Int} {post : St → Prop} (hwp : wp_X0_backTo σ v1 post) : Met l yX0_backTo wsX0_backTo rm_X0_backTo (va_Pc [.ref (h 0), iv v1] (preS D cA K_Few h σ sz)) (QV D cA K_Few h sz post) 0 0 (aA K_Few.length h sz) := by
  refine mk_met (cc := cX0_backTo) (nL := 3) (ret := none) (own := RX0) 1 (by decide) rfl rfl rfl rfl ?_
  intro p e s m args below meth c ls hsz C hw hl hA
  subst hsz
  exact b_X0_backTo_0 C hA (rt_v C _) hwp hw hl
-- X0_search
theorem hi_X0_search_X0 : ∀ w ∈ u_ws RX0 TX0 7, w ∈ wsX0_search := by decide +kernel
theorem hi_X0_search_X7 : ∀ w ∈ u_ws RX7 TX7 8, w ∈ wsX0_search := by decide +kernel
theorem hf_X0_search_9 : Cond.fieldLink RX0 9 (TX0 0).1 (TX0 0).2.1 (TX0 0).2.2.1 ∈ wsX0_search := by decide +kernel
theorem hf_X0_search_15 : Cond.fieldLink RX0 15 (TX0 1).1 (TX0 1).2.1 (TX0 1).2.2.1 ∈ wsX0_search := by decide +kernel
theorem hf_X0_search_21 : Cond.fieldLink RX0 21 (TX0 2).1 (TX0 2).2.1 (TX0 2).2.2.1 ∈ wsX0_search := by decide +kernel
theorem hf_X0_search_32 : Cond.fieldLink RX0 32 (TX0 4).1 (TX0 4).2.1 (TX0 4).2.2.1 ∈ wsX0_search := by decide +kernel
theorem hf_X0_search_36 : Cond.fieldLink RX0 36 (TX0 5).1 (TX0 5).2.1 (TX0 5).2.2.1 ∈ wsX0_search := by decide +kernel
theorem hf_X0_search_39 : Cond.fieldLink RX0 39 (TX0 6).1 (TX0 6).2.1 (TX0 6).2.2.1 ∈ wsX0_search := by decide +kernel
theorem hf_X0_search_73 : Cond.fieldLink RX0 73 (TX7 1).1 (TX7 1).2.1 (TX7 1).2.2.1 ∈ wsX0_search := by decide +kernel
def rm_X0_search (d : Nat) : Room := { frames := 3 + d, cells := 0, slots := 0, locals := 68 + 27 * d }
set_option maxRecDepth 100000 in
theorem b_X0_search_130 {d : Nat} {post : St → Prop} (C : cx p s m args meth c wsX0_search RX0 cX0_search 8 none D cA) (hA : ∀ q, s.heap.size ≤ q → A q) (hR : RtV p l e (rm_X0_search (d + 1)) s m args below meth c Q cX0_search D cA K_Few h A post) {rec : St → Int → Int → Int → (St → Prop) → Prop} (hrec : ∀ {l : Launch} {D : va_G} {cA : FieldType → ClassId} {h : Nat → Nat} {σ : St} {sz : Nat} {v1 v2 v3 : Int} {post : St → Prop}, rec σ v1 v2 v3 post → Met l yX0_search wsX0_search (rm_X0_search d) (va_Pc [.ref (h 0), iv v1, iv v2, iv v3] (preS D cA K_Few h σ sz)) (QV D cA K_Few h sz post) 0 0 (aA K_Few.length h sz)) {k12 : Int → Int → Int → Int → St → Prop} (hk12 : ∀ {v1 v2 v3 v4 : Int} {σ : St} {H : Heap} {locs : List Loc} {ls : Array Slot}, k12 v1 v2 v3 v4 σ → wd D cA K_Few h σ A s.heap H locs → lh ls 8 [some (.ref (h 0)), some (iv v1), some (iv v2), some (iv v3), some (iv v4), none, none, none] → W p l e (rm_X0_search (d + 1)) s m args below meth c H locs 0 0 Q (F0 m 12 ls [])) : ∀ {v1 v2 v3 v4 : Int} {σ : St} {H : Heap} {locs : List Loc} {ls : Array Slot}, wp_X0_search_130 rec k12 post v1 v2 v3 v4 σ → wd D cA K_Few h σ A s.heap H locs → lh ls 8 [some (.ref (h 0)), some (iv v1), some (iv v2), some (iv v3), some (iv v4), none, none, none] → W p l e (rm_X0_search (d + 1)) s m args below meth c H locs 0 0 Q (F0 m 130 ls []) := by
  intro v1 v2 v3 v4 σ H locs ls hwp hw hl
  refine r_iinc C dX0_search_130 hl rfl (Nat.le_of_ble_eq_true rfl) rfl (fun ls hl => ?_)
  refine r_goto C (tgt := 12) dX0_search_133 rfl ?_
  exact hk12 hwp hw (lh_mask hl [true, true, true, true, true, false, false, false])
set_option maxRecDepth 100000 in
theorem b_X0_search_124 {d : Nat} {post : St → Prop} (C : cx p s m args meth c wsX0_search RX0 cX0_search 8 none D cA) (hA : ∀ q, s.heap.size ≤ q → A q) (hR : RtV p l e (rm_X0_search (d + 1)) s m args below meth c Q cX0_search D cA K_Few h A post) {rec : St → Int → Int → Int → (St → Prop) → Prop} (hrec : ∀ {l : Launch} {D : va_G} {cA : FieldType → ClassId} {h : Nat → Nat} {σ : St} {sz : Nat} {v1 v2 v3 : Int} {post : St → Prop}, rec σ v1 v2 v3 post → Met l yX0_search wsX0_search (rm_X0_search d) (va_Pc [.ref (h 0), iv v1, iv v2, iv v3] (preS D cA K_Few h σ sz)) (QV D cA K_Few h sz post) 0 0 (aA K_Few.length h sz)) {k12 : Int → Int → Int → Int → St → Prop} (hk12 : ∀ {v1 v2 v3 v4 : Int} {σ : St} {H : Heap} {locs : List Loc} {ls : Array Slot}, k12 v1 v2 v3 v4 σ → wd D cA K_Few h σ A s.heap H locs → lh ls 8 [some (.ref (h 0)), some (iv v1), some (iv v2), some (iv v3), some (iv v4), none, none, none] → W p l e (rm_X0_search (d + 1)) s m args below meth c H locs 0 0 Q (F0 m 12 ls [])) : ∀ {v1 v2 v3 v4 v6 : Int} {σ : St} {H : Heap} {locs : List Loc} {ls : Array Slot}, wp_X0_search_124 rec k12 post v1 v2 v3 v4 v6 σ → wd D cA K_Few h σ A s.heap H locs → lh ls 8 [some (.ref (h 0)), some (iv v1), some (iv v2), some (iv v3), some (iv v4), none, some (iv v6), none] → W p l e (rm_X0_search (d + 1)) s m args below meth c H locs 0 0 Q (F0 m 124 ls []) := by
  intro v1 v2 v3 v4 v6 σ H locs ls hwp hw hl
  refine r_aload_n C dX0_search_124 hl rfl ?_
  refine r_iload C dX0_search_125 hl rfl ?_
  refine r_cV0 hA hw (run_v0 C hw clX0 rfl (c_X0_backTo hwp) (cwV 1 C.2.2.2.2.1 gX0_search_X0_backTo rfl rfl rfl hd_X0_backTo ⟨(by simp only [rm_X0_search, rm_X0_backTo]; omega), (by simp only [rm_X0_search, rm_X0_backTo]; omega)⟩) rfl rfl rfl hl dX0_search_127 ⟨Nat.zero_le _, Nat.zero_le _⟩) (fun σ H locs hwp hw => ?_)
  exact b_X0_search_130 C hA hR hrec hk12 hwp hw (lh_mask hl [true, true, true, true, true, false, false, false])
set_option maxRecDepth 100000 in
theorem b_X0_search_30 {d : Nat} {post : St → Prop} (C : cx p s m args meth c wsX0_search RX0 cX0_search 8 none D cA) (hA : ∀ q, s.heap.size ≤ q → A q) (hR : RtV p l e (rm_X0_search (d + 1)) s m args below meth c Q cX0_search D cA K_Few h A post) {rec : St → Int → Int → Int → (St → Prop) → Prop} (hrec : ∀ {l : Launch} {D : va_G} {cA : FieldType → ClassId} {h : Nat → Nat} {σ : St} {sz : Nat} {v1 v2 v3 : Int} {post : St → Prop}, rec σ v1 v2 v3 post → Met l yX0_search wsX0_search (rm_X0_search d) (va_Pc [.ref (h 0), iv v1, iv v2, iv v3] (preS D cA K_Few h σ sz)) (QV D cA K_Few h sz post) 0 0 (aA K_Few.length h sz)) {k12 : Int → Int → Int → Int → St → Prop} (hk12 : ∀ {v1 v2 v3 v4 : Int} {σ : St} {H : Heap} {locs : List Loc} {ls : Array Slot}, k12 v1 v2 v3 v4 σ → wd D cA K_Few h σ A s.heap H locs → lh ls 8 [some (.ref (h 0)), some (iv v1), some (iv v2), some (iv v3), some (iv v4), none, none, none] → W p l e (rm_X0_search (d + 1)) s m args below meth c H locs 0 0 Q (F0 m 12 ls [])) : ∀ {v1 v2 v3 v4 s0 : Int} {σ : St} {H : Heap} {locs : List Loc} {ls : Array Slot}, wp_X0_search_30 rec k12 post v1 v2 v3 v4 s0 σ → wd D cA K_Few h σ A s.heap H locs → lh ls 8 [some (.ref (h 0)), some (iv v1), some (iv v2), some (iv v3), some (iv v4), none, none, none] → W p l e (rm_X0_search (d + 1)) s m args below meth c H locs 0 0 Q (F0 m 30 ls [iv s0]) := by
  intro v1 v2 v3 v4 s0 σ H locs ls hwp hw hl
  refine r_istore C dX0_search_30 hl (Nat.le_of_ble_eq_true rfl) (Nat.le_of_ble_eq_true rfl) rfl (fun ls hl => ?_)
  refine r_aload_n C dX0_search_32 hl rfl ?_
  refine r_getr C hw clX0 0 rfl 4 10 rfl (Nat.le_of_ble_eq_true rfl) hi_X0_search_X0 hf_X0_search_32 dX0_search_33 ?_
  refine r_iload C dX0_search_36 hl rfl ?_
  obtain ⟨h0, h1, hwp⟩ := hwp
  refine r_zald C hw 10 rfl rfl h0 h1 dX0_search_38 ?_
  obtain ⟨ra, hT, hF⟩ := hwp
  refine r_if_eq C (tgt := 130) dX0_search_39 rfl ra (fun hc => ?_) (fun hc => ?_)
  · have hwp := hT hc
    exact b_X0_search_130 C hA hR hrec hk12 hwp hw (lh_mask hl [true, true, true, true, true, false, false, false])
  · have hwp := hF hc
    refine r_iload C dX0_search_42 hl rfl ?_
    refine r_aload_n C dX0_search_44 hl rfl ?_
    refine r_get C hw clX0 0 rfl 6 6 rfl rfl (Nat.le_of_ble_eq_true rfl) hi_X0_search_X0 hf_X0_search_39 dX0_search_45 ?_
    obtain ⟨ra, rb, hT, hF⟩ := hwp
    refine r_icmp_ge C (tgt := 130) dX0_search_48 rfl ra rb (fun hc => ?_) (fun hc => ?_)
    · have hwp := hT hc
      exact b_X0_search_130 C hA hR hrec hk12 hwp hw (lh_mask hl [true, true, true, true, true, false, false, false])
    · have hwp := hF hc
      refine r_aload_n C dX0_search_51 hl rfl ?_
      refine r_getr C hw clX0 0 rfl 2 1 rfl (Nat.le_of_ble_eq_true rfl) hi_X0_search_X0 hf_X0_search_21 dX0_search_52 ?_
      refine r_get C hw clX7 1 rfl 1 1 rfl rfl (Nat.le_of_ble_eq_true rfl) hi_X0_search_X7 hf_X0_search_73 dX0_search_55 ?_
      refine r_istore C dX0_search_58 hl (Nat.le_of_ble_eq_true rfl) (Nat.le_of_ble_eq_true rfl) rfl (fun ls hl => ?_)
      refine r_aload_n C dX0_search_60 hl rfl ?_
      refine r_iload C dX0_search_61 hl rfl ?_
      refine r_cI0 hA hw (run_v0 C hw clX0 rfl (c_X0_ringTillAgain hwp) (cwV 1 C.2.2.2.2.1 gX0_search_X0_ringTillAgain rfl rfl rfl hd_X0_ringTillAgain ⟨(by simp only [rm_X0_search, rm_X0_ringTillAgain]; omega), (by simp only [rm_X0_search, rm_X0_ringTillAgain]; omega)⟩) rfl rfl rfl hl dX0_search_63 ⟨Nat.zero_le _, Nat.zero_le _⟩) (fun r σ H locs hwp hw => ?_)
      refine r_istore C dX0_search_66 hl (Nat.le_of_ble_eq_true rfl) (Nat.le_of_ble_eq_true rfl) rfl (fun ls hl => ?_)
      refine r_iload C dX0_search_68 hl rfl ?_
      refine r_bipush C dX0_search_70 bpb_m5 ?_
      obtain ⟨ra, hT, hF⟩ := hwp
      refine r_icmp_ne C (tgt := 93) dX0_search_72 rfl ra (by decide) (fun hc => ?_) (fun hc => ?_)
      · have hwp := hT hc
        refine r_aload_n C dX0_search_93 hl rfl ?_
        refine r_iload C dX0_search_94 hl rfl ?_
        refine r_cIr0 hA hw (run_v0 C hw clX0 rfl (c_X0_isEnd hwp) (cwV 1 C.2.2.2.2.1 gX0_search_X0_isEnd rfl rfl rfl hd_X0_isEnd ⟨(by simp only [rm_X0_search, rm_X0_isEnd]; omega), (by simp only [rm_X0_search, rm_X0_isEnd]; omega)⟩) rfl rfl rfl hl dX0_search_96 ⟨Nat.zero_le _, Nat.zero_le _⟩) (fun r H locs hwp hw => ?_)
        obtain ⟨ra, hT, hF⟩ := hwp
        refine r_if_eq C (tgt := 124) dX0_search_99 rfl ra (fun hc => ?_) (fun hc => ?_)
        · have hwp := hT hc
          exact b_X0_search_124 C hA hR hrec hk12 hwp hw (lh_mask hl [true, true, true, true, true, false, true, false])
        · have hwp := hF hc
          refine r_aload_n C dX0_search_102 hl rfl ?_
          refine r_const C dX0_search_103 ?_
          refine r_iload_n C dX0_search_104 hl rfl ?_
          refine r_imul C dX0_search_105 ?_
          refine r_iload C dX0_search_106 hl rfl ?_
          refine r_iadd C dX0_search_108 ?_
          refine r_put C hw clX0 0 rfl 0 0 rfl rfl (Nat.le_of_ble_eq_true rfl) hi_X0_search_X0 hf_X0_search_9 rfl ⟨nar_i _, fit_i _⟩ dX0_search_109 (fun H locs hw => ?_)
          have hwp := hwp _ rfl
          refine r_aload_n C dX0_search_112 hl rfl ?_
          refine r_iload C dX0_search_113 hl rfl ?_
          refine r_put C hw clX0 0 rfl 1 1 rfl rfl (Nat.le_of_ble_eq_true rfl) hi_X0_search_X0 hf_X0_search_15 rfl ⟨nar_i _, fit_i _⟩ dX0_search_115 (fun H locs hw => ?_)
          have hwp := hwp _ rfl
          refine r_aload_n C dX0_search_118 hl rfl ?_
          refine r_iload C dX0_search_119 hl rfl ?_
          refine r_put C hw clX0 0 rfl 6 6 rfl rfl (Nat.le_of_ble_eq_true rfl) hi_X0_search_X0 hf_X0_search_39 rfl ⟨nar_i _, fit_i _⟩ dX0_search_121 (fun H locs hw => ?_)
          have hwp := hwp _ rfl
          exact b_X0_search_124 C hA hR hrec hk12 hwp hw (lh_mask hl [true, true, true, true, true, false, true, false])
      · have hwp := hF hc
        refine r_aload_n C dX0_search_75 hl rfl ?_
        refine r_iload_n C dX0_search_76 hl rfl ?_
        refine r_const C dX0_search_77 ?_
        refine r_iadd C dX0_search_78 ?_
        refine r_const C dX0_search_79 ?_
        refine r_iload_n C dX0_search_80 hl rfl ?_
        refine r_imul C dX0_search_81 ?_
        refine r_iload C dX0_search_82 hl rfl ?_
        refine r_iadd C dX0_search_84 ?_
        refine r_iload C dX0_search_85 hl rfl ?_
        refine r_cV0 hA hw (run_s0 C hw (hrec hwp) (va_cwS 4 C.2.2.2.2.1 gX0_search_X0_search rfl rfl rfl hd_X0_search ⟨(by simp only [rm_X0_search, rm_X0_search]; omega), (by simp only [rm_X0_search, rm_X0_search]; omega)⟩) rfl rfl rfl hl dX0_search_87 ⟨Nat.zero_le _, Nat.zero_le _⟩) (fun σ H locs hwp hw => ?_)
        refine r_goto C (tgt := 124) dX0_search_90 rfl ?_
        exact b_X0_search_124 C hA hR hrec hk12 hwp hw (lh_mask hl [true, true, true, true, true, false, true, false])
set_option maxRecDepth 100000 in
theorem b_X0_search_12 {d : Nat} {post : St → Prop} (C : cx p s m args meth c wsX0_search RX0 cX0_search 8 none D cA) (hA : ∀ q, s.heap.size ≤ q → A q) (hR : RtV p l e (rm_X0_search (d + 1)) s m args below meth c Q cX0_search D cA K_Few h A post) {rec : St → Int → Int → Int → (St → Prop) → Prop} (hrec : ∀ {l : Launch} {D : va_G} {cA : FieldType → ClassId} {h : Nat → Nat} {σ : St} {sz : Nat} {v1 v2 v3 : Int} {post : St → Prop}, rec σ v1 v2 v3 post → Met l yX0_search wsX0_search (rm_X0_search d) (va_Pc [.ref (h 0), iv v1, iv v2, iv v3] (preS D cA K_Few h σ sz)) (QV D cA K_Few h sz post) 0 0 (aA K_Few.length h sz)) : ∀ (n : Nat) {v1 v2 v3 v4 : Int} {σ : St} {H : Heap} {locs : List Loc} {ls : Array Slot}, wp_X0_search_12 rec post n v1 v2 v3 v4 σ → wd D cA K_Few h σ A s.heap H locs → lh ls 8 [some (.ref (h 0)), some (iv v1), some (iv v2), some (iv v3), some (iv v4), none, none, none] → W p l e (rm_X0_search (d + 1)) s m args below meth c H locs 0 0 Q (F0 m 12 ls []) := by
  intro n; induction n with
  | zero => intros; rename_i hwp _ _; exact hwp.elim
  | succ n ih =>
    intro v1 v2 v3 v4 σ H locs ls hwp hw hl
    refine r_iload C dX0_search_12 hl rfl ?_
    refine r_const C dX0_search_14 ?_
    obtain ⟨ra, hT, hF⟩ := hwp
    refine r_icmp_gt C (tgt := 136) dX0_search_15 rfl ra (by decide) (fun hc => ?_) (fun hc => ?_)
    · have hwp := hT hc
      exact hR _ _ _ _ _ dX0_search_136 hwp hw
    · have hwp := hF hc
      refine r_iload C dX0_search_18 hl rfl ?_
      obtain ⟨ra, hT, hF⟩ := hwp
      refine r_if_ne C (tgt := 27) dX0_search_20 rfl ra (fun hc => ?_) (fun hc => ?_)
      · have hwp := hT hc
        refine r_iload_n C dX0_search_27 hl rfl ?_
        refine r_const C dX0_search_28 ?_
        refine r_iadd C dX0_search_29 ?_
        exact b_X0_search_30 C hA hR hrec ih hwp hw (lh_mask hl [true, true, true, true, true, false, false, false])
      · have hwp := hF hc
        refine r_iload_n C dX0_search_23 hl rfl ?_
        refine r_goto C (tgt := 30) dX0_search_24 rfl ?_
        exact b_X0_search_30 C hA hR hrec ih hwp hw (lh_mask hl [true, true, true, true, true, false, false, false])
set_option maxRecDepth 100000 in
theorem b_X0_search_0 {d : Nat} {post : St → Prop} (C : cx p s m args meth c wsX0_search RX0 cX0_search 8 none D cA) (hA : ∀ q, s.heap.size ≤ q → A q) (hR : RtV p l e (rm_X0_search (d + 1)) s m args below meth c Q cX0_search D cA K_Few h A post) {rec : St → Int → Int → Int → (St → Prop) → Prop} (hrec : ∀ {l : Launch} {D : va_G} {cA : FieldType → ClassId} {h : Nat → Nat} {σ : St} {sz : Nat} {v1 v2 v3 : Int} {post : St → Prop}, rec σ v1 v2 v3 post → Met l yX0_search wsX0_search (rm_X0_search d) (va_Pc [.ref (h 0), iv v1, iv v2, iv v3] (preS D cA K_Few h σ sz)) (QV D cA K_Few h sz post) 0 0 (aA K_Few.length h sz)) : ∀ {v1 v2 v3 : Int} {σ : St} {H : Heap} {locs : List Loc} {ls : Array Slot}, wp_X0_search_0 rec σ v1 v2 v3 post → wd D cA K_Few h σ A s.heap H locs → lh ls 8 [some (.ref (h 0)), some (iv v1), some (iv v2), some (iv v3), none, none, none, none] → W p l e (rm_X0_search (d + 1)) s m args below meth c H locs 0 0 Q (F0 m 0 ls []) := by
  intro v1 v2 v3 σ H locs ls hwp hw hl
  refine r_iload_n C dX0_search_0 hl rfl ?_
  refine r_aload_n C dX0_search_1 hl rfl ?_
  refine r_get C hw clX0 0 rfl 5 5 rfl rfl (Nat.le_of_ble_eq_true rfl) hi_X0_search_X0 hf_X0_search_36 dX0_search_2 ?_
  obtain ⟨ra, rb, hT, hF⟩ := hwp
  refine r_icmp_lt C (tgt := 9) dX0_search_5 rfl ra rb (fun hc => ?_) (fun hc => ?_)
  · have hwp := hT hc
    refine r_const C dX0_search_9 ?_
    refine r_istore C dX0_search_10 hl (Nat.le_of_ble_eq_true rfl) (Nat.le_of_ble_eq_true rfl) rfl (fun ls hl => ?_)
    obtain ⟨n9, hwp⟩ := hwp
    exact b_X0_search_12 C hA hR hrec n9 hwp hw (lh_mask hl [true, true, true, true, true, false, false, false])
  · have hwp := hF hc
    exact hR _ _ _ _ _ dX0_search_8 hwp hw
set_option maxRecDepth 100000 in
theorem c_X0_search : ∀ (d : Nat) {l : Launch} {D : va_G} {cA : FieldType → ClassId} {h : Nat → Nat} {σ : St} {sz : Nat} {v1 v2 v3 : Int} {post : St → Prop}, wp_X0_search d σ v1 v2 v3 post → Met l yX0_search wsX0_search (rm_X0_search d) (va_Pc [.ref (h 0), iv v1, iv v2, iv v3] (preS D cA K_Few h σ sz)) (QV D cA K_Few h sz post) 0 0 (aA K_Few.length h sz) := by
  intro d; induction d with
  | zero => intros; rename_i hwp; exact hwp.elim
  | succ d ih =>
    intro l D cA h σ sz v1 v2 v3 post hwp
    refine mk_met (cc := cX0_search) (nL := 8) (ret := none) (own := RX0) 4 (by decide) rfl rfl rfl rfl ?_
    intro p e s m args below meth c ls hsz C hw hl hA
    subst hsz
    exact b_X0_search_0 C hA (rt_v C _) ih hwp hw hl
-- X0_find
theorem hi_X0_find_X0 : ∀ w ∈ u_ws RX0 TX0 7, w ∈ wsX0_find := by decide +kernel
theorem hi_X0_find_X4 : ∀ w ∈ u_ws RX4 TX4 11, w ∈ wsX0_find := by decide +kernel
theorem hi_X0_find_X7 : ∀ w ∈ u_ws RX7 TX7 8, w ∈ wsX0_find := by decide +kernel
theorem hf_X0_find_9 : Cond.fieldLink RX0 9 (TX0 0).1 (TX0 0).2.1 (TX0 0).2.2.1 ∈ wsX0_find := by decide +kernel
theorem hf_X0_find_15 : Cond.fieldLink RX0 15 (TX0 1).1 (TX0 1).2.1 (TX0 1).2.2.1 ∈ wsX0_find := by decide +kernel
theorem hf_X0_find_21 : Cond.fieldLink RX0 21 (TX0 2).1 (TX0 2).2.1 (TX0 2).2.2.1 ∈ wsX0_find := by decide +kernel
theorem hf_X0_find_28 : Cond.fieldLink RX0 28 (TX0 3).1 (TX0 3).2.1 (TX0 3).2.2.1 ∈ wsX0_find := by decide +kernel
theorem hf_X0_find_32 : Cond.fieldLink RX0 32 (TX0 4).1 (TX0 4).2.1 (TX0 4).2.2.1 ∈ wsX0_find := by decide +kernel
theorem hf_X0_find_36 : Cond.fieldLink RX0 36 (TX0 5).1 (TX0 5).2.1 (TX0 5).2.2.1 ∈ wsX0_find := by decide +kernel
theorem hf_X0_find_39 : Cond.fieldLink RX0 39 (TX0 6).1 (TX0 6).2.1 (TX0 6).2.2.1 ∈ wsX0_find := by decide +kernel
theorem hf_X0_find_42 : Cond.fieldLink RX0 42 (TX4 3).1 (TX4 3).2.1 (TX4 3).2.2.1 ∈ wsX0_find := by decide +kernel
theorem hf_X0_find_47 : Cond.fieldLink RX0 47 (TX4 4).1 (TX4 4).2.1 (TX4 4).2.2.1 ∈ wsX0_find := by decide +kernel
theorem hf_X0_find_57 : Cond.fieldLink RX0 57 (TX7 0).1 (TX7 0).2.1 (TX7 0).2.2.1 ∈ wsX0_find := by decide +kernel
theorem hf_X0_find_54 : Cond.fieldLink RX0 54 (TX7 2).1 (TX7 2).2.1 (TX7 2).2.2.1 ∈ wsX0_find := by decide +kernel
def rm_X0_find : Room := { frames := 12, cells := 0, slots := 0, locals := 311 }
set_option maxRecDepth 100000 in
theorem b_X0_find_68 {post : St → Prop} (C : cx p s m args meth c wsX0_find RX0 cX0_find 3 none D cA) (hA : ∀ q, s.heap.size ≤ q → A q) (hR : RtV p l e rm_X0_find s m args below meth c Q cX0_find D cA K_FewS h A post) : ∀ {s1 s2 : Int} {σ : St} {H : Heap} {locs : List Loc} {ls : Array Slot}, wp_X0_find_68 post s1 s2 σ → wd D cA K_FewS h σ A s.heap H locs → lh ls 3 [some (.ref (h 0)), some (.ref (h 11)), none] → W p l e rm_X0_find s m args below meth c H locs 0 0 Q (F0 m 68 ls [iv s2, iv s1, .ref (h 10)]) := by
  intro s1 s2 σ H locs ls hwp hw hl
  obtain ⟨h0, h1, hwp⟩ := hwp
  obtain ⟨hz, hwp⟩ := hwp
  refine r_zast C hw 10 rfl rfl h0 h1 hz dX0_find_68 (fun H locs hw => ?_)
  have hwp := hwp _ rfl
  refine r_aload_n C dX0_find_69 hl rfl ?_
  refine r_getr C hw clX0 0 rfl 2 1 rfl (Nat.le_of_ble_eq_true rfl) hi_X0_find_X0 hf_X0_find_21 dX0_find_70 ?_
  refine r_aload_n C dX0_find_73 hl rfl ?_
  refine r_cV hA hw sb_FewS_TouchS_1_14 (run_v C hw sb_FewS_TouchS_1_14 clX7 rfl (c_X7_begin hwp) (cwV 1 C.2.2.2.2.1 gX0_find_X7_begin rfl rfl rfl hd_X7_begin ⟨Nat.le_of_ble_eq_true rfl, Nat.le_of_ble_eq_true rfl⟩) rfl rfl rfl hl dX0_find_74 ⟨Nat.zero_le _, Nat.zero_le _⟩) (fun σ H locs hwp hw => ?_)
  have hwp := hwp _ rfl
  refine r_aload_n C dX0_find_77 hl rfl ?_
  refine r_getr C hw clX0 0 rfl 2 1 rfl (Nat.le_of_ble_eq_true rfl) hi_X0_find_X0 hf_X0_find_21 dX0_find_78 ?_
  refine r_get C hw clX7 1 rfl 2 2 rfl rfl (Nat.le_of_ble_eq_true rfl) hi_X0_find_X7 hf_X0_find_54 dX0_find_81 ?_
  obtain ⟨ra, hT, hF⟩ := hwp
  refine r_if_le C (tgt := 125) dX0_find_84 rfl ra (fun hc => ?_) (fun hc => ?_)
  · have hwp := hT hc
    exact hR _ _ _ _ _ dX0_find_125 hwp hw
  · have hwp := hF hc
    refine r_aload_n C dX0_find_87 hl rfl ?_
    refine r_getr C hw clX0 0 rfl 3 8 rfl (Nat.le_of_ble_eq_true rfl) hi_X0_find_X0 hf_X0_find_28 dX0_find_88 ?_
    refine r_aload_n C dX0_find_91 hl rfl ?_
    refine r_getr C hw clX0 0 rfl 2 1 rfl (Nat.le_of_ble_eq_true rfl) hi_X0_find_X0 hf_X0_find_21 dX0_find_92 ?_
    refine r_getr C hw clX7 1 rfl 0 2 rfl (Nat.le_of_ble_eq_true rfl) hi_X0_find_X7 hf_X0_find_57 dX0_find_95 ?_
    refine r_const C dX0_find_98 ?_
    refine r_cI hA hw sb_FewS_RTr_8_15 (run_v C hw sb_FewS_RTr_8_15 clX3 rfl (c_X3_enter hwp) (cwV 2 C.2.2.2.2.1 gX0_find_X3_enter rfl rfl rfl hd_X3_enter ⟨Nat.le_of_ble_eq_true rfl, Nat.le_of_ble_eq_true rfl⟩) rfl rfl rfl hl dX0_find_99 ⟨Nat.zero_le _, Nat.zero_le _⟩) (fun r σ H locs hwp hw => ?_)
    have hwp := hwp _ rfl
    refine r_pop C dX0_find_102 rfl ?_
    refine r_aload_n C dX0_find_103 hl rfl ?_
    refine r_const C dX0_find_104 ?_
    refine r_const C dX0_find_105 ?_
    refine r_const C dX0_find_106 ?_
    refine r_cV hA hw sb_FewS_Few_0_16 (run_s C hw sb_FewS_Few_0_16 (c_X0_search 8 hwp) (va_cwS 4 C.2.2.2.2.1 gX0_find_X0_search rfl rfl rfl hd_X0_search ⟨Nat.le_of_ble_eq_true rfl, Nat.le_of_ble_eq_true rfl⟩) rfl rfl rfl hl dX0_find_107 ⟨Nat.zero_le _, Nat.zero_le _⟩) (fun σ H locs hwp hw => ?_)
    have hwp := hwp _ rfl
    refine r_aload_n C dX0_find_110 hl rfl ?_
    refine r_getr C hw clX0 0 rfl 3 8 rfl (Nat.le_of_ble_eq_true rfl) hi_X0_find_X0 hf_X0_find_28 dX0_find_111 ?_
    refine r_aload_n C dX0_find_114 hl rfl ?_
    refine r_getr C hw clX0 0 rfl 2 1 rfl (Nat.le_of_ble_eq_true rfl) hi_X0_find_X0 hf_X0_find_21 dX0_find_115 ?_
    refine r_getr C hw clX7 1 rfl 0 2 rfl (Nat.le_of_ble_eq_true rfl) hi_X0_find_X7 hf_X0_find_57 dX0_find_118 ?_
    refine r_const C dX0_find_121 ?_
    refine r_cV hA hw sb_FewS_RTr_8_15 (run_v C hw sb_FewS_RTr_8_15 clX3 rfl (c_X3_leave hwp) (cwV 2 C.2.2.2.2.1 gX0_find_X3_leave rfl rfl rfl hd_X3_leave ⟨Nat.le_of_ble_eq_true rfl, Nat.le_of_ble_eq_true rfl⟩) rfl rfl rfl hl dX0_find_122 ⟨Nat.zero_le _, Nat.zero_le _⟩) (fun σ H locs hwp hw => ?_)
    have hwp := hwp _ rfl
    exact hR _ _ _ _ _ dX0_find_125 hwp hw
set_option maxRecDepth 100000 in
theorem b_X0_find_49 {post : St → Prop} (C : cx p s m args meth c wsX0_find RX0 cX0_find 3 none D cA) (hA : ∀ q, s.heap.size ≤ q → A q) (hR : RtV p l e rm_X0_find s m args below meth c Q cX0_find D cA K_FewS h A post) : ∀ {s1 s2 : Int} {σ : St} {H : Heap} {locs : List Loc} {ls : Array Slot}, wp_X0_find_49 post s1 s2 σ → wd D cA K_FewS h σ A s.heap H locs → lh ls 3 [some (.ref (h 0)), some (.ref (h 11)), none] → W p l e rm_X0_find s m args below meth c H locs 0 0 Q (F0 m 49 ls [iv s2, iv s1, .ref (h 10)]) := by
  intro s1 s2 σ H locs ls hwp hw hl
  obtain ⟨h0, h1, hwp⟩ := hwp
  obtain ⟨hz, hwp⟩ := hwp
  refine r_zast C hw 10 rfl rfl h0 h1 hz dX0_find_49 (fun H locs hw => ?_)
  have hwp := hwp _ rfl
  refine r_aload_n C dX0_find_50 hl rfl ?_
  refine r_getr C hw clX0 0 rfl 4 10 rfl (Nat.le_of_ble_eq_true rfl) hi_X0_find_X0 hf_X0_find_32 dX0_find_51 ?_
  refine r_const C dX0_find_54 ?_
  refine r_aload_n C dX0_find_55 hl rfl ?_
  refine r_get C hw clX4 11 rfl 4 4 rfl rfl (Nat.le_of_ble_eq_true rfl) hi_X0_find_X4 hf_X0_find_47 dX0_find_56 ?_
  refine r_const C dX0_find_59 ?_
  obtain ⟨ra, hT, hF⟩ := hwp
  refine r_icmp_eq C (tgt := 67) dX0_find_60 rfl ra (by decide) (fun hc => ?_) (fun hc => ?_)
  · have hwp := hT hc
    refine r_const C dX0_find_67 ?_
    exact b_X0_find_68 C hA hR hwp hw (lh_mask hl [true, true, false])
  · have hwp := hF hc
    refine r_const C dX0_find_63 ?_
    refine r_goto C (tgt := 68) dX0_find_64 rfl ?_
    exact b_X0_find_68 C hA hR hwp hw (lh_mask hl [true, true, false])
set_option maxRecDepth 100000 in
theorem b_X0_find_0 {post : St → Prop} (C : cx p s m args meth c wsX0_find RX0 cX0_find 3 none D cA) (hA : ∀ q, s.heap.size ≤ q → A q) (hR : RtV p l e rm_X0_find s m args below meth c Q cX0_find D cA K_FewS h A post) : ∀ {v2 : Int} {σ : St} {H : Heap} {locs : List Loc} {ls : Array Slot}, wp_X0_find σ v2 post → wd D cA K_FewS h σ A s.heap H locs → lh ls 3 [some (.ref (h 0)), some (.ref (h 11)), some (iv v2)] → W p l e rm_X0_find s m args below meth c H locs 0 0 Q (F0 m 0 ls []) := by
  intro v2 σ H locs ls hwp hw hl
  refine r_aload_n C dX0_find_0 hl rfl ?_
  refine r_bipush C dX0_find_1 bpb_m5 ?_
  refine r_put C hw clX0 0 rfl 0 0 rfl rfl (Nat.le_of_ble_eq_true rfl) hi_X0_find_X0 hf_X0_find_9 rfl ⟨nar_i _, fit_i _⟩ dX0_find_3 (fun H locs hw => ?_)
  have hwp := hwp _ rfl
  refine r_aload_n C dX0_find_6 hl rfl ?_
  refine r_bipush C dX0_find_7 bpb_m5 ?_
  refine r_put C hw clX0 0 rfl 1 1 rfl rfl (Nat.le_of_ble_eq_true rfl) hi_X0_find_X0 hf_X0_find_15 rfl ⟨nar_i _, fit_i _⟩ dX0_find_9 (fun H locs hw => ?_)
  have hwp := hwp _ rfl
  refine r_aload_n C dX0_find_12 hl rfl ?_
  refine r_iload_n C dX0_find_13 hl rfl ?_
  refine r_put C hw clX0 0 rfl 5 5 rfl rfl (Nat.le_of_ble_eq_true rfl) hi_X0_find_X0 hf_X0_find_36 rfl ⟨nar_i _, fit_i _⟩ dX0_find_14 (fun H locs hw => ?_)
  have hwp := hwp _ rfl
  refine r_aload_n C dX0_find_17 hl rfl ?_
  refine r_iload_n C dX0_find_18 hl rfl ?_
  refine r_const C dX0_find_19 ?_
  refine r_iadd C dX0_find_20 ?_
  refine r_put C hw clX0 0 rfl 6 6 rfl rfl (Nat.le_of_ble_eq_true rfl) hi_X0_find_X0 hf_X0_find_39 rfl ⟨nar_i _, fit_i _⟩ dX0_find_21 (fun H locs hw => ?_)
  have hwp := hwp _ rfl
  refine r_aload_n C dX0_find_24 hl rfl ?_
  refine r_getr C hw clX0 0 rfl 4 10 rfl (Nat.le_of_ble_eq_true rfl) hi_X0_find_X0 hf_X0_find_32 dX0_find_25 ?_
  refine r_const C dX0_find_28 ?_
  refine r_const C dX0_find_29 ?_
  refine r_zast C hw 10 rfl rfl (by decide) (by decide) (Or.inr rfl) dX0_find_30 (fun H locs hw => ?_)
  have hwp := hwp _ rfl
  refine r_aload_n C dX0_find_31 hl rfl ?_
  refine r_getr C hw clX0 0 rfl 4 10 rfl (Nat.le_of_ble_eq_true rfl) hi_X0_find_X0 hf_X0_find_32 dX0_find_32 ?_
  refine r_const C dX0_find_35 ?_
  refine r_aload_n C dX0_find_36 hl rfl ?_
  refine r_get C hw clX4 11 rfl 3 3 rfl rfl (Nat.le_of_ble_eq_true rfl) hi_X0_find_X4 hf_X0_find_42 dX0_find_37 ?_
  refine r_const C dX0_find_40 ?_
  obtain ⟨ra, hT, hF⟩ := hwp
  refine r_icmp_eq C (tgt := 48) dX0_find_41 rfl ra (by decide) (fun hc => ?_) (fun hc => ?_)
  · have hwp := hT hc
    refine r_const C dX0_find_48 ?_
    exact b_X0_find_49 C hA hR hwp hw (lh_mask hl [true, true, false])
  · have hwp := hF hc
    refine r_const C dX0_find_44 ?_
    refine r_goto C (tgt := 49) dX0_find_45 rfl ?_
    exact b_X0_find_49 C hA hR hwp hw (lh_mask hl [true, true, false])
set_option maxRecDepth 100000 in
theorem c_X0_find {l : Launch} {D : va_G} {cA : FieldType → ClassId} {h : Nat → Nat} {σ : St} {sz : Nat} {v2 : Int} {post : St → Prop} (hwp : wp_X0_find σ v2 post) : Met l yX0_find wsX0_find rm_X0_find (va_Pc [.ref (h 0), .ref (h 11), iv v2] (preS D cA K_FewS h σ sz)) (QV D cA K_FewS h sz post) 0 0 (aA K_FewS.length h sz) := by
  refine mk_met (cc := cX0_find) (nL := 3) (ret := none) (own := RX0) 0 (by decide) rfl rfl rfl rfl ?_
  intro p e s m args below meth c ls hsz C hw hl hA
  subst hsz
  exact b_X0_find_0 C hA (rt_v C _) hwp hw hl
end
