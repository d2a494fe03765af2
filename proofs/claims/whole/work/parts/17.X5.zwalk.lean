section
variable {p : Program} {l : Launch} {e : Env} {s : State} {m : MethodId} {args : Array Value} {below : List Frame} {meth : Method} {c : Code} {Q : State → Prop} {D : va_G} {cA : FieldType → ClassId} {h : Nat → Nat} {A : Nat → Prop}
-- X5_append
theorem hi_X5_append_X5 : ∀ w ∈ u_ws RX5 TX5 8, w ∈ wsX5_append := by decide +kernel
theorem hf_X5_append_9 : Cond.fieldLink RX5 9 (TX5 0).1 (TX5 0).2.1 (TX5 0).2.2.1 ∈ wsX5_append := by decide +kernel
theorem hf_X5_append_15 : Cond.fieldLink RX5 15 (TX5 1).1 (TX5 1).2.1 (TX5 1).2.2.1 ∈ wsX5_append := by decide +kernel
def rm_X5_append : Room := { frames := 0, cells := 0, slots := 0, locals := 0 }
set_option maxRecDepth 100000 in
theorem b_X5_append_0 {post : Int → St → Prop} (C : cx p s m args meth c wsX5_append RX5 cX5_append 2 (some .boolean) D cA) (hA : ∀ q, s.heap.size ≤ q → A q) (hR : RtI p l e rm_X5_append s m args below meth c Q cX5_append D cA K_Text h A (fun x => x = 0 ∨ x = 1) post) : ∀ {v1 : Int} {σ : St} {H : Heap} {locs : List Loc} {ls : Array Slot}, wp_X5_append σ v1 post → wd D cA K_Text h σ A s.heap H locs → lh ls 2 [some (.ref (h 0)), some (iv v1)] → W p l e rm_X5_append s m args below meth c H locs 0 0 Q (F0 m 0 ls []) := by
  intro v1 σ H locs ls hwp hw hl
  refine r_aload_n C dX5_append_0 hl rfl ?_
  refine r_get C hw clX5 0 rfl 0 0 rfl rfl (Nat.le_of_ble_eq_true rfl) hi_X5_append_X5 hf_X5_append_9 dX5_append_1 ?_
  refine r_bipush C dX5_append_4 bpb_100 ?_
  obtain ⟨ra, hT, hF⟩ := hwp
  refine r_icmp_lt C (tgt := 11) dX5_append_6 rfl ra (by decide) (fun hc => ?_) (fun hc => ?_)
  · have hwp := hT hc
    refine r_aload_n C dX5_append_11 hl rfl ?_
    refine r_getr C hw clX5 0 rfl 1 1 rfl (Nat.le_of_ble_eq_true rfl) hi_X5_append_X5 hf_X5_append_15 dX5_append_12 ?_
    refine r_aload_n C dX5_append_15 hl rfl ?_
    refine r_get C hw clX5 0 rfl 0 0 rfl rfl (Nat.le_of_ble_eq_true rfl) hi_X5_append_X5 hf_X5_append_9 dX5_append_16 ?_
    refine r_iload_n C dX5_append_19 hl rfl ?_
    refine r_i2b C dX5_append_20 ?_
    obtain ⟨h0, h1, hwp⟩ := hwp
    obtain ⟨hx, hwp⟩ := hwp
    refine r_bast C hw 1 rfl rfl h0 h1 hx dX5_append_21 (fun H locs hw => ?_)
    have hwp := hwp _ rfl
    refine r_aload_n C dX5_append_22 hl rfl ?_
    refine r_dup C dX5_append_23 rfl ?_
    refine r_get C hw clX5 0 rfl 0 0 rfl rfl (Nat.le_of_ble_eq_true rfl) hi_X5_append_X5 hf_X5_append_9 dX5_append_24 ?_
    refine r_const C dX5_append_27 ?_
    refine r_iadd C dX5_append_28 ?_
    refine r_put C hw clX5 0 rfl 0 0 rfl rfl (Nat.le_of_ble_eq_true rfl) hi_X5_append_X5 hf_X5_append_9 rfl ⟨nar_i _, fit_i _⟩ dX5_append_29 (fun H locs hw => ?_)
    have hwp := hwp _ rfl
    refine r_const C dX5_append_32 ?_
    exact hR _ _ _ _ _ _ dX5_append_33 (Or.inr rfl) hwp hw
  · have hwp := hF hc
    refine r_const C dX5_append_9 ?_
    exact hR _ _ _ _ _ _ dX5_append_10 (Or.inl rfl) hwp hw
set_option maxRecDepth 100000 in
theorem c_X5_append {l : Launch} {D : va_G} {cA : FieldType → ClassId} {h : Nat → Nat} {σ : St} {sz : Nat} {v1 : Int} {post : Int → St → Prop} (hwp : wp_X5_append σ v1 post) : Met l yX5_append wsX5_append rm_X5_append (va_Pc [.ref (h 0), iv v1] (preS D cA K_Text h σ sz)) (QI D cA K_Text h sz post) 0 0 (aA K_Text.length h sz) := by
  refine mk_met (cc := cX5_append) (nL := 2) (ret := (some .boolean)) (own := RX5) 0 (by decide) rfl rfl rfl rfl ?_
  intro p e s m args below meth c ls hsz C hw hl hA
  subst hsz
  exact b_X5_append_0 C hA (rt_z C _) hwp hw hl
-- X5_next
theorem hi_X5_next_X5 : ∀ w ∈ u_ws RX5 TX5 8, w ∈ wsX5_next := by decide +kernel
theorem hf_X5_next_9 : Cond.fieldLink RX5 9 (TX5 0).1 (TX5 0).2.1 (TX5 0).2.2.1 ∈ wsX5_next := by decide +kernel
theorem hf_X5_next_15 : Cond.fieldLink RX5 15 (TX5 1).1 (TX5 1).2.1 (TX5 1).2.2.1 ∈ wsX5_next := by decide +kernel
theorem hf_X5_next_19 : Cond.fieldLink RX5 19 (TX5 2).1 (TX5 2).2.1 (TX5 2).2.2.1 ∈ wsX5_next := by decide +kernel
def rm_X5_next : Room := { frames := 0, cells := 0, slots := 0, locals := 0 }
set_option maxRecDepth 100000 in
theorem b_X5_next_0 {σ : St} {post : Int → Prop} (C : cx p s m args meth c wsX5_next RX5 cX5_next 1 (some .int) D cA) (hA : ∀ q, s.heap.size ≤ q → A q) (hR : RtI p l e rm_X5_next s m args below meth c Q cX5_next D cA K_Text h A (fun _ => True) (fun r σ' => σ' = σ ∧ post r)) : ∀ {H : Heap} {locs : List Loc} {ls : Array Slot}, wp_X5_next σ post → wd D cA K_Text h σ A s.heap H locs → lh ls 1 [some (.ref (h 0))] → W p l e rm_X5_next s m args below meth c H locs 0 0 Q (F0 m 0 ls []) := by
  intro H locs ls hwp hw hl
  refine r_aload_n C dX5_next_0 hl rfl ?_
  refine r_get C hw clX5 0 rfl 2 2 rfl rfl (Nat.le_of_ble_eq_true rfl) hi_X5_next_X5 hf_X5_next_19 dX5_next_1 ?_
  refine r_aload_n C dX5_next_4 hl rfl ?_
  refine r_get C hw clX5 0 rfl 0 0 rfl rfl (Nat.le_of_ble_eq_true rfl) hi_X5_next_X5 hf_X5_next_9 dX5_next_5 ?_
  obtain ⟨ra, rb, hT, hF⟩ := hwp
  refine r_icmp_ge C (tgt := 23) dX5_next_8 rfl ra rb (fun hc => ?_) (fun hc => ?_)
  · have hwp := hT hc
    refine r_const C dX5_next_23 ?_
    exact hR _ _ _ _ _ _ dX5_next_24 trivial ⟨rfl, hwp⟩ hw
  · have hwp := hF hc
    refine r_aload_n C dX5_next_11 hl rfl ?_
    refine r_getr C hw clX5 0 rfl 1 1 rfl (Nat.le_of_ble_eq_true rfl) hi_X5_next_X5 hf_X5_next_15 dX5_next_12 ?_
    refine r_aload_n C dX5_next_15 hl rfl ?_
    refine r_get C hw clX5 0 rfl 2 2 rfl rfl (Nat.le_of_ble_eq_true rfl) hi_X5_next_X5 hf_X5_next_19 dX5_next_16 ?_
    obtain ⟨h0, h1, hwp⟩ := hwp
    refine r_bald C hw 1 rfl rfl h0 h1 dX5_next_19 ?_
    refine r_goto C (tgt := 24) dX5_next_20 rfl ?_
    exact hR _ _ _ _ _ _ dX5_next_24 trivial ⟨rfl, hwp⟩ hw
set_option maxRecDepth 100000 in
theorem c_X5_next {l : Launch} {D : va_G} {cA : FieldType → ClassId} {h : Nat → Nat} {σ : St} {sz : Nat} {post : Int → Prop} (hwp : wp_X5_next σ post) : Met l yX5_next wsX5_next rm_X5_next (va_Pc [.ref (h 0)] (preS D cA K_Text h σ sz)) (QI D cA K_Text h sz (fun r σ' => σ' = σ ∧ post r)) 0 0 (aA K_Text.length h sz) := by
  refine mk_met (cc := cX5_next) (nL := 1) (ret := (some .int)) (own := RX5) 0 (by decide) rfl rfl rfl rfl ?_
  intro p e s m args below meth c ls hsz C hw hl hA
  subst hsz
  exact b_X5_next_0 C hA (rt_i C _) hwp hw hl
-- X5_keep
theorem hi_X5_keep_X5 : ∀ w ∈ u_ws RX5 TX5 8, w ∈ wsX5_keep := by decide +kernel
theorem hf_X5_keep_32 : Cond.fieldLink RX5 32 (TX5 6).1 (TX5 6).2.1 (TX5 6).2.2.1 ∈ wsX5_keep := by decide +kernel
theorem hf_X5_keep_35 : Cond.fieldLink RX5 35 (TX5 7).1 (TX5 7).2.1 (TX5 7).2.2.1 ∈ wsX5_keep := by decide +kernel
def rm_X5_keep : Room := { frames := 0, cells := 0, slots := 0, locals := 0 }
set_option maxRecDepth 100000 in
theorem b_X5_keep_0 {post : St → Prop} (C : cx p s m args meth c wsX5_keep RX5 cX5_keep 2 none D cA) (hA : ∀ q, s.heap.size ≤ q → A q) (hR : RtV p l e rm_X5_keep s m args below meth c Q cX5_keep D cA K_Text h A post) : ∀ {v1 : Int} {σ : St} {H : Heap} {locs : List Loc} {ls : Array Slot}, wp_X5_keep σ v1 post → wd D cA K_Text h σ A s.heap H locs → lh ls 2 [some (.ref (h 0)), some (iv v1)] → W p l e rm_X5_keep s m args below meth c H locs 0 0 Q (F0 m 0 ls []) := by
  intro v1 σ H locs ls hwp hw hl
  refine r_aload_n C dX5_keep_0 hl rfl ?_
  refine r_get C hw clX5 0 rfl 7 7 rfl rfl (Nat.le_of_ble_eq_true rfl) hi_X5_keep_X5 hf_X5_keep_35 dX5_keep_1 ?_
  refine r_bipush C dX5_keep_4 bpb_100 ?_
  obtain ⟨ra, hT, hF⟩ := hwp
  refine r_icmp_ge C (tgt := 29) dX5_keep_6 rfl ra (by decide) (fun hc => ?_) (fun hc => ?_)
  · have hwp := hT hc
    exact hR _ _ _ _ _ dX5_keep_29 hwp hw
  · have hwp := hF hc
    refine r_aload_n C dX5_keep_9 hl rfl ?_
    refine r_getr C hw clX5 0 rfl 6 4 rfl (Nat.le_of_ble_eq_true rfl) hi_X5_keep_X5 hf_X5_keep_32 dX5_keep_10 ?_
    refine r_aload_n C dX5_keep_13 hl rfl ?_
    refine r_get C hw clX5 0 rfl 7 7 rfl rfl (Nat.le_of_ble_eq_true rfl) hi_X5_keep_X5 hf_X5_keep_35 dX5_keep_14 ?_
    refine r_iload_n C dX5_keep_17 hl rfl ?_
    obtain ⟨h0, h1, hwp⟩ := hwp
    refine r_iast C hw 4 rfl rfl h0 h1 dX5_keep_18 (fun H locs hw => ?_)
    have hwp := hwp _ rfl
    refine r_aload_n C dX5_keep_19 hl rfl ?_
    refine r_dup C dX5_keep_20 rfl ?_
    refine r_get C hw clX5 0 rfl 7 7 rfl rfl (Nat.le_of_ble_eq_true rfl) hi_X5_keep_X5 hf_X5_keep_35 dX5_keep_21 ?_
    refine r_const C dX5_keep_24 ?_
    refine r_iadd C dX5_keep_25 ?_
    refine r_put C hw clX5 0 rfl 7 7 rfl rfl (Nat.le_of_ble_eq_true rfl) hi_X5_keep_X5 hf_X5_keep_35 rfl ⟨nar_i _, fit_i _⟩ dX5_keep_26 (fun H locs hw => ?_)
    have hwp := hwp _ rfl
    exact hR _ _ _ _ _ dX5_keep_29 hwp hw
set_option maxRecDepth 100000 in
theorem c_X5_keep {l : Launch} {D : va_G} {cA : FieldType → ClassId} {h : Nat → Nat} {σ : St} {sz : Nat} {v1 : Int} {post : St → Prop} (hwp : wp_X5_keep σ v1 post) : Met l yX5_keep wsX5_keep rm_X5_keep (va_Pc [.ref (h 0), iv v1] (preS D cA K_Text h σ sz)) (QV D cA K_Text h sz post) 0 0 (aA K_Text.length h sz) := by
  refine mk_met (cc := cX5_keep) (nL := 2) (ret := none) (own := RX5) 0 (by decide) rfl rfl rfl rfl ?_
  intro p e s m args below meth c ls hsz C hw hl hA
  subst hsz
  exact b_X5_keep_0 C hA (rt_v C _) hwp hw hl
-- X5_parseDigit
theorem hi_X5_parseDigit_X5 : ∀ w ∈ u_ws RX5 TX5 8, w ∈ wsX5_parseDigit := by decide +kernel
theorem hf_X5_parseDigit_19 : Cond.fieldLink RX5 19 (TX5 2).1 (TX5 2).2.1 (TX5 2).2.2.1 ∈ wsX5_parseDigit := by decide +kernel
def rm_X5_parseDigit : Room := { frames := 1, cells := 0, slots := 0, locals := 21 }
set_option maxRecDepth 100000 in
theorem b_X5_parseDigit_0 {post : Int → St → Prop} (C : cx p s m args meth c wsX5_parseDigit RX5 cX5_parseDigit 2 (some .boolean) D cA) (hA : ∀ q, s.heap.size ≤ q → A q) (hR : RtI p l e rm_X5_parseDigit s m args below meth c Q cX5_parseDigit D cA K_Text h A (fun x => x = 0 ∨ x = 1) post) : ∀ {σ : St} {H : Heap} {locs : List Loc} {ls : Array Slot}, wp_X5_parseDigit σ post → wd D cA K_Text h σ A s.heap H locs → lh ls 2 [some (.ref (h 0)), none] → W p l e rm_X5_parseDigit s m args below meth c H locs 0 0 Q (F0 m 0 ls []) := by
  intro σ H locs ls hwp hw hl
  refine r_aload_n C dX5_parseDigit_0 hl rfl ?_
  refine r_cIr0 hA hw (run_v0 C hw clX5 rfl (c_X5_next hwp) (cwV 0 C.2.2.2.2.1 gX5_parseDigit_X5_next rfl rfl rfl hd_X5_next ⟨Nat.le_of_ble_eq_true rfl, Nat.le_of_ble_eq_true rfl⟩) rfl rfl rfl hl dX5_parseDigit_1 ⟨Nat.zero_le _, Nat.zero_le _⟩) (fun r H locs hwp hw => ?_)
  refine r_istore_n C dX5_parseDigit_4 hl (Nat.le_of_ble_eq_true rfl) (Nat.le_of_ble_eq_true rfl) rfl (fun ls hl => ?_)
  refine r_iload_n C dX5_parseDigit_5 hl rfl ?_
  refine r_bipush C dX5_parseDigit_6 bpb_48 ?_
  obtain ⟨ra, hT, hF⟩ := hwp
  refine r_icmp_lt C (tgt := 17) dX5_parseDigit_8 rfl ra (by decide) (fun hc => ?_) (fun hc => ?_)
  · have hwp := hT hc
    refine r_const C dX5_parseDigit_17 ?_
    exact hR _ _ _ _ _ _ dX5_parseDigit_18 (Or.inl rfl) hwp hw
  · have hwp := hF hc
    refine r_iload_n C dX5_parseDigit_11 hl rfl ?_
    refine r_bipush C dX5_parseDigit_12 bpb_57 ?_
    obtain ⟨ra, hT, hF⟩ := hwp
    refine r_icmp_le C (tgt := 19) dX5_parseDigit_14 rfl ra (by decide) (fun hc => ?_) (fun hc => ?_)
    · have hwp := hT hc
      refine r_aload_n C dX5_parseDigit_19 hl rfl ?_
      refine r_dup C dX5_parseDigit_20 rfl ?_
      refine r_get C hw clX5 0 rfl 2 2 rfl rfl (Nat.le_of_ble_eq_true rfl) hi_X5_parseDigit_X5 hf_X5_parseDigit_19 dX5_parseDigit_21 ?_
      refine r_const C dX5_parseDigit_24 ?_
      refine r_iadd C dX5_parseDigit_25 ?_
      refine r_put C hw clX5 0 rfl 2 2 rfl rfl (Nat.le_of_ble_eq_true rfl) hi_X5_parseDigit_X5 hf_X5_parseDigit_19 rfl ⟨nar_i _, fit_i _⟩ dX5_parseDigit_26 (fun H locs hw => ?_)
      have hwp := hwp _ rfl
      refine r_aload_n C dX5_parseDigit_29 hl rfl ?_
      refine r_iload_n C dX5_parseDigit_30 hl rfl ?_
      refine r_bipush C dX5_parseDigit_31 bpb_48 ?_
      refine r_isub C dX5_parseDigit_33 ?_
      refine r_cV0 hA hw (run_v0 C hw clX5 rfl (c_X5_keep hwp) (cwV 1 C.2.2.2.2.1 gX5_parseDigit_X5_keep rfl rfl rfl hd_X5_keep ⟨Nat.le_of_ble_eq_true rfl, Nat.le_of_ble_eq_true rfl⟩) rfl rfl rfl hl dX5_parseDigit_34 ⟨Nat.zero_le _, Nat.zero_le _⟩) (fun σ H locs hwp hw => ?_)
      refine r_const C dX5_parseDigit_37 ?_
      exact hR _ _ _ _ _ _ dX5_parseDigit_38 (Or.inr rfl) hwp hw
    · have hwp := hF hc
      refine r_const C dX5_parseDigit_17 ?_
      exact hR _ _ _ _ _ _ dX5_parseDigit_18 (Or.inl rfl) hwp hw
set_option maxRecDepth 100000 in
theorem c_X5_parseDigit {l : Launch} {D : va_G} {cA : FieldType → ClassId} {h : Nat → Nat} {σ : St} {sz : Nat} {post : Int → St → Prop} (hwp : wp_X5_parseDigit σ post) : Met l yX5_parseDigit wsX5_parseDigit rm_X5_parseDigit (va_Pc [.ref (h 0)] (preS D cA K_Text h σ sz)) (QI D cA K_Text h sz post) 0 0 (aA K_Text.length h sz) := by
  refine mk_met (cc := cX5_parseDigit) (nL := 2) (ret := (some .boolean)) (own := RX5) 1 (by decide) rfl rfl rfl rfl ?_
  intro p e s m args below meth c ls hsz C hw hl hA
  subst hsz
  exact b_X5_parseDigit_0 C hA (rt_z C _) hwp hw hl
-- X5_isPlaceSign
def rm_X5_isPlaceSign : Room := { frames := 0, cells := 0, slots := 0, locals := 0 }
set_option maxRecDepth 100000 in
theorem b_X5_isPlaceSign_0 {σ : St} {post : Int → Prop} (C : cx p s m args meth c wsX5_isPlaceSign RX5 cX5_isPlaceSign 1 (some .boolean) D cA) (hA : ∀ q, s.heap.size ≤ q → A q) (hR : RtI p l e rm_X5_isPlaceSign s m args below meth c Q cX5_isPlaceSign D cA K_0 h A (fun x => x = 0 ∨ x = 1) (fun r σ' => σ' = σ ∧ post r)) : ∀ {v0 : Int} {H : Heap} {locs : List Loc} {ls : Array Slot}, wp_X5_isPlaceSign v0 post → wd D cA K_0 h σ A s.heap H locs → lh ls 1 [some (iv v0)] → W p l e rm_X5_isPlaceSign s m args below meth c H locs 0 0 Q (F0 m 0 ls []) := by
  intro v0 H locs ls hwp hw hl
  refine r_iload_n C dX5_isPlaceSign_0 hl rfl ?_
  refine r_bipush C dX5_isPlaceSign_1 bpb_49 ?_
  obtain ⟨ra, hT, hF⟩ := hwp
  refine r_icmp_lt C (tgt := 16) dX5_isPlaceSign_3 rfl ra (by decide) (fun hc => ?_) (fun hc => ?_)
  · have hwp := hT hc
    refine r_const C dX5_isPlaceSign_16 ?_
    exact hR _ _ _ _ _ _ dX5_isPlaceSign_17 (Or.inl rfl) ⟨rfl, hwp⟩ hw
  · have hwp := hF hc
    refine r_iload_n C dX5_isPlaceSign_6 hl rfl ?_
    refine r_bipush C dX5_isPlaceSign_7 bpb_56 ?_
    obtain ⟨ra, hT, hF⟩ := hwp
    refine r_icmp_gt C (tgt := 16) dX5_isPlaceSign_9 rfl ra (by decide) (fun hc => ?_) (fun hc => ?_)
    · have hwp := hT hc
      refine r_const C dX5_isPlaceSign_16 ?_
      exact hR _ _ _ _ _ _ dX5_isPlaceSign_17 (Or.inl rfl) ⟨rfl, hwp⟩ hw
    · have hwp := hF hc
      refine r_const C dX5_isPlaceSign_12 ?_
      refine r_goto C (tgt := 17) dX5_isPlaceSign_13 rfl ?_
      exact hR _ _ _ _ _ _ dX5_isPlaceSign_17 (Or.inr rfl) ⟨rfl, hwp⟩ hw
set_option maxRecDepth 100000 in
theorem c_X5_isPlaceSign {l : Launch} {D : va_G} {cA : FieldType → ClassId} {h : Nat → Nat} {σ : St} {sz : Nat} {v0 : Int} {post : Int → Prop} (hwp : wp_X5_isPlaceSign v0 post) : Met l yX5_isPlaceSign wsX5_isPlaceSign rm_X5_isPlaceSign (va_Pc [iv v0] (preS D cA K_0 h σ sz)) (QI D cA K_0 h sz (fun r σ' => σ' = σ ∧ post r)) 0 0 (aA K_0.length h sz) := by
  refine mk_met (cc := cX5_isPlaceSign) (nL := 1) (ret := (some .boolean)) (own := RX5) 0 (by decide) rfl rfl rfl rfl ?_
  intro p e s m args below meth c ls hsz C hw hl hA
  subst hsz
  exact b_X5_isPlaceSign_0 C hA (rt_z C _) hwp hw hl
-- X5_parseWord
theorem hi_X5_parseWord_X5 : ∀ w ∈ u_ws RX5 TX5 8, w ∈ wsX5_parseWord := by decide +kernel
theorem hf_X5_parseWord_19 : Cond.fieldLink RX5 19 (TX5 2).1 (TX5 2).2.1 (TX5 2).2.2.1 ∈ wsX5_parseWord := by decide +kernel
def rm_X5_parseWord : Room := { frames := 1, cells := 0, slots := 0, locals := 21 }
set_option maxRecDepth 100000 in
theorem b_X5_parseWord_74 {post : Int → St → Prop} (C : cx p s m args meth c wsX5_parseWord RX5 cX5_parseWord 3 (some .boolean) D cA) (hA : ∀ q, s.heap.size ≤ q → A q) (hR : RtI p l e rm_X5_parseWord s m args below meth c Q cX5_parseWord D cA K_Text h A (fun x => x = 0 ∨ x = 1) post) : ∀ {v1 v2 : Int} {σ : St} {H : Heap} {locs : List Loc} {ls : Array Slot}, wp_X5_parseWord_74 post v1 v2 σ → wd D cA K_Text h σ A s.heap H locs → lh ls 3 [some (.ref (h 0)), some (iv v1), some (iv v2)] → W p l e rm_X5_parseWord s m args below meth c H locs 0 0 Q (F0 m 74 ls []) := by
  intro v1 v2 σ H locs ls hwp hw hl
  refine r_iload_n C dX5_parseWord_74 hl rfl ?_
  obtain ⟨ra, hT, hF⟩ := hwp
  refine r_if_ne C (tgt := 80) dX5_parseWord_75 rfl ra (fun hc => ?_) (fun hc => ?_)
  · have hwp := hT hc
    refine r_aload_n C dX5_parseWord_80 hl rfl ?_
    refine r_iload_n C dX5_parseWord_81 hl rfl ?_
    refine r_cV0 hA hw (run_v0 C hw clX5 rfl (c_X5_keep hwp) (cwV 1 C.2.2.2.2.1 gX5_parseWord_X5_keep rfl rfl rfl hd_X5_keep ⟨Nat.le_of_ble_eq_true rfl, Nat.le_of_ble_eq_true rfl⟩) rfl rfl rfl hl dX5_parseWord_82 ⟨Nat.zero_le _, Nat.zero_le _⟩) (fun σ H locs hwp hw => ?_)
    refine r_const C dX5_parseWord_85 ?_
    exact hR _ _ _ _ _ _ dX5_parseWord_86 (Or.inr rfl) hwp hw
  · have hwp := hF hc
    refine r_const C dX5_parseWord_78 ?_
    exact hR _ _ _ _ _ _ dX5_parseWord_79 (Or.inl rfl) hwp hw
set_option maxRecDepth 100000 in
theorem b_X5_parseWord_30 {post : Int → St → Prop} (C : cx p s m args meth c wsX5_parseWord RX5 cX5_parseWord 3 (some .boolean) D cA) (hA : ∀ q, s.heap.size ≤ q → A q) (hR : RtI p l e rm_X5_parseWord s m args below meth c Q cX5_parseWord D cA K_Text h A (fun x => x = 0 ∨ x = 1) post) : ∀ (n : Nat) {v1 v2 : Int} {σ : St} {H : Heap} {locs : List Loc} {ls : Array Slot}, wp_X5_parseWord_30 post n v1 v2 σ → wd D cA K_Text h σ A s.heap H locs → lh ls 3 [some (.ref (h 0)), some (iv v1), some (iv v2)] → W p l e rm_X5_parseWord s m args below meth c H locs 0 0 Q (F0 m 30 ls []) := by
  intro n; induction n with
  | zero => intros; rename_i hwp _ _; exact hwp.elim
  | succ n ih =>
    intro v1 v2 σ H locs ls hwp hw hl
    refine r_iload_n C dX5_parseWord_30 hl rfl ?_
    refine r_bipush C dX5_parseWord_31 bpb_8 ?_
    obtain ⟨ra, hT, hF⟩ := hwp
    refine r_icmp_ge C (tgt := 74) dX5_parseWord_33 rfl ra (by decide) (fun hc => ?_) (fun hc => ?_)
    · have hwp := hT hc
      exact b_X5_parseWord_74 C hA hR hwp hw (lh_mask hl [true, true, true])
    · have hwp := hF hc
      refine r_aload_n C dX5_parseWord_36 hl rfl ?_
      refine r_cIr0 hA hw (run_v0 C hw clX5 rfl (c_X5_next hwp) (cwV 0 C.2.2.2.2.1 gX5_parseWord_X5_next rfl rfl rfl hd_X5_next ⟨Nat.le_of_ble_eq_true rfl, Nat.le_of_ble_eq_true rfl⟩) rfl rfl rfl hl dX5_parseWord_37 ⟨Nat.zero_le _, Nat.zero_le _⟩) (fun r H locs hwp hw => ?_)
      refine r_cIr hA hw sb_Text_0_0_17 (run_s C hw sb_Text_0_0_17 (c_X5_isPlaceSign hwp) (va_cwS 1 C.2.2.2.2.1 gX5_parseWord_X5_isPlaceSign rfl rfl rfl hd_X5_isPlaceSign ⟨Nat.le_of_ble_eq_true rfl, Nat.le_of_ble_eq_true rfl⟩) rfl rfl rfl hl dX5_parseWord_40 ⟨Nat.zero_le _, Nat.zero_le _⟩) (fun r H locs hwp hw => ?_)
      obtain ⟨ra, hT, hF⟩ := hwp
      refine r_if_eq C (tgt := 74) dX5_parseWord_43 rfl ra (fun hc => ?_) (fun hc => ?_)
      · have hwp := hT hc
        exact b_X5_parseWord_74 C hA hR hwp hw (lh_mask hl [true, true, true])
      · have hwp := hF hc
        refine r_iload_n C dX5_parseWord_46 hl rfl ?_
        refine r_const C dX5_parseWord_47 ?_
        refine r_aload_n C dX5_parseWord_48 hl rfl ?_
        refine r_cIr0 hA hw (run_v0 C hw clX5 rfl (c_X5_next hwp) (cwV 0 C.2.2.2.2.1 gX5_parseWord_X5_next rfl rfl rfl hd_X5_next ⟨Nat.le_of_ble_eq_true rfl, Nat.le_of_ble_eq_true rfl⟩) rfl rfl rfl hl dX5_parseWord_49 ⟨Nat.zero_le _, Nat.zero_le _⟩) (fun r H locs hwp hw => ?_)
        refine r_bipush C dX5_parseWord_52 bpb_49 ?_
        refine r_isub C dX5_parseWord_54 ?_
        refine r_ishl C dX5_parseWord_55 ?_
        refine r_ior C dX5_parseWord_56 ?_
        refine r_istore_n C dX5_parseWord_57 hl (Nat.le_of_ble_eq_true rfl) (Nat.le_of_ble_eq_true rfl) rfl (fun ls hl => ?_)
        refine r_aload_n C dX5_parseWord_58 hl rfl ?_
        refine r_dup C dX5_parseWord_59 rfl ?_
        refine r_get C hw clX5 0 rfl 2 2 rfl rfl (Nat.le_of_ble_eq_true rfl) hi_X5_parseWord_X5 hf_X5_parseWord_19 dX5_parseWord_60 ?_
        refine r_const C dX5_parseWord_63 ?_
        refine r_iadd C dX5_parseWord_64 ?_
        refine r_put C hw clX5 0 rfl 2 2 rfl rfl (Nat.le_of_ble_eq_true rfl) hi_X5_parseWord_X5 hf_X5_parseWord_19 rfl ⟨nar_i _, fit_i _⟩ dX5_parseWord_65 (fun H locs hw => ?_)
        have hwp := hwp _ rfl
        refine r_iinc C dX5_parseWord_68 hl rfl (Nat.le_of_ble_eq_true rfl) rfl (fun ls hl => ?_)
        refine r_goto C (tgt := 30) dX5_parseWord_71 rfl ?_
        exact ih hwp hw (lh_mask hl [true, true, true])
set_option maxRecDepth 100000 in
theorem b_X5_parseWord_0 {post : Int → St → Prop} (C : cx p s m args meth c wsX5_parseWord RX5 cX5_parseWord 3 (some .boolean) D cA) (hA : ∀ q, s.heap.size ≤ q → A q) (hR : RtI p l e rm_X5_parseWord s m args below meth c Q cX5_parseWord D cA K_Text h A (fun x => x = 0 ∨ x = 1) post) : ∀ {σ : St} {H : Heap} {locs : List Loc} {ls : Array Slot}, wp_X5_parseWord σ post → wd D cA K_Text h σ A s.heap H locs → lh ls 3 [some (.ref (h 0)), none, none] → W p l e rm_X5_parseWord s m args below meth c H locs 0 0 Q (F0 m 0 ls []) := by
  intro σ H locs ls hwp hw hl
  refine r_aload_n C dX5_parseWord_0 hl rfl ?_
  refine r_cIr0 hA hw (run_v0 C hw clX5 rfl (c_X5_next hwp) (cwV 0 C.2.2.2.2.1 gX5_parseWord_X5_next rfl rfl rfl hd_X5_next ⟨Nat.le_of_ble_eq_true rfl, Nat.le_of_ble_eq_true rfl⟩) rfl rfl rfl hl dX5_parseWord_1 ⟨Nat.zero_le _, Nat.zero_le _⟩) (fun r H locs hwp hw => ?_)
  refine r_bipush C dX5_parseWord_4 bpb_120 ?_
  obtain ⟨ra, hT, hF⟩ := hwp
  refine r_icmp_ne C (tgt := 26) dX5_parseWord_6 rfl ra (by decide) (fun hc => ?_) (fun hc => ?_)
  · have hwp := hT hc
    refine r_const C dX5_parseWord_26 ?_
    refine r_istore_n C dX5_parseWord_27 hl (Nat.le_of_ble_eq_true rfl) (Nat.le_of_ble_eq_true rfl) rfl (fun ls hl => ?_)
    refine r_const C dX5_parseWord_28 ?_
    refine r_istore_n C dX5_parseWord_29 hl (Nat.le_of_ble_eq_true rfl) (Nat.le_of_ble_eq_true rfl) rfl (fun ls hl => ?_)
    obtain ⟨n9, hwp⟩ := hwp
    exact b_X5_parseWord_30 C hA hR n9 hwp hw (lh_mask hl [true, true, true])
  · have hwp := hF hc
    refine r_aload_n C dX5_parseWord_9 hl rfl ?_
    refine r_dup C dX5_parseWord_10 rfl ?_
    refine r_get C hw clX5 0 rfl 2 2 rfl rfl (Nat.le_of_ble_eq_true rfl) hi_X5_parseWord_X5 hf_X5_parseWord_19 dX5_parseWord_11 ?_
    refine r_const C dX5_parseWord_14 ?_
    refine r_iadd C dX5_parseWord_15 ?_
    refine r_put C hw clX5 0 rfl 2 2 rfl rfl (Nat.le_of_ble_eq_true rfl) hi_X5_parseWord_X5 hf_X5_parseWord_19 rfl ⟨nar_i _, fit_i _⟩ dX5_parseWord_16 (fun H locs hw => ?_)
    have hwp := hwp _ rfl
    refine r_aload_n C dX5_parseWord_19 hl rfl ?_
    refine r_const C dX5_parseWord_20 ?_
    refine r_cV0 hA hw (run_v0 C hw clX5 rfl (c_X5_keep hwp) (cwV 1 C.2.2.2.2.1 gX5_parseWord_X5_keep rfl rfl rfl hd_X5_keep ⟨Nat.le_of_ble_eq_true rfl, Nat.le_of_ble_eq_true rfl⟩) rfl rfl rfl hl dX5_parseWord_21 ⟨Nat.zero_le _, Nat.zero_le _⟩) (fun σ H locs hwp hw => ?_)
    refine r_const C dX5_parseWord_24 ?_
    exact hR _ _ _ _ _ _ dX5_parseWord_25 (Or.inr rfl) hwp hw
set_option maxRecDepth 100000 in
theorem c_X5_parseWord {l : Launch} {D : va_G} {cA : FieldType → ClassId} {h : Nat → Nat} {σ : St} {sz : Nat} {post : Int → St → Prop} (hwp : wp_X5_parseWord σ post) : Met l yX5_parseWord wsX5_parseWord rm_X5_parseWord (va_Pc [.ref (h 0)] (preS D cA K_Text h σ sz)) (QI D cA K_Text h sz post) 0 0 (aA K_Text.length h sz) := by
  refine mk_met (cc := cX5_parseWord) (nL := 3) (ret := (some .boolean)) (own := RX5) 2 (by decide) rfl rfl rfl rfl ?_
  intro p e s m args below meth c ls hsz C hw hl hA
  subst hsz
  exact b_X5_parseWord_0 C hA (rt_z C _) hwp hw hl
-- X5_parseWords
theorem hi_X5_parseWords_X5 : ∀ w ∈ u_ws RX5 TX5 8, w ∈ wsX5_parseWords := by decide +kernel
theorem hf_X5_parseWords_15 : Cond.fieldLink RX5 15 (TX5 1).1 (TX5 1).2.1 (TX5 1).2.2.1 ∈ wsX5_parseWords := by decide +kernel
theorem hf_X5_parseWords_19 : Cond.fieldLink RX5 19 (TX5 2).1 (TX5 2).2.1 (TX5 2).2.2.1 ∈ wsX5_parseWords := by decide +kernel
def rm_X5_parseWords : Room := { frames := 2, cells := 0, slots := 0, locals := 43 }
set_option maxRecDepth 100000 in
theorem b_X5_parseWords_99 {post : Int → St → Prop} (C : cx p s m args meth c wsX5_parseWords RX5 cX5_parseWords 3 (some .boolean) D cA) (hA : ∀ q, s.heap.size ≤ q → A q) (hR : RtI p l e rm_X5_parseWords s m args below meth c Q cX5_parseWords D cA K_Text h A (fun x => x = 0 ∨ x = 1) post) {k11 : Int → St → Prop} (hk11 : ∀ {v1 : Int} {σ : St} {H : Heap} {locs : List Loc} {ls : Array Slot}, k11 v1 σ → wd D cA K_Text h σ A s.heap H locs → lh ls 3 [some (.ref (h 0)), some (iv v1), none] → W p l e rm_X5_parseWords s m args below meth c H locs 0 0 Q (F0 m 11 ls [])) : ∀ {v1 : Int} {σ : St} {H : Heap} {locs : List Loc} {ls : Array Slot}, wp_X5_parseWords_99 k11 post v1 σ → wd D cA K_Text h σ A s.heap H locs → lh ls 3 [some (.ref (h 0)), some (iv v1), none] → W p l e rm_X5_parseWords s m args below meth c H locs 0 0 Q (F0 m 99 ls []) := by
  intro v1 σ H locs ls hwp hw hl
  refine r_aload_n C dX5_parseWords_99 hl rfl ?_
  refine r_cI0 hA hw (run_v0 C hw clX5 rfl (c_X5_parseWord hwp) (cwV 0 C.2.2.2.2.1 gX5_parseWords_X5_parseWord rfl rfl rfl hd_X5_parseWord ⟨Nat.le_of_ble_eq_true rfl, Nat.le_of_ble_eq_true rfl⟩) rfl rfl rfl hl dX5_parseWords_100 ⟨Nat.zero_le _, Nat.zero_le _⟩) (fun r σ H locs hwp hw => ?_)
  refine r_pop C dX5_parseWords_103 rfl ?_
  refine r_iinc C dX5_parseWords_104 hl rfl (Nat.le_of_ble_eq_true rfl) rfl (fun ls hl => ?_)
  refine r_goto C (tgt := 11) dX5_parseWords_107 rfl ?_
  exact hk11 hwp hw (lh_mask hl [true, true, false])
set_option maxRecDepth 100000 in
theorem b_X5_parseWords_74 {post : Int → St → Prop} (C : cx p s m args meth c wsX5_parseWords RX5 cX5_parseWords 3 (some .boolean) D cA) (hA : ∀ q, s.heap.size ≤ q → A q) (hR : RtI p l e rm_X5_parseWords s m args below meth c Q cX5_parseWords D cA K_Text h A (fun x => x = 0 ∨ x = 1) post) {k11 : Int → St → Prop} (hk11 : ∀ {v1 : Int} {σ : St} {H : Heap} {locs : List Loc} {ls : Array Slot}, k11 v1 σ → wd D cA K_Text h σ A s.heap H locs → lh ls 3 [some (.ref (h 0)), some (iv v1), none] → W p l e rm_X5_parseWords s m args below meth c H locs 0 0 Q (F0 m 11 ls [])) : ∀ {v1 v2 : Int} {σ : St} {H : Heap} {locs : List Loc} {ls : Array Slot}, wp_X5_parseWords_74 k11 post v1 v2 σ → wd D cA K_Text h σ A s.heap H locs → lh ls 3 [some (.ref (h 0)), some (iv v1), some (iv v2)] → W p l e rm_X5_parseWords s m args below meth c H locs 0 0 Q (F0 m 74 ls []) := by
  intro v1 v2 σ H locs ls hwp hw hl
  refine r_aload_n C dX5_parseWords_74 hl rfl ?_
  refine r_cIr0 hA hw (run_v0 C hw clX5 rfl (c_X5_next hwp) (cwV 0 C.2.2.2.2.1 gX5_parseWords_X5_next rfl rfl rfl hd_X5_next ⟨Nat.le_of_ble_eq_true rfl, Nat.le_of_ble_eq_true rfl⟩) rfl rfl rfl hl dX5_parseWords_75 ⟨Nat.zero_le _, Nat.zero_le _⟩) (fun r H locs hwp hw => ?_)
  refine r_bipush C dX5_parseWords_78 bpb_120 ?_
  obtain ⟨ra, hT, hF⟩ := hwp
  refine r_icmp_eq C (tgt := 99) dX5_parseWords_80 rfl ra (by decide) (fun hc => ?_) (fun hc => ?_)
  · have hwp := hT hc
    exact b_X5_parseWords_99 C hA hR hk11 hwp hw (lh_mask hl [true, true, false])
  · have hwp := hF hc
    refine r_iload_n C dX5_parseWords_83 hl rfl ?_
    obtain ⟨ra, hT, hF⟩ := hwp
    refine r_if_eq C (tgt := 97) dX5_parseWords_84 rfl ra (fun hc => ?_) (fun hc => ?_)
    · have hwp := hT hc
      refine r_const C dX5_parseWords_97 ?_
      exact hR _ _ _ _ _ _ dX5_parseWords_98 (Or.inr rfl) hwp hw
    · have hwp := hF hc
      refine r_aload_n C dX5_parseWords_87 hl rfl ?_
      refine r_cIr0 hA hw (run_v0 C hw clX5 rfl (c_X5_next hwp) (cwV 0 C.2.2.2.2.1 gX5_parseWords_X5_next rfl rfl rfl hd_X5_next ⟨Nat.le_of_ble_eq_true rfl, Nat.le_of_ble_eq_true rfl⟩) rfl rfl rfl hl dX5_parseWords_88 ⟨Nat.zero_le _, Nat.zero_le _⟩) (fun r H locs hwp hw => ?_)
      refine r_cIr hA hw sb_Text_0_0_17 (run_s C hw sb_Text_0_0_17 (c_X5_isPlaceSign hwp) (va_cwS 1 C.2.2.2.2.1 gX5_parseWords_X5_isPlaceSign rfl rfl rfl hd_X5_isPlaceSign ⟨Nat.le_of_ble_eq_true rfl, Nat.le_of_ble_eq_true rfl⟩) rfl rfl rfl hl dX5_parseWords_91 ⟨Nat.zero_le _, Nat.zero_le _⟩) (fun r H locs hwp hw => ?_)
      obtain ⟨ra, hT, hF⟩ := hwp
      refine r_if_ne C (tgt := 99) dX5_parseWords_94 rfl ra (fun hc => ?_) (fun hc => ?_)
      · have hwp := hT hc
        exact b_X5_parseWords_99 C hA hR hk11 hwp hw (lh_mask hl [true, true, false])
      · have hwp := hF hc
        refine r_const C dX5_parseWords_97 ?_
        exact hR _ _ _ _ _ _ dX5_parseWords_98 (Or.inr rfl) hwp hw
set_option maxRecDepth 100000 in
theorem b_X5_parseWords_38 {post : Int → St → Prop} (C : cx p s m args meth c wsX5_parseWords RX5 cX5_parseWords 3 (some .boolean) D cA) (hA : ∀ q, s.heap.size ≤ q → A q) (hR : RtI p l e rm_X5_parseWords s m args below meth c Q cX5_parseWords D cA K_Text h A (fun x => x = 0 ∨ x = 1) post) {k11 : Int → St → Prop} (hk11 : ∀ {v1 : Int} {σ : St} {H : Heap} {locs : List Loc} {ls : Array Slot}, k11 v1 σ → wd D cA K_Text h σ A s.heap H locs → lh ls 3 [some (.ref (h 0)), some (iv v1), none] → W p l e rm_X5_parseWords s m args below meth c H locs 0 0 Q (F0 m 11 ls [])) : ∀ {v1 s0 : Int} {σ : St} {H : Heap} {locs : List Loc} {ls : Array Slot}, wp_X5_parseWords_38 k11 post v1 s0 σ → wd D cA K_Text h σ A s.heap H locs → lh ls 3 [some (.ref (h 0)), some (iv v1), none] → W p l e rm_X5_parseWords s m args below meth c H locs 0 0 Q (F0 m 38 ls [iv s0]) := by
  intro v1 s0 σ H locs ls hwp hw hl
  refine r_istore_n C dX5_parseWords_38 hl (Nat.le_of_ble_eq_true rfl) (Nat.le_of_ble_eq_true rfl) rfl (fun ls hl => ?_)
  refine r_aload_n C dX5_parseWords_39 hl rfl ?_
  refine r_cIr0 hA hw (run_v0 C hw clX5 rfl (c_X5_next hwp) (cwV 0 C.2.2.2.2.1 gX5_parseWords_X5_next rfl rfl rfl hd_X5_next ⟨Nat.le_of_ble_eq_true rfl, Nat.le_of_ble_eq_true rfl⟩) rfl rfl rfl hl dX5_parseWords_40 ⟨Nat.zero_le _, Nat.zero_le _⟩) (fun r H locs hwp hw => ?_)
  refine r_bipush C dX5_parseWords_43 bpb_46 ?_
  obtain ⟨ra, hT, hF⟩ := hwp
  refine r_icmp_ne C (tgt := 74) dX5_parseWords_45 rfl ra (by decide) (fun hc => ?_) (fun hc => ?_)
  · have hwp := hT hc
    exact b_X5_parseWords_74 C hA hR hk11 hwp hw (lh_mask hl [true, true, true])
  · have hwp := hF hc
    refine r_iload_n C dX5_parseWords_48 hl rfl ?_
    obtain ⟨ra, hT, hF⟩ := hwp
    refine r_if_ne C (tgt := 74) dX5_parseWords_49 rfl ra (fun hc => ?_) (fun hc => ?_)
    · have hwp := hT hc
      exact b_X5_parseWords_74 C hA hR hk11 hwp hw (lh_mask hl [true, true, true])
    · have hwp := hF hc
      refine r_aload_n C dX5_parseWords_52 hl rfl ?_
      refine r_dup C dX5_parseWords_53 rfl ?_
      refine r_get C hw clX5 0 rfl 2 2 rfl rfl (Nat.le_of_ble_eq_true rfl) hi_X5_parseWords_X5 hf_X5_parseWords_19 dX5_parseWords_54 ?_
      refine r_const C dX5_parseWords_57 ?_
      refine r_iadd C dX5_parseWords_58 ?_
      refine r_put C hw clX5 0 rfl 2 2 rfl rfl (Nat.le_of_ble_eq_true rfl) hi_X5_parseWords_X5 hf_X5_parseWords_19 rfl ⟨nar_i _, fit_i _⟩ dX5_parseWords_59 (fun H locs hw => ?_)
      have hwp := hwp _ rfl
      refine r_aload_n C dX5_parseWords_62 hl rfl ?_
      refine r_cIr0 hA hw (run_v0 C hw clX5 rfl (c_X5_next hwp) (cwV 0 C.2.2.2.2.1 gX5_parseWords_X5_next rfl rfl rfl hd_X5_next ⟨Nat.le_of_ble_eq_true rfl, Nat.le_of_ble_eq_true rfl⟩) rfl rfl rfl hl dX5_parseWords_63 ⟨Nat.zero_le _, Nat.zero_le _⟩) (fun r H locs hwp hw => ?_)
      refine r_cIr hA hw sb_Text_0_0_17 (run_s C hw sb_Text_0_0_17 (c_X5_isPlaceSign hwp) (va_cwS 1 C.2.2.2.2.1 gX5_parseWords_X5_isPlaceSign rfl rfl rfl hd_X5_isPlaceSign ⟨Nat.le_of_ble_eq_true rfl, Nat.le_of_ble_eq_true rfl⟩) rfl rfl rfl hl dX5_parseWords_66 ⟨Nat.zero_le _, Nat.zero_le _⟩) (fun r H locs hwp hw => ?_)
      obtain ⟨ra, hT, hF⟩ := hwp
      refine r_if_ne C (tgt := 99) dX5_parseWords_69 rfl ra (fun hc => ?_) (fun hc => ?_)
      · have hwp := hT hc
        exact b_X5_parseWords_99 C hA hR hk11 hwp hw (lh_mask hl [true, true, false])
      · have hwp := hF hc
        refine r_const C dX5_parseWords_72 ?_
        exact hR _ _ _ _ _ _ dX5_parseWords_73 (Or.inl rfl) hwp hw
set_option maxRecDepth 100000 in
theorem b_X5_parseWords_11 {post : Int → St → Prop} (C : cx p s m args meth c wsX5_parseWords RX5 cX5_parseWords 3 (some .boolean) D cA) (hA : ∀ q, s.heap.size ≤ q → A q) (hR : RtI p l e rm_X5_parseWords s m args below meth c Q cX5_parseWords D cA K_Text h A (fun x => x = 0 ∨ x = 1) post) : ∀ (n : Nat) {v1 : Int} {σ : St} {H : Heap} {locs : List Loc} {ls : Array Slot}, wp_X5_parseWords_11 post n v1 σ → wd D cA K_Text h σ A s.heap H locs → lh ls 3 [some (.ref (h 0)), some (iv v1), none] → W p l e rm_X5_parseWords s m args below meth c H locs 0 0 Q (F0 m 11 ls []) := by
  intro n; induction n with
  | zero => intros; rename_i hwp _ _; exact hwp.elim
  | succ n ih =>
    intro v1 σ H locs ls hwp hw hl
    refine r_iload_n C dX5_parseWords_11 hl rfl ?_
    refine r_bipush C dX5_parseWords_12 bpb_16 ?_
    obtain ⟨ra, hT, hF⟩ := hwp
    refine r_icmp_ge C (tgt := 110) dX5_parseWords_14 rfl ra (by decide) (fun hc => ?_) (fun hc => ?_)
    · have hwp := hT hc
      refine r_const C dX5_parseWords_110 ?_
      exact hR _ _ _ _ _ _ dX5_parseWords_111 (Or.inr rfl) hwp hw
    · have hwp := hF hc
      refine r_aload_n C dX5_parseWords_17 hl rfl ?_
      refine r_getr C hw clX5 0 rfl 1 1 rfl (Nat.le_of_ble_eq_true rfl) hi_X5_parseWords_X5 hf_X5_parseWords_15 dX5_parseWords_18 ?_
      refine r_aload_n C dX5_parseWords_21 hl rfl ?_
      refine r_get C hw clX5 0 rfl 2 2 rfl rfl (Nat.le_of_ble_eq_true rfl) hi_X5_parseWords_X5 hf_X5_parseWords_19 dX5_parseWords_22 ?_
      refine r_const C dX5_parseWords_25 ?_
      refine r_isub C dX5_parseWords_26 ?_
      obtain ⟨h0, h1, hwp⟩ := hwp
      refine r_bald C hw 1 rfl rfl h0 h1 dX5_parseWords_27 ?_
      refine r_bipush C dX5_parseWords_28 bpb_120 ?_
      obtain ⟨ra, hT, hF⟩ := hwp
      refine r_icmp_ne C (tgt := 37) dX5_parseWords_30 rfl ra (by decide) (fun hc => ?_) (fun hc => ?_)
      · have hwp := hT hc
        refine r_const C dX5_parseWords_37 ?_
        exact b_X5_parseWords_38 C hA hR ih hwp hw (lh_mask hl [true, true, false])
      · have hwp := hF hc
        refine r_const C dX5_parseWords_33 ?_
        refine r_goto C (tgt := 38) dX5_parseWords_34 rfl ?_
        exact b_X5_parseWords_38 C hA hR ih hwp hw (lh_mask hl [true, true, false])
set_option maxRecDepth 100000 in
theorem b_X5_parseWords_0 {post : Int → St → Prop} (C : cx p s m args meth c wsX5_parseWords RX5 cX5_parseWords 3 (some .boolean) D cA) (hA : ∀ q, s.heap.size ≤ q → A q) (hR : RtI p l e rm_X5_parseWords s m args below meth c Q cX5_parseWords D cA K_Text h A (fun x => x = 0 ∨ x = 1) post) : ∀ {σ : St} {H : Heap} {locs : List Loc} {ls : Array Slot}, wp_X5_parseWords σ post → wd D cA K_Text h σ A s.heap H locs → lh ls 3 [some (.ref (h 0)), none, none] → W p l e rm_X5_parseWords s m args below meth c H locs 0 0 Q (F0 m 0 ls []) := by
  intro σ H locs ls hwp hw hl
  refine r_aload_n C dX5_parseWords_0 hl rfl ?_
  refine r_cI0 hA hw (run_v0 C hw clX5 rfl (c_X5_parseWord hwp) (cwV 0 C.2.2.2.2.1 gX5_parseWords_X5_parseWord rfl rfl rfl hd_X5_parseWord ⟨Nat.le_of_ble_eq_true rfl, Nat.le_of_ble_eq_true rfl⟩) rfl rfl rfl hl dX5_parseWords_1 ⟨Nat.zero_le _, Nat.zero_le _⟩) (fun r σ H locs hwp hw => ?_)
  obtain ⟨ra, hT, hF⟩ := hwp
  refine r_if_ne C (tgt := 9) dX5_parseWords_4 rfl ra (fun hc => ?_) (fun hc => ?_)
  · have hwp := hT hc
    refine r_const C dX5_parseWords_9 ?_
    refine r_istore_n C dX5_parseWords_10 hl (Nat.le_of_ble_eq_true rfl) (Nat.le_of_ble_eq_true rfl) rfl (fun ls hl => ?_)
    obtain ⟨n9, hwp⟩ := hwp
    exact b_X5_parseWords_11 C hA hR n9 hwp hw (lh_mask hl [true, true, false])
  · have hwp := hF hc
    refine r_const C dX5_parseWords_7 ?_
    exact hR _ _ _ _ _ _ dX5_parseWords_8 (Or.inl rfl) hwp hw
set_option maxRecDepth 100000 in
theorem c_X5_parseWords {l : Launch} {D : va_G} {cA : FieldType → ClassId} {h : Nat → Nat} {σ : St} {sz : Nat} {post : Int → St → Prop} (hwp : wp_X5_parseWords σ post) : Met l yX5_parseWords wsX5_parseWords rm_X5_parseWords (va_Pc [.ref (h 0)] (preS D cA K_Text h σ sz)) (QI D cA K_Text h sz post) 0 0 (aA K_Text.length h sz) := by
  refine mk_met (cc := cX5_parseWords) (nL := 3) (ret := (some .boolean)) (own := RX5) 2 (by decide) rfl rfl rfl rfl ?_
  intro p e s m args below meth c ls hsz C hw hl hA
  subst hsz
  exact b_X5_parseWords_0 C hA (rt_z C _) hwp hw hl
-- X5_callOf
def rm_X5_callOf : Room := { frames := 0, cells := 0, slots := 0, locals := 0 }
set_option maxRecDepth 100000 in
theorem b_X5_callOf_0 {σ : St} {post : Int → Prop} (C : cx p s m args meth c wsX5_callOf RX5 cX5_callOf 1 (some .int) D cA) (hA : ∀ q, s.heap.size ≤ q → A q) (hR : RtI p l e rm_X5_callOf s m args below meth c Q cX5_callOf D cA K_0 h A (fun _ => True) (fun r σ' => σ' = σ ∧ post r)) : ∀ {v0 : Int} {H : Heap} {locs : List Loc} {ls : Array Slot}, wp_X5_callOf v0 post → wd D cA K_0 h σ A s.heap H locs → lh ls 1 [some (iv v0)] → W p l e rm_X5_callOf s m args below meth c H locs 0 0 Q (F0 m 0 ls []) := by
  intro v0 H locs ls hwp hw hl
  refine r_iload_n C dX5_callOf_0 hl rfl ?_
  obtain ⟨ra, hS0, hS1, hS2, hD⟩ := hwp
  rcases lk_98_112_115 ra with hc | hc | hc | hc
  · have hwp := hS0 hc
    refine r_look C (tgt := 38) dX5_callOf_1 ra rfl (by rw [hc] <;> rfl) rfl ?_
    refine r_const C dX5_callOf_38 ?_
    exact hR _ _ _ _ _ _ dX5_callOf_39 trivial ⟨rfl, hwp⟩ hw
  · have hwp := hS1 hc
    refine r_look C (tgt := 36) dX5_callOf_1 ra rfl (by rw [hc] <;> rfl) rfl ?_
    refine r_const C dX5_callOf_36 ?_
    exact hR _ _ _ _ _ _ dX5_callOf_37 trivial ⟨rfl, hwp⟩ hw
  · have hwp := hS2 hc
    refine r_look C (tgt := 40) dX5_callOf_1 ra rfl (by rw [hc] <;> rfl) rfl ?_
    refine r_const C dX5_callOf_40 ?_
    exact hR _ _ _ _ _ _ dX5_callOf_41 trivial ⟨rfl, hwp⟩ hw
  · have hwp := hD hc
    refine r_look C (tgt := 42) dX5_callOf_1 ra rfl (lo_98_112_115 hc) rfl ?_
    refine r_const C dX5_callOf_42 ?_
    exact hR _ _ _ _ _ _ dX5_callOf_43 trivial ⟨rfl, hwp⟩ hw
set_option maxRecDepth 100000 in
theorem c_X5_callOf {l : Launch} {D : va_G} {cA : FieldType → ClassId} {h : Nat → Nat} {σ : St} {sz : Nat} {v0 : Int} {post : Int → Prop} (hwp : wp_X5_callOf v0 post) : Met l yX5_callOf wsX5_callOf rm_X5_callOf (va_Pc [iv v0] (preS D cA K_0 h σ sz)) (QI D cA K_0 h sz (fun r σ' => σ' = σ ∧ post r)) 0 0 (aA K_0.length h sz) := by
  refine mk_met (cc := cX5_callOf) (nL := 1) (ret := (some .int)) (own := RX5) 0 (by decide) rfl rfl rfl rfl ?_
  intro p e s m args below meth c ls hsz C hw hl hA
  subst hsz
  exact b_X5_callOf_0 C hA (rt_i C _) hwp hw hl
-- X5_parseCalls
theorem hi_X5_parseCalls_X5 : ∀ w ∈ u_ws RX5 TX5 8, w ∈ wsX5_parseCalls := by decide +kernel
theorem hf_X5_parseCalls_19 : Cond.fieldLink RX5 19 (TX5 2).1 (TX5 2).2.1 (TX5 2).2.2.1 ∈ wsX5_parseCalls := by decide +kernel
def rm_X5_parseCalls : Room := { frames := 1, cells := 0, slots := 0, locals := 21 }
set_option maxRecDepth 100000 in
theorem b_X5_parseCalls_46 {post : Int → St → Prop} (C : cx p s m args meth c wsX5_parseCalls RX5 cX5_parseCalls 2 (some .boolean) D cA) (hA : ∀ q, s.heap.size ≤ q → A q) (hR : RtI p l e rm_X5_parseCalls s m args below meth c Q cX5_parseCalls D cA K_Text h A (fun x => x = 0 ∨ x = 1) post) : ∀ {v1 : Int} {σ : St} {H : Heap} {locs : List Loc} {ls : Array Slot}, wp_X5_parseCalls_46 post v1 σ → wd D cA K_Text h σ A s.heap H locs → lh ls 2 [none, some (iv v1)] → W p l e rm_X5_parseCalls s m args below meth c H locs 0 0 Q (F0 m 46 ls []) := by
  intro v1 σ H locs ls hwp hw hl
  refine r_iload_n C dX5_parseCalls_46 hl rfl ?_
  obtain ⟨ra, hT, hF⟩ := hwp
  refine r_if_le C (tgt := 54) dX5_parseCalls_47 rfl ra (fun hc => ?_) (fun hc => ?_)
  · have hwp := hT hc
    refine r_const C dX5_parseCalls_54 ?_
    exact hR _ _ _ _ _ _ dX5_parseCalls_55 (Or.inl rfl) hwp hw
  · have hwp := hF hc
    refine r_const C dX5_parseCalls_50 ?_
    refine r_goto C (tgt := 55) dX5_parseCalls_51 rfl ?_
    exact hR _ _ _ _ _ _ dX5_parseCalls_55 (Or.inr rfl) hwp hw
set_option maxRecDepth 100000 in
theorem b_X5_parseCalls_2 {post : Int → St → Prop} (C : cx p s m args meth c wsX5_parseCalls RX5 cX5_parseCalls 2 (some .boolean) D cA) (hA : ∀ q, s.heap.size ≤ q → A q) (hR : RtI p l e rm_X5_parseCalls s m args below meth c Q cX5_parseCalls D cA K_Text h A (fun x => x = 0 ∨ x = 1) post) : ∀ (n : Nat) {v1 : Int} {σ : St} {H : Heap} {locs : List Loc} {ls : Array Slot}, wp_X5_parseCalls_2 post n v1 σ → wd D cA K_Text h σ A s.heap H locs → lh ls 2 [some (.ref (h 0)), some (iv v1)] → W p l e rm_X5_parseCalls s m args below meth c H locs 0 0 Q (F0 m 2 ls []) := by
  intro n; induction n with
  | zero => intros; rename_i hwp _ _; exact hwp.elim
  | succ n ih =>
    intro v1 σ H locs ls hwp hw hl
    refine r_iload_n C dX5_parseCalls_2 hl rfl ?_
    refine r_bipush C dX5_parseCalls_3 bpb_12 ?_
    obtain ⟨ra, hT, hF⟩ := hwp
    refine r_icmp_ge C (tgt := 46) dX5_parseCalls_5 rfl ra (by decide) (fun hc => ?_) (fun hc => ?_)
    · have hwp := hT hc
      exact b_X5_parseCalls_46 C hA hR hwp hw (lh_mask hl [false, true])
    · have hwp := hF hc
      refine r_aload_n C dX5_parseCalls_8 hl rfl ?_
      refine r_cIr0 hA hw (run_v0 C hw clX5 rfl (c_X5_next hwp) (cwV 0 C.2.2.2.2.1 gX5_parseCalls_X5_next rfl rfl rfl hd_X5_next ⟨Nat.le_of_ble_eq_true rfl, Nat.le_of_ble_eq_true rfl⟩) rfl rfl rfl hl dX5_parseCalls_9 ⟨Nat.zero_le _, Nat.zero_le _⟩) (fun r H locs hwp hw => ?_)
      refine r_cIr hA hw sb_Text_0_0_17 (run_s C hw sb_Text_0_0_17 (c_X5_callOf hwp) (va_cwS 1 C.2.2.2.2.1 gX5_parseCalls_X5_callOf rfl rfl rfl hd_X5_callOf ⟨Nat.le_of_ble_eq_true rfl, Nat.le_of_ble_eq_true rfl⟩) rfl rfl rfl hl dX5_parseCalls_12 ⟨Nat.zero_le _, Nat.zero_le _⟩) (fun r H locs hwp hw => ?_)
      refine r_const C dX5_parseCalls_15 ?_
      obtain ⟨ra, hT, hF⟩ := hwp
      refine r_icmp_eq C (tgt := 46) dX5_parseCalls_16 rfl ra (by decide) (fun hc => ?_) (fun hc => ?_)
      · have hwp := hT hc
        exact b_X5_parseCalls_46 C hA hR hwp hw (lh_mask hl [false, true])
      · have hwp := hF hc
        refine r_aload_n C dX5_parseCalls_19 hl rfl ?_
        refine r_aload_n C dX5_parseCalls_20 hl rfl ?_
        refine r_cIr0 hA hw (run_v0 C hw clX5 rfl (c_X5_next hwp) (cwV 0 C.2.2.2.2.1 gX5_parseCalls_X5_next rfl rfl rfl hd_X5_next ⟨Nat.le_of_ble_eq_true rfl, Nat.le_of_ble_eq_true rfl⟩) rfl rfl rfl hl dX5_parseCalls_21 ⟨Nat.zero_le _, Nat.zero_le _⟩) (fun r H locs hwp hw => ?_)
        refine r_cIr hA hw sb_Text_0_0_17 (run_s C hw sb_Text_0_0_17 (c_X5_callOf hwp) (va_cwS 1 C.2.2.2.2.1 gX5_parseCalls_X5_callOf rfl rfl rfl hd_X5_callOf ⟨Nat.le_of_ble_eq_true rfl, Nat.le_of_ble_eq_true rfl⟩) rfl rfl rfl hl dX5_parseCalls_24 ⟨Nat.zero_le _, Nat.zero_le _⟩) (fun r H locs hwp hw => ?_)
        refine r_cV0 hA hw (run_v0 C hw clX5 rfl (c_X5_keep hwp) (cwV 1 C.2.2.2.2.1 gX5_parseCalls_X5_keep rfl rfl rfl hd_X5_keep ⟨Nat.le_of_ble_eq_true rfl, Nat.le_of_ble_eq_true rfl⟩) rfl rfl rfl hl dX5_parseCalls_27 ⟨Nat.zero_le _, Nat.zero_le _⟩) (fun σ H locs hwp hw => ?_)
        refine r_aload_n C dX5_parseCalls_30 hl rfl ?_
        refine r_dup C dX5_parseCalls_31 rfl ?_
        refine r_get C hw clX5 0 rfl 2 2 rfl rfl (Nat.le_of_ble_eq_true rfl) hi_X5_parseCalls_X5 hf_X5_parseCalls_19 dX5_parseCalls_32 ?_
        refine r_const C dX5_parseCalls_35 ?_
        refine r_iadd C dX5_parseCalls_36 ?_
        refine r_put C hw clX5 0 rfl 2 2 rfl rfl (Nat.le_of_ble_eq_true rfl) hi_X5_parseCalls_X5 hf_X5_parseCalls_19 rfl ⟨nar_i _, fit_i _⟩ dX5_parseCalls_37 (fun H locs hw => ?_)
        have hwp := hwp _ rfl
        refine r_iinc C dX5_parseCalls_40 hl rfl (Nat.le_of_ble_eq_true rfl) rfl (fun ls hl => ?_)
        refine r_goto C (tgt := 2) dX5_parseCalls_43 rfl ?_
        exact ih hwp hw (lh_mask hl [true, true])
set_option maxRecDepth 100000 in
theorem b_X5_parseCalls_0 {post : Int → St → Prop} (C : cx p s m args meth c wsX5_parseCalls RX5 cX5_parseCalls 2 (some .boolean) D cA) (hA : ∀ q, s.heap.size ≤ q → A q) (hR : RtI p l e rm_X5_parseCalls s m args below meth c Q cX5_parseCalls D cA K_Text h A (fun x => x = 0 ∨ x = 1) post) : ∀ {σ : St} {H : Heap} {locs : List Loc} {ls : Array Slot}, wp_X5_parseCalls σ post → wd D cA K_Text h σ A s.heap H locs → lh ls 2 [some (.ref (h 0)), none] → W p l e rm_X5_parseCalls s m args below meth c H locs 0 0 Q (F0 m 0 ls []) := by
  intro σ H locs ls hwp hw hl
  refine r_const C dX5_parseCalls_0 ?_
  refine r_istore_n C dX5_parseCalls_1 hl (Nat.le_of_ble_eq_true rfl) (Nat.le_of_ble_eq_true rfl) rfl (fun ls hl => ?_)
  obtain ⟨n9, hwp⟩ := hwp
  exact b_X5_parseCalls_2 C hA hR n9 hwp hw (lh_mask hl [true, true])
set_option maxRecDepth 100000 in
theorem c_X5_parseCalls {l : Launch} {D : va_G} {cA : FieldType → ClassId} {h : Nat → Nat} {σ : St} {sz : Nat} {post : Int → St → Prop} (hwp : wp_X5_parseCalls σ post) : Met l yX5_parseCalls wsX5_parseCalls rm_X5_parseCalls (va_Pc [.ref (h 0)] (preS D cA K_Text h σ sz)) (QI D cA K_Text h sz post) 0 0 (aA K_Text.length h sz) := by
  refine mk_met (cc := cX5_parseCalls) (nL := 2) (ret := (some .boolean)) (own := RX5) 1 (by decide) rfl rfl rfl rfl ?_
  intro p e s m args below meth c ls hsz C hw hl hA
  subst hsz
  exact b_X5_parseCalls_0 C hA (rt_z C _) hwp hw hl
-- X5_parseClause
theorem hi_X5_parseClause_X5 : ∀ w ∈ u_ws RX5 TX5 8, w ∈ wsX5_parseClause := by decide +kernel
theorem hf_X5_parseClause_19 : Cond.fieldLink RX5 19 (TX5 2).1 (TX5 2).2.1 (TX5 2).2.2.1 ∈ wsX5_parseClause := by decide +kernel
def rm_X5_parseClause : Room := { frames := 3, cells := 0, slots := 0, locals := 65 }
set_option maxRecDepth 100000 in
theorem b_X5_parseClause_0 {post : Int → St → Prop} (C : cx p s m args meth c wsX5_parseClause RX5 cX5_parseClause 2 (some .boolean) D cA) (hA : ∀ q, s.heap.size ≤ q → A q) (hR : RtI p l e rm_X5_parseClause s m args below meth c Q cX5_parseClause D cA K_Text h A (fun x => x = 0 ∨ x = 1) post) : ∀ {σ : St} {H : Heap} {locs : List Loc} {ls : Array Slot}, wp_X5_parseClause σ post → wd D cA K_Text h σ A s.heap H locs → lh ls 2 [some (.ref (h 0)), none] → W p l e rm_X5_parseClause s m args below meth c H locs 0 0 Q (F0 m 0 ls []) := by
  intro σ H locs ls hwp hw hl
  refine r_aload_n C dX5_parseClause_0 hl rfl ?_
  refine r_cIr0 hA hw (run_v0 C hw clX5 rfl (c_X5_next hwp) (cwV 0 C.2.2.2.2.1 gX5_parseClause_X5_next rfl rfl rfl hd_X5_next ⟨Nat.le_of_ble_eq_true rfl, Nat.le_of_ble_eq_true rfl⟩) rfl rfl rfl hl dX5_parseClause_1 ⟨Nat.zero_le _, Nat.zero_le _⟩) (fun r H locs hwp hw => ?_)
  refine r_istore_n C dX5_parseClause_4 hl (Nat.le_of_ble_eq_true rfl) (Nat.le_of_ble_eq_true rfl) rfl (fun ls hl => ?_)
  refine r_iload_n C dX5_parseClause_5 hl rfl ?_
  obtain ⟨ra, hS0, hS1, hS2, hS3, hS4, hD⟩ := hwp
  rcases lk_98_99_109_110_115 ra with hc | hc | hc | hc | hc | hc
  · have hwp := hS0 hc
    refine r_look C (tgt := 86) dX5_parseClause_6 ra rfl (by rw [hc] <;> rfl) rfl ?_
    refine r_aload_n C dX5_parseClause_86 hl rfl ?_
    refine r_dup C dX5_parseClause_87 rfl ?_
    refine r_get C hw clX5 0 rfl 2 2 rfl rfl (Nat.le_of_ble_eq_true rfl) hi_X5_parseClause_X5 hf_X5_parseClause_19 dX5_parseClause_88 ?_
    refine r_const C dX5_parseClause_91 ?_
    refine r_iadd C dX5_parseClause_92 ?_
    refine r_put C hw clX5 0 rfl 2 2 rfl rfl (Nat.le_of_ble_eq_true rfl) hi_X5_parseClause_X5 hf_X5_parseClause_19 rfl ⟨nar_i _, fit_i _⟩ dX5_parseClause_93 (fun H locs hw => ?_)
    have hwp := hwp _ rfl
    refine r_aload_n C dX5_parseClause_96 hl rfl ?_
    refine r_cI0 hA hw (run_v0 C hw clX5 rfl (c_X5_parseWord hwp) (cwV 0 C.2.2.2.2.1 gX5_parseClause_X5_parseWord rfl rfl rfl hd_X5_parseWord ⟨Nat.le_of_ble_eq_true rfl, Nat.le_of_ble_eq_true rfl⟩) rfl rfl rfl hl dX5_parseClause_97 ⟨Nat.zero_le _, Nat.zero_le _⟩) (fun r σ H locs hwp hw => ?_)
    obtain ⟨hz, hwp⟩ := hwp
    exact hR _ _ _ _ _ _ dX5_parseClause_100 hz hwp hw
  · have hwp := hS1 hc
    refine r_look C (tgt := 101) dX5_parseClause_6 ra rfl (by rw [hc] <;> rfl) rfl ?_
    refine r_aload_n C dX5_parseClause_101 hl rfl ?_
    refine r_dup C dX5_parseClause_102 rfl ?_
    refine r_get C hw clX5 0 rfl 2 2 rfl rfl (Nat.le_of_ble_eq_true rfl) hi_X5_parseClause_X5 hf_X5_parseClause_19 dX5_parseClause_103 ?_
    refine r_const C dX5_parseClause_106 ?_
    refine r_iadd C dX5_parseClause_107 ?_
    refine r_put C hw clX5 0 rfl 2 2 rfl rfl (Nat.le_of_ble_eq_true rfl) hi_X5_parseClause_X5 hf_X5_parseClause_19 rfl ⟨nar_i _, fit_i _⟩ dX5_parseClause_108 (fun H locs hw => ?_)
    have hwp := hwp _ rfl
    refine r_aload_n C dX5_parseClause_111 hl rfl ?_
    refine r_cI0 hA hw (run_v0 C hw clX5 rfl (c_X5_parseCalls hwp) (cwV 0 C.2.2.2.2.1 gX5_parseClause_X5_parseCalls rfl rfl rfl hd_X5_parseCalls ⟨Nat.le_of_ble_eq_true rfl, Nat.le_of_ble_eq_true rfl⟩) rfl rfl rfl hl dX5_parseClause_112 ⟨Nat.zero_le _, Nat.zero_le _⟩) (fun r σ H locs hwp hw => ?_)
    obtain ⟨hz, hwp⟩ := hwp
    exact hR _ _ _ _ _ _ dX5_parseClause_115 hz hwp hw
  · have hwp := hS2 hc
    refine r_look C (tgt := 71) dX5_parseClause_6 ra rfl (by rw [hc] <;> rfl) rfl ?_
    refine r_aload_n C dX5_parseClause_71 hl rfl ?_
    refine r_dup C dX5_parseClause_72 rfl ?_
    refine r_get C hw clX5 0 rfl 2 2 rfl rfl (Nat.le_of_ble_eq_true rfl) hi_X5_parseClause_X5 hf_X5_parseClause_19 dX5_parseClause_73 ?_
    refine r_const C dX5_parseClause_76 ?_
    refine r_iadd C dX5_parseClause_77 ?_
    refine r_put C hw clX5 0 rfl 2 2 rfl rfl (Nat.le_of_ble_eq_true rfl) hi_X5_parseClause_X5 hf_X5_parseClause_19 rfl ⟨nar_i _, fit_i _⟩ dX5_parseClause_78 (fun H locs hw => ?_)
    have hwp := hwp _ rfl
    refine r_aload_n C dX5_parseClause_81 hl rfl ?_
    refine r_cI0 hA hw (run_v0 C hw clX5 rfl (c_X5_parseWords hwp) (cwV 0 C.2.2.2.2.1 gX5_parseClause_X5_parseWords rfl rfl rfl hd_X5_parseWords ⟨Nat.le_of_ble_eq_true rfl, Nat.le_of_ble_eq_true rfl⟩) rfl rfl rfl hl dX5_parseClause_82 ⟨Nat.zero_le _, Nat.zero_le _⟩) (fun r σ H locs hwp hw => ?_)
    obtain ⟨hz, hwp⟩ := hwp
    exact hR _ _ _ _ _ _ dX5_parseClause_85 hz hwp hw
  · have hwp := hS3 hc
    refine r_look C (tgt := 56) dX5_parseClause_6 ra rfl (by rw [hc] <;> rfl) rfl ?_
    refine r_aload_n C dX5_parseClause_56 hl rfl ?_
    refine r_dup C dX5_parseClause_57 rfl ?_
    refine r_get C hw clX5 0 rfl 2 2 rfl rfl (Nat.le_of_ble_eq_true rfl) hi_X5_parseClause_X5 hf_X5_parseClause_19 dX5_parseClause_58 ?_
    refine r_const C dX5_parseClause_61 ?_
    refine r_iadd C dX5_parseClause_62 ?_
    refine r_put C hw clX5 0 rfl 2 2 rfl rfl (Nat.le_of_ble_eq_true rfl) hi_X5_parseClause_X5 hf_X5_parseClause_19 rfl ⟨nar_i _, fit_i _⟩ dX5_parseClause_63 (fun H locs hw => ?_)
    have hwp := hwp _ rfl
    refine r_aload_n C dX5_parseClause_66 hl rfl ?_
    refine r_cI0 hA hw (run_v0 C hw clX5 rfl (c_X5_parseDigit hwp) (cwV 0 C.2.2.2.2.1 gX5_parseClause_X5_parseDigit rfl rfl rfl hd_X5_parseDigit ⟨Nat.le_of_ble_eq_true rfl, Nat.le_of_ble_eq_true rfl⟩) rfl rfl rfl hl dX5_parseClause_67 ⟨Nat.zero_le _, Nat.zero_le _⟩) (fun r σ H locs hwp hw => ?_)
    obtain ⟨hz, hwp⟩ := hwp
    exact hR _ _ _ _ _ _ dX5_parseClause_70 hz hwp hw
  · have hwp := hS4 hc
    refine r_look C (tgt := 86) dX5_parseClause_6 ra rfl (by rw [hc] <;> rfl) rfl ?_
    refine r_aload_n C dX5_parseClause_86 hl rfl ?_
    refine r_dup C dX5_parseClause_87 rfl ?_
    refine r_get C hw clX5 0 rfl 2 2 rfl rfl (Nat.le_of_ble_eq_true rfl) hi_X5_parseClause_X5 hf_X5_parseClause_19 dX5_parseClause_88 ?_
    refine r_const C dX5_parseClause_91 ?_
    refine r_iadd C dX5_parseClause_92 ?_
    refine r_put C hw clX5 0 rfl 2 2 rfl rfl (Nat.le_of_ble_eq_true rfl) hi_X5_parseClause_X5 hf_X5_parseClause_19 rfl ⟨nar_i _, fit_i _⟩ dX5_parseClause_93 (fun H locs hw => ?_)
    have hwp := hwp _ rfl
    refine r_aload_n C dX5_parseClause_96 hl rfl ?_
    refine r_cI0 hA hw (run_v0 C hw clX5 rfl (c_X5_parseWord hwp) (cwV 0 C.2.2.2.2.1 gX5_parseClause_X5_parseWord rfl rfl rfl hd_X5_parseWord ⟨Nat.le_of_ble_eq_true rfl, Nat.le_of_ble_eq_true rfl⟩) rfl rfl rfl hl dX5_parseClause_97 ⟨Nat.zero_le _, Nat.zero_le _⟩) (fun r σ H locs hwp hw => ?_)
    obtain ⟨hz, hwp⟩ := hwp
    exact hR _ _ _ _ _ _ dX5_parseClause_100 hz hwp hw
  · have hwp := hD hc
    refine r_look C (tgt := 116) dX5_parseClause_6 ra rfl (lo_98_99_109_110_115 hc) rfl ?_
    refine r_const C dX5_parseClause_116 ?_
    exact hR _ _ _ _ _ _ dX5_parseClause_117 (Or.inl rfl) hwp hw
set_option maxRecDepth 100000 in
theorem c_X5_parseClause {l : Launch} {D : va_G} {cA : FieldType → ClassId} {h : Nat → Nat} {σ : St} {sz : Nat} {post : Int → St → Prop} (hwp : wp_X5_parseClause σ post) : Met l yX5_parseClause wsX5_parseClause rm_X5_parseClause (va_Pc [.ref (h 0)] (preS D cA K_Text h σ sz)) (QI D cA K_Text h sz post) 0 0 (aA K_Text.length h sz) := by
  refine mk_met (cc := cX5_parseClause) (nL := 2) (ret := (some .boolean)) (own := RX5) 1 (by decide) rfl rfl rfl rfl ?_
  intro p e s m args below meth c ls hsz C hw hl hA
  subst hsz
  exact b_X5_parseClause_0 C hA (rt_z C _) hwp hw hl
-- X5_parse
theorem hi_X5_parse_X5 : ∀ w ∈ u_ws RX5 TX5 8, w ∈ wsX5_parse := by decide +kernel
theorem hf_X5_parse_19 : Cond.fieldLink RX5 19 (TX5 2).1 (TX5 2).2.1 (TX5 2).2.2.1 ∈ wsX5_parse := by decide +kernel
theorem hf_X5_parse_22 : Cond.fieldLink RX5 22 (TX5 3).1 (TX5 3).2.1 (TX5 3).2.2.1 ∈ wsX5_parse := by decide +kernel
theorem hf_X5_parse_26 : Cond.fieldLink RX5 26 (TX5 4).1 (TX5 4).2.1 (TX5 4).2.2.1 ∈ wsX5_parse := by decide +kernel
theorem hf_X5_parse_29 : Cond.fieldLink RX5 29 (TX5 5).1 (TX5 5).2.1 (TX5 5).2.2.1 ∈ wsX5_parse := by decide +kernel
theorem hf_X5_parse_35 : Cond.fieldLink RX5 35 (TX5 7).1 (TX5 7).2.1 (TX5 7).2.2.1 ∈ wsX5_parse := by decide +kernel
def rm_X5_parse : Room := { frames := 4, cells := 0, slots := 0, locals := 86 }
set_option maxRecDepth 100000 in
theorem b_X5_parse_104 {post : Int → St → Prop} (C : cx p s m args meth c wsX5_parse RX5 cX5_parse 2 (some .int) D cA) (hA : ∀ q, s.heap.size ≤ q → A q) (hR : RtI p l e rm_X5_parse s m args below meth c Q cX5_parse D cA K_Text h A (fun _ => True) post) : ∀ {σ : St} {H : Heap} {locs : List Loc} {ls : Array Slot}, wp_X5_parse_104 post σ → wd D cA K_Text h σ A s.heap H locs → lh ls 2 [some (.ref (h 0)), none] → W p l e rm_X5_parse s m args below meth c H locs 0 0 Q (F0 m 104 ls []) := by
  intro σ H locs ls hwp hw hl
  refine r_aload_n C dX5_parse_104 hl rfl ?_
  refine r_get C hw clX5 0 rfl 2 2 rfl rfl (Nat.le_of_ble_eq_true rfl) hi_X5_parse_X5 hf_X5_parse_19 dX5_parse_105 ?_
  exact hR _ _ _ _ _ _ dX5_parse_108 trivial hwp hw
set_option maxRecDepth 100000 in
theorem b_X5_parse_17 {post : Int → St → Prop} (C : cx p s m args meth c wsX5_parse RX5 cX5_parse 2 (some .int) D cA) (hA : ∀ q, s.heap.size ≤ q → A q) (hR : RtI p l e rm_X5_parse s m args below meth c Q cX5_parse D cA K_Text h A (fun _ => True) post) : ∀ (n : Nat) {v1 : Int} {σ : St} {H : Heap} {locs : List Loc} {ls : Array Slot}, wp_X5_parse_17 post n v1 σ → wd D cA K_Text h σ A s.heap H locs → lh ls 2 [some (.ref (h 0)), some (iv v1)] → W p l e rm_X5_parse s m args below meth c H locs 0 0 Q (F0 m 17 ls []) := by
  intro n; induction n with
  | zero => intros; rename_i hwp _ _; exact hwp.elim
  | succ n ih =>
    intro v1 σ H locs ls hwp hw hl
    refine r_iload_n C dX5_parse_17 hl rfl ?_
    refine r_bipush C dX5_parse_18 bpb_10 ?_
    obtain ⟨ra, hT, hF⟩ := hwp
    refine r_icmp_ge C (tgt := 125) dX5_parse_20 rfl ra (by decide) (fun hc => ?_) (fun hc => ?_)
    · have hwp := hT hc
      refine r_aload_n C dX5_parse_125 hl rfl ?_
      refine r_get C hw clX5 0 rfl 2 2 rfl rfl (Nat.le_of_ble_eq_true rfl) hi_X5_parse_X5 hf_X5_parse_19 dX5_parse_126 ?_
      exact hR _ _ _ _ _ _ dX5_parse_129 trivial hwp hw
    · have hwp := hF hc
      refine r_aload_n C dX5_parse_23 hl rfl ?_
      refine r_getr C hw clX5 0 rfl 4 3 rfl (Nat.le_of_ble_eq_true rfl) hi_X5_parse_X5 hf_X5_parse_26 dX5_parse_24 ?_
      refine r_iload_n C dX5_parse_27 hl rfl ?_
      refine r_aload_n C dX5_parse_28 hl rfl ?_
      refine r_get C hw clX5 0 rfl 7 7 rfl rfl (Nat.le_of_ble_eq_true rfl) hi_X5_parse_X5 hf_X5_parse_35 dX5_parse_29 ?_
      obtain ⟨h0, h1, hwp⟩ := hwp
      refine r_iast C hw 3 rfl rfl h0 h1 dX5_parse_32 (fun H locs hw => ?_)
      have hwp := hwp _ rfl
      refine r_aload_n C dX5_parse_33 hl rfl ?_
      refine r_getr C hw clX5 0 rfl 3 2 rfl (Nat.le_of_ble_eq_true rfl) hi_X5_parse_X5 hf_X5_parse_22 dX5_parse_34 ?_
      refine r_iload_n C dX5_parse_37 hl rfl ?_
      refine r_aload_n C dX5_parse_38 hl rfl ?_
      refine r_cIr0 hA hw (run_v0 C hw clX5 rfl (c_X5_next hwp) (cwV 0 C.2.2.2.2.1 gX5_parse_X5_next rfl rfl rfl hd_X5_next ⟨Nat.le_of_ble_eq_true rfl, Nat.le_of_ble_eq_true rfl⟩) rfl rfl rfl hl dX5_parse_39 ⟨Nat.zero_le _, Nat.zero_le _⟩) (fun r H locs hwp hw => ?_)
      obtain ⟨h0, h1, hwp⟩ := hwp
      refine r_iast C hw 2 rfl rfl h0 h1 dX5_parse_42 (fun H locs hw => ?_)
      have hwp := hwp _ rfl
      refine r_aload_n C dX5_parse_43 hl rfl ?_
      refine r_cI0 hA hw (run_v0 C hw clX5 rfl (c_X5_parseClause hwp) (cwV 0 C.2.2.2.2.1 gX5_parse_X5_parseClause rfl rfl rfl hd_X5_parseClause ⟨Nat.le_of_ble_eq_true rfl, Nat.le_of_ble_eq_true rfl⟩) rfl rfl rfl hl dX5_parse_44 ⟨Nat.zero_le _, Nat.zero_le _⟩) (fun r σ H locs hwp hw => ?_)
      obtain ⟨ra, hT, hF⟩ := hwp
      refine r_if_ne C (tgt := 55) dX5_parse_47 rfl ra (fun hc => ?_) (fun hc => ?_)
      · have hwp := hT hc
        refine r_aload_n C dX5_parse_55 hl rfl ?_
        refine r_iload_n C dX5_parse_56 hl rfl ?_
        refine r_const C dX5_parse_57 ?_
        refine r_iadd C dX5_parse_58 ?_
        refine r_put C hw clX5 0 rfl 5 5 rfl rfl (Nat.le_of_ble_eq_true rfl) hi_X5_parse_X5 hf_X5_parse_29 rfl ⟨nar_i _, fit_i _⟩ dX5_parse_59 (fun H locs hw => ?_)
        have hwp := hwp _ rfl
        refine r_aload_n C dX5_parse_62 hl rfl ?_
        refine r_getr C hw clX5 0 rfl 4 3 rfl (Nat.le_of_ble_eq_true rfl) hi_X5_parse_X5 hf_X5_parse_26 dX5_parse_63 ?_
        refine r_aload_n C dX5_parse_66 hl rfl ?_
        refine r_get C hw clX5 0 rfl 5 5 rfl rfl (Nat.le_of_ble_eq_true rfl) hi_X5_parse_X5 hf_X5_parse_29 dX5_parse_67 ?_
        refine r_aload_n C dX5_parse_70 hl rfl ?_
        refine r_get C hw clX5 0 rfl 7 7 rfl rfl (Nat.le_of_ble_eq_true rfl) hi_X5_parse_X5 hf_X5_parse_35 dX5_parse_71 ?_
        obtain ⟨h0, h1, hwp⟩ := hwp
        refine r_iast C hw 3 rfl rfl h0 h1 dX5_parse_74 (fun H locs hw => ?_)
        have hwp := hwp _ rfl
        refine r_aload_n C dX5_parse_75 hl rfl ?_
        refine r_cIr0 hA hw (run_v0 C hw clX5 rfl (c_X5_next hwp) (cwV 0 C.2.2.2.2.1 gX5_parse_X5_next rfl rfl rfl hd_X5_next ⟨Nat.le_of_ble_eq_true rfl, Nat.le_of_ble_eq_true rfl⟩) rfl rfl rfl hl dX5_parse_76 ⟨Nat.zero_le _, Nat.zero_le _⟩) (fun r H locs hwp hw => ?_)
        refine r_const C dX5_parse_79 ?_
        obtain ⟨ra, hT, hF⟩ := hwp
        refine r_icmp_ne C (tgt := 86) dX5_parse_80 rfl ra (by decide) (fun hc => ?_) (fun hc => ?_)
        · have hwp := hT hc
          refine r_aload_n C dX5_parse_86 hl rfl ?_
          refine r_cIr0 hA hw (run_v0 C hw clX5 rfl (c_X5_next hwp) (cwV 0 C.2.2.2.2.1 gX5_parse_X5_next rfl rfl rfl hd_X5_next ⟨Nat.le_of_ble_eq_true rfl, Nat.le_of_ble_eq_true rfl⟩) rfl rfl rfl hl dX5_parse_87 ⟨Nat.zero_le _, Nat.zero_le _⟩) (fun r H locs hwp hw => ?_)
          refine r_bipush C dX5_parse_90 bpb_59 ?_
          obtain ⟨ra, hT, hF⟩ := hwp
          refine r_icmp_ne C (tgt := 104) dX5_parse_92 rfl ra (by decide) (fun hc => ?_) (fun hc => ?_)
          · have hwp := hT hc
            exact b_X5_parse_104 C hA hR hwp hw (lh_mask hl [true, false])
          · have hwp := hF hc
            refine r_aload_n C dX5_parse_95 hl rfl ?_
            refine r_get C hw clX5 0 rfl 5 5 rfl rfl (Nat.le_of_ble_eq_true rfl) hi_X5_parse_X5 hf_X5_parse_29 dX5_parse_96 ?_
            refine r_bipush C dX5_parse_99 bpb_10 ?_
            obtain ⟨ra, hT, hF⟩ := hwp
            refine r_icmp_ne C (tgt := 109) dX5_parse_101 rfl ra (by decide) (fun hc => ?_) (fun hc => ?_)
            · have hwp := hT hc
              refine r_aload_n C dX5_parse_109 hl rfl ?_
              refine r_dup C dX5_parse_110 rfl ?_
              refine r_get C hw clX5 0 rfl 2 2 rfl rfl (Nat.le_of_ble_eq_true rfl) hi_X5_parse_X5 hf_X5_parse_19 dX5_parse_111 ?_
              refine r_const C dX5_parse_114 ?_
              refine r_iadd C dX5_parse_115 ?_
              refine r_put C hw clX5 0 rfl 2 2 rfl rfl (Nat.le_of_ble_eq_true rfl) hi_X5_parse_X5 hf_X5_parse_19 rfl ⟨nar_i _, fit_i _⟩ dX5_parse_116 (fun H locs hw => ?_)
              have hwp := hwp _ rfl
              refine r_iinc C dX5_parse_119 hl rfl (Nat.le_of_ble_eq_true rfl) rfl (fun ls hl => ?_)
              refine r_goto C (tgt := 17) dX5_parse_122 rfl ?_
              exact ih hwp hw (lh_mask hl [true, true])
            · have hwp := hF hc
              exact b_X5_parse_104 C hA hR hwp hw (lh_mask hl [true, false])
        · have hwp := hF hc
          refine r_bipush C dX5_parse_83 bpb_m5 ?_
          exact hR _ _ _ _ _ _ dX5_parse_85 trivial hwp hw
      · have hwp := hF hc
        refine r_aload_n C dX5_parse_50 hl rfl ?_
        refine r_get C hw clX5 0 rfl 2 2 rfl rfl (Nat.le_of_ble_eq_true rfl) hi_X5_parse_X5 hf_X5_parse_19 dX5_parse_51 ?_
        exact hR _ _ _ _ _ _ dX5_parse_54 trivial hwp hw
set_option maxRecDepth 100000 in
theorem b_X5_parse_0 {post : Int → St → Prop} (C : cx p s m args meth c wsX5_parse RX5 cX5_parse 2 (some .int) D cA) (hA : ∀ q, s.heap.size ≤ q → A q) (hR : RtI p l e rm_X5_parse s m args below meth c Q cX5_parse D cA K_Text h A (fun _ => True) post) : ∀ {σ : St} {H : Heap} {locs : List Loc} {ls : Array Slot}, wp_X5_parse σ post → wd D cA K_Text h σ A s.heap H locs → lh ls 2 [some (.ref (h 0)), none] → W p l e rm_X5_parse s m args below meth c H locs 0 0 Q (F0 m 0 ls []) := by
  intro σ H locs ls hwp hw hl
  refine r_aload_n C dX5_parse_0 hl rfl ?_
  refine r_const C dX5_parse_1 ?_
  refine r_put C hw clX5 0 rfl 2 2 rfl rfl (Nat.le_of_ble_eq_true rfl) hi_X5_parse_X5 hf_X5_parse_19 rfl ⟨nar_i _, fit_i _⟩ dX5_parse_2 (fun H locs hw => ?_)
  have hwp := hwp _ rfl
  refine r_aload_n C dX5_parse_5 hl rfl ?_
  refine r_const C dX5_parse_6 ?_
  refine r_put C hw clX5 0 rfl 5 5 rfl rfl (Nat.le_of_ble_eq_true rfl) hi_X5_parse_X5 hf_X5_parse_29 rfl ⟨nar_i _, fit_i _⟩ dX5_parse_7 (fun H locs hw => ?_)
  have hwp := hwp _ rfl
  refine r_aload_n C dX5_parse_10 hl rfl ?_
  refine r_const C dX5_parse_11 ?_
  refine r_put C hw clX5 0 rfl 7 7 rfl rfl (Nat.le_of_ble_eq_true rfl) hi_X5_parse_X5 hf_X5_parse_35 rfl ⟨nar_i _, fit_i _⟩ dX5_parse_12 (fun H locs hw => ?_)
  have hwp := hwp _ rfl
  refine r_const C dX5_parse_15 ?_
  refine r_istore_n C dX5_parse_16 hl (Nat.le_of_ble_eq_true rfl) (Nat.le_of_ble_eq_true rfl) rfl (fun ls hl => ?_)
  obtain ⟨n9, hwp⟩ := hwp
  exact b_X5_parse_17 C hA hR n9 hwp hw (lh_mask hl [true, true])
set_option maxRecDepth 100000 in
theorem c_X5_parse {l : Launch} {D : va_G} {cA : FieldType → ClassId} {h : Nat → Nat} {σ : St} {sz : Nat} {post : Int → St → Prop} (hwp : wp_X5_parse σ post) : Met l yX5_parse wsX5_parse rm_X5_parse (va_Pc [.ref (h 0)] (preS D cA K_Text h σ sz)) (QI D cA K_Text h sz post) 0 0 (aA K_Text.length h sz) := by
  refine mk_met (cc := cX5_parse) (nL := 2) (ret := (some .int)) (own := RX5) 1 (by decide) rfl rfl rfl rfl ?_
  intro p e s m args below meth c ls hsz C hw hl hA
  subst hsz
  exact b_X5_parse_0 C hA (rt_i C _) hwp hw hl
-- X5_beginBells
def rm_X5_beginBells : Room := { frames := 1, cells := 0, slots := 0, locals := 22 }
set_option maxRecDepth 100000 in
theorem b_X5_beginBells_0 {post : Int → St → Prop} (C : cx p s m args meth c wsX5_beginBells RX5 cX5_beginBells 2 (some .boolean) D cA) (hA : ∀ q, s.heap.size ≤ q → A q) (hR : RtI p l e rm_X5_beginBells s m args below meth c Q cX5_beginBells D cA K_Setup h A (fun x => x = 0 ∨ x = 1) post) : ∀ {v1 : Int} {σ : St} {H : Heap} {locs : List Loc} {ls : Array Slot}, wp_X5_beginBells σ v1 post → wd D cA K_Setup h σ A s.heap H locs → lh ls 2 [some (.ref (h 0)), some (iv v1)] → W p l e rm_X5_beginBells s m args below meth c H locs 0 0 Q (F0 m 0 ls []) := by
  intro v1 σ H locs ls hwp hw hl
  refine r_iload_n C dX5_beginBells_0 hl rfl ?_
  refine r_const C dX5_beginBells_1 ?_
  obtain ⟨ra, hT, hF⟩ := hwp
  refine r_icmp_lt C (tgt := 11) dX5_beginBells_2 rfl ra (by decide) (fun hc => ?_) (fun hc => ?_)
  · have hwp := hT hc
    refine r_const C dX5_beginBells_11 ?_
    exact hR _ _ _ _ _ _ dX5_beginBells_12 (Or.inl rfl) hwp hw
  · have hwp := hF hc
    refine r_iload_n C dX5_beginBells_5 hl rfl ?_
    refine r_bipush C dX5_beginBells_6 bpb_8 ?_
    obtain ⟨ra, hT, hF⟩ := hwp
    refine r_icmp_le C (tgt := 13) dX5_beginBells_8 rfl ra (by decide) (fun hc => ?_) (fun hc => ?_)
    · have hwp := hT hc
      refine r_aload_n C dX5_beginBells_13 hl rfl ?_
      refine r_iload_n C dX5_beginBells_14 hl rfl ?_
      refine r_cV0 hA hw (run_v0 C hw clX4 rfl (c_X4_begin hwp) (cwV 1 C.2.2.2.2.1 gX5_beginBells_X4_begin rfl rfl rfl hd_X4_begin ⟨Nat.le_of_ble_eq_true rfl, Nat.le_of_ble_eq_true rfl⟩) rfl rfl rfl hl dX5_beginBells_15 ⟨Nat.zero_le _, Nat.zero_le _⟩) (fun σ H locs hwp hw => ?_)
      refine r_const C dX5_beginBells_18 ?_
      exact hR _ _ _ _ _ _ dX5_beginBells_19 (Or.inr rfl) hwp hw
    · have hwp := hF hc
      refine r_const C dX5_beginBells_11 ?_
      exact hR _ _ _ _ _ _ dX5_beginBells_12 (Or.inl rfl) hwp hw
set_option maxRecDepth 100000 in
theorem c_X5_beginBells {l : Launch} {D : va_G} {cA : FieldType → ClassId} {h : Nat → Nat} {σ : St} {sz : Nat} {v1 : Int} {post : Int → St → Prop} (hwp : wp_X5_beginBells σ v1 post) : Met l yX5_beginBells wsX5_beginBells rm_X5_beginBells (va_Pc [.ref (h 0), iv v1] (preS D cA K_Setup h σ sz)) (QI D cA K_Setup h sz post) 0 0 (aA K_Setup.length h sz) := by
  refine mk_met (cc := cX5_beginBells) (nL := 2) (ret := (some .boolean)) (own := RX5) 0 (by decide) rfl rfl rfl rfl ?_
  intro p e s m args below meth c ls hsz C hw hl hA
  subst hsz
  exact b_X5_beginBells_0 C hA (rt_z C _) hwp hw hl
-- X5_setMethod
theorem hi_X5_setMethod_X4 : ∀ w ∈ u_ws RX4 TX4 11, w ∈ wsX5_setMethod := by decide +kernel
theorem hi_X5_setMethod_X5 : ∀ w ∈ u_ws RX5 TX5 8, w ∈ wsX5_setMethod := by decide +kernel
theorem hf_X5_setMethod_93 : Cond.fieldLink RX5 93 (TX4 0).1 (TX4 0).2.1 (TX4 0).2.2.1 ∈ wsX5_setMethod := by decide +kernel
theorem hf_X5_setMethod_105 : Cond.fieldLink RX5 105 (TX4 1).1 (TX4 1).2.1 (TX4 1).2.2.1 ∈ wsX5_setMethod := by decide +kernel
theorem hf_X5_setMethod_102 : Cond.fieldLink RX5 102 (TX4 2).1 (TX4 2).2.1 (TX4 2).2.2.1 ∈ wsX5_setMethod := by decide +kernel
theorem hf_X5_setMethod_32 : Cond.fieldLink RX5 32 (TX5 6).1 (TX5 6).2.1 (TX5 6).2.2.1 ∈ wsX5_setMethod := by decide +kernel
def rm_X5_setMethod : Room := { frames := 3, cells := 0, slots := 0, locals := 65 }
set_option maxRecDepth 100000 in
theorem b_X5_setMethod_42 {post : Int → St → Prop} (C : cx p s m args meth c wsX5_setMethod RX5 cX5_setMethod 5 (some .boolean) D cA) (hA : ∀ q, s.heap.size ≤ q → A q) (hR : RtI p l e rm_X5_setMethod s m args below meth c Q cX5_setMethod D cA K_TextS h A (fun x => x = 0 ∨ x = 1) post) : ∀ (n : Nat) {v3 v4 : Int} {σ : St} {H : Heap} {locs : List Loc} {ls : Array Slot}, wp_X5_setMethod_42 post n v3 v4 σ → wd D cA K_TextS h σ A s.heap H locs → lh ls 5 [some (.ref (h 0)), some (.ref (h 5)), none, some (iv v3), some (iv v4)] → W p l e rm_X5_setMethod s m args below meth c H locs 0 0 Q (F0 m 42 ls []) := by
  intro n; induction n with
  | zero => intros; rename_i hwp _ _; exact hwp.elim
  | succ n ih =>
    intro v3 v4 σ H locs ls hwp hw hl
    refine r_iload C dX5_setMethod_42 hl rfl ?_
    refine r_iload_n C dX5_setMethod_44 hl rfl ?_
    obtain ⟨ra, rb, hT, hF⟩ := hwp
    refine r_icmp_ge C (tgt := 89) dX5_setMethod_45 rfl ra rb (fun hc => ?_) (fun hc => ?_)
    · have hwp := hT hc
      refine r_const C dX5_setMethod_89 ?_
      exact hR _ _ _ _ _ _ dX5_setMethod_90 (Or.inr rfl) hwp hw
    · have hwp := hF hc
      refine r_aload_n C dX5_setMethod_48 hl rfl ?_
      refine r_get C hw clX4 5 rfl 2 2 rfl rfl (Nat.le_of_ble_eq_true rfl) hi_X5_setMethod_X4 hf_X5_setMethod_102 dX5_setMethod_49 ?_
      refine r_bipush C dX5_setMethod_52 bpb_16 ?_
      obtain ⟨ra, hT, hF⟩ := hwp
      refine r_icmp_ge C (tgt := 89) dX5_setMethod_54 rfl ra (by decide) (fun hc => ?_) (fun hc => ?_)
      · have hwp := hT hc
        refine r_const C dX5_setMethod_89 ?_
        exact hR _ _ _ _ _ _ dX5_setMethod_90 (Or.inr rfl) hwp hw
      · have hwp := hF hc
        refine r_aload_n C dX5_setMethod_57 hl rfl ?_
        refine r_getr C hw clX4 5 rfl 1 6 rfl (Nat.le_of_ble_eq_true rfl) hi_X5_setMethod_X4 hf_X5_setMethod_105 dX5_setMethod_58 ?_
        refine r_aload_n C dX5_setMethod_61 hl rfl ?_
        refine r_get C hw clX4 5 rfl 2 2 rfl rfl (Nat.le_of_ble_eq_true rfl) hi_X5_setMethod_X4 hf_X5_setMethod_102 dX5_setMethod_62 ?_
        refine r_aload_n C dX5_setMethod_65 hl rfl ?_
        refine r_getr C hw clX5 0 rfl 6 4 rfl (Nat.le_of_ble_eq_true rfl) hi_X5_setMethod_X5 hf_X5_setMethod_32 dX5_setMethod_66 ?_
        refine r_iload C dX5_setMethod_69 hl rfl ?_
        obtain ⟨h0, h1, hwp⟩ := hwp
        refine r_iald C hw 4 rfl rfl h0 h1 dX5_setMethod_71 ?_
        obtain ⟨h0, h1, hwp⟩ := hwp
        refine r_iast C hw 6 rfl rfl h0 h1 dX5_setMethod_72 (fun H locs hw => ?_)
        have hwp := hwp _ rfl
        refine r_aload_n C dX5_setMethod_73 hl rfl ?_
        refine r_dup C dX5_setMethod_74 rfl ?_
        refine r_get C hw clX4 5 rfl 2 2 rfl rfl (Nat.le_of_ble_eq_true rfl) hi_X5_setMethod_X4 hf_X5_setMethod_102 dX5_setMethod_75 ?_
        refine r_const C dX5_setMethod_78 ?_
        refine r_iadd C dX5_setMethod_79 ?_
        refine r_put C hw clX4 5 rfl 2 2 rfl rfl (Nat.le_of_ble_eq_true rfl) hi_X5_setMethod_X4 hf_X5_setMethod_102 rfl ⟨nar_i _, fit_i _⟩ dX5_setMethod_80 (fun H locs hw => ?_)
        have hwp := hwp _ rfl
        refine r_iinc C dX5_setMethod_83 hl rfl (Nat.le_of_ble_eq_true rfl) rfl (fun ls hl => ?_)
        refine r_goto C (tgt := 42) dX5_setMethod_86 rfl ?_
        exact ih hwp hw (lh_mask hl [true, true, false, true, true])
set_option maxRecDepth 100000 in
theorem b_X5_setMethod_3 {post : Int → St → Prop} (C : cx p s m args meth c wsX5_setMethod RX5 cX5_setMethod 5 (some .boolean) D cA) (hA : ∀ q, s.heap.size ≤ q → A q) (hR : RtI p l e rm_X5_setMethod s m args below meth c Q cX5_setMethod D cA K_TextS h A (fun x => x = 0 ∨ x = 1) post) : ∀ (n : Nat) {v2 v3 v4 : Int} {σ : St} {H : Heap} {locs : List Loc} {ls : Array Slot}, wp_X5_setMethod_3 post n v2 v3 v4 σ → wd D cA K_TextS h σ A s.heap H locs → lh ls 5 [some (.ref (h 0)), some (.ref (h 5)), some (iv v2), some (iv v3), some (iv v4)] → W p l e rm_X5_setMethod s m args below meth c H locs 0 0 Q (F0 m 3 ls []) := by
  intro n; induction n with
  | zero => intros; rename_i hwp _ _; exact hwp.elim
  | succ n ih =>
    intro v2 v3 v4 σ H locs ls hwp hw hl
    refine r_iload C dX5_setMethod_3 hl rfl ?_
    refine r_iload_n C dX5_setMethod_5 hl rfl ?_
    obtain ⟨ra, rb, hT, hF⟩ := hwp
    refine r_icmp_ge C (tgt := 34) dX5_setMethod_6 rfl ra rb (fun hc => ?_) (fun hc => ?_)
    · have hwp := hT hc
      refine r_aload_n C dX5_setMethod_34 hl rfl ?_
      refine r_const C dX5_setMethod_35 ?_
      refine r_put C hw clX4 5 rfl 2 2 rfl rfl (Nat.le_of_ble_eq_true rfl) hi_X5_setMethod_X4 hf_X5_setMethod_102 rfl ⟨nar_i _, fit_i _⟩ dX5_setMethod_36 (fun H locs hw => ?_)
      have hwp := hwp _ rfl
      refine r_iload_n C dX5_setMethod_39 hl rfl ?_
      refine r_istore C dX5_setMethod_40 hl (Nat.le_of_ble_eq_true rfl) (Nat.le_of_ble_eq_true rfl) rfl (fun ls hl => ?_)
      obtain ⟨n9, hwp⟩ := hwp
      exact b_X5_setMethod_42 C hA hR n9 hwp hw (lh_mask hl [true, true, false, true, true])
    · have hwp := hF hc
      refine r_aload_n C dX5_setMethod_9 hl rfl ?_
      refine r_get C hw clX4 5 rfl 0 0 rfl rfl (Nat.le_of_ble_eq_true rfl) hi_X5_setMethod_X4 hf_X5_setMethod_93 dX5_setMethod_10 ?_
      refine r_aload_n C dX5_setMethod_13 hl rfl ?_
      refine r_getr C hw clX5 0 rfl 6 4 rfl (Nat.le_of_ble_eq_true rfl) hi_X5_setMethod_X5 hf_X5_setMethod_32 dX5_setMethod_14 ?_
      refine r_iload C dX5_setMethod_17 hl rfl ?_
      obtain ⟨h0, h1, hwp⟩ := hwp
      refine r_iald C hw 4 rfl rfl h0 h1 dX5_setMethod_19 ?_
      refine r_cIr hA hw sb_TextS_0_0_18 (run_s C hw sb_TextS_0_0_18 (c_X2_isGood hwp) (va_cwS 2 C.2.2.2.2.1 gX5_setMethod_X2_isGood rfl rfl rfl hd_X2_isGood ⟨Nat.le_of_ble_eq_true rfl, Nat.le_of_ble_eq_true rfl⟩) rfl rfl rfl hl dX5_setMethod_20 ⟨Nat.zero_le _, Nat.zero_le _⟩) (fun r H locs hwp hw => ?_)
      obtain ⟨ra, hT, hF⟩ := hwp
      refine r_if_ne C (tgt := 28) dX5_setMethod_23 rfl ra (fun hc => ?_) (fun hc => ?_)
      · have hwp := hT hc
        refine r_iinc C dX5_setMethod_28 hl rfl (Nat.le_of_ble_eq_true rfl) rfl (fun ls hl => ?_)
        refine r_goto C (tgt := 3) dX5_setMethod_31 rfl ?_
        exact ih hwp hw (lh_mask hl [true, true, true, true, true])
      · have hwp := hF hc
        refine r_const C dX5_setMethod_26 ?_
        exact hR _ _ _ _ _ _ dX5_setMethod_27 (Or.inl rfl) hwp hw
set_option maxRecDepth 100000 in
theorem b_X5_setMethod_0 {post : Int → St → Prop} (C : cx p s m args meth c wsX5_setMethod RX5 cX5_setMethod 5 (some .boolean) D cA) (hA : ∀ q, s.heap.size ≤ q → A q) (hR : RtI p l e rm_X5_setMethod s m args below meth c Q cX5_setMethod D cA K_TextS h A (fun x => x = 0 ∨ x = 1) post) : ∀ {v2 v3 : Int} {σ : St} {H : Heap} {locs : List Loc} {ls : Array Slot}, wp_X5_setMethod σ v2 v3 post → wd D cA K_TextS h σ A s.heap H locs → lh ls 5 [some (.ref (h 0)), some (.ref (h 5)), some (iv v2), some (iv v3), none] → W p l e rm_X5_setMethod s m args below meth c H locs 0 0 Q (F0 m 0 ls []) := by
  intro v2 v3 σ H locs ls hwp hw hl
  refine r_iload_n C dX5_setMethod_0 hl rfl ?_
  refine r_istore C dX5_setMethod_1 hl (Nat.le_of_ble_eq_true rfl) (Nat.le_of_ble_eq_true rfl) rfl (fun ls hl => ?_)
  obtain ⟨n9, hwp⟩ := hwp
  exact b_X5_setMethod_3 C hA hR n9 hwp hw (lh_mask hl [true, true, true, true, true])
set_option maxRecDepth 100000 in
theorem c_X5_setMethod {l : Launch} {D : va_G} {cA : FieldType → ClassId} {h : Nat → Nat} {σ : St} {sz : Nat} {v2 v3 : Int} {post : Int → St → Prop} (hwp : wp_X5_setMethod σ v2 v3 post) : Met l yX5_setMethod wsX5_setMethod rm_X5_setMethod (va_Pc [.ref (h 0), .ref (h 5), iv v2, iv v3] (preS D cA K_TextS h σ sz)) (QI D cA K_TextS h sz post) 0 0 (aA K_TextS.length h sz) := by
  refine mk_met (cc := cX5_setMethod) (nL := 5) (ret := (some .boolean)) (own := RX5) 1 (by decide) rfl rfl rfl rfl ?_
  intro p e s m args below meth c ls hsz C hw hl hA
  subst hsz
  exact b_X5_setMethod_0 C hA (rt_z C _) hwp hw hl
-- X5_setCall
theorem hi_X5_setCall_X4 : ∀ w ∈ u_ws RX4 TX4 11, w ∈ wsX5_setCall := by decide +kernel
theorem hf_X5_setCall_93 : Cond.fieldLink RX5 93 (TX4 0).1 (TX4 0).2.1 (TX4 0).2.2.1 ∈ wsX5_setCall := by decide +kernel
def rm_X5_setCall : Room := { frames := 3, cells := 0, slots := 0, locals := 65 }
set_option maxRecDepth 100000 in
theorem b_X5_setCall_0 {post : Int → St → Prop} (C : cx p s m args meth c wsX5_setCall RX5 cX5_setCall 3 (some .boolean) D cA) (hA : ∀ q, s.heap.size ≤ q → A q) (hR : RtI p l e rm_X5_setCall s m args below meth c Q cX5_setCall D cA K_Setup h A (fun x => x = 0 ∨ x = 1) post) : ∀ {v1 v2 : Int} {σ : St} {H : Heap} {locs : List Loc} {ls : Array Slot}, wp_X5_setCall σ v1 v2 post → wd D cA K_Setup h σ A s.heap H locs → lh ls 3 [some (.ref (h 0)), some (iv v1), some (iv v2)] → W p l e rm_X5_setCall s m args below meth c H locs 0 0 Q (F0 m 0 ls []) := by
  intro v1 v2 σ H locs ls hwp hw hl
  refine r_aload_n C dX5_setCall_0 hl rfl ?_
  refine r_get C hw clX4 0 rfl 0 0 rfl rfl (Nat.le_of_ble_eq_true rfl) hi_X5_setCall_X4 hf_X5_setCall_93 dX5_setCall_1 ?_
  refine r_iload_n C dX5_setCall_4 hl rfl ?_
  refine r_cIr hA hw sb_Setup_0_0_6 (run_s C hw sb_Setup_0_0_6 (c_X2_isGood hwp) (va_cwS 2 C.2.2.2.2.1 gX5_setCall_X2_isGood rfl rfl rfl hd_X2_isGood ⟨Nat.le_of_ble_eq_true rfl, Nat.le_of_ble_eq_true rfl⟩) rfl rfl rfl hl dX5_setCall_5 ⟨Nat.zero_le _, Nat.zero_le _⟩) (fun r H locs hwp hw => ?_)
  obtain ⟨ra, hT, hF⟩ := hwp
  refine r_if_ne C (tgt := 13) dX5_setCall_8 rfl ra (fun hc => ?_) (fun hc => ?_)
  · have hwp := hT hc
    refine r_aload_n C dX5_setCall_13 hl rfl ?_
    refine r_iload_n C dX5_setCall_14 hl rfl ?_
    refine r_iload_n C dX5_setCall_15 hl rfl ?_
    refine r_cV0 hA hw (run_v0 C hw clX4 rfl (c_X4_setCalledChange hwp) (cwV 2 C.2.2.2.2.1 gX5_setCall_X4_setCalledChange rfl rfl rfl hd_X4_setCalledChange ⟨Nat.le_of_ble_eq_true rfl, Nat.le_of_ble_eq_true rfl⟩) rfl rfl rfl hl dX5_setCall_16 ⟨Nat.zero_le _, Nat.zero_le _⟩) (fun σ H locs hwp hw => ?_)
    refine r_const C dX5_setCall_19 ?_
    exact hR _ _ _ _ _ _ dX5_setCall_20 (Or.inr rfl) hwp hw
  · have hwp := hF hc
    refine r_const C dX5_setCall_11 ?_
    exact hR _ _ _ _ _ _ dX5_setCall_12 (Or.inl rfl) hwp hw
set_option maxRecDepth 100000 in
theorem c_X5_setCall {l : Launch} {D : va_G} {cA : FieldType → ClassId} {h : Nat → Nat} {σ : St} {sz : Nat} {v1 v2 : Int} {post : Int → St → Prop} (hwp : wp_X5_setCall σ v1 v2 post) : Met l yX5_setCall wsX5_setCall rm_X5_setCall (va_Pc [.ref (h 0), iv v1, iv v2] (preS D cA K_Setup h σ sz)) (QI D cA K_Setup h sz post) 0 0 (aA K_Setup.length h sz) := by
  refine mk_met (cc := cX5_setCall) (nL := 3) (ret := (some .boolean)) (own := RX5) 0 (by decide) rfl rfl rfl rfl ?_
  intro p e s m args below meth c ls hsz C hw hl hA
  subst hsz
  exact b_X5_setCall_0 C hA (rt_z C _) hwp hw hl
-- X5_setLeads
theorem hi_X5_setLeads_X4 : ∀ w ∈ u_ws RX4 TX4 11, w ∈ wsX5_setLeads := by decide +kernel
theorem hi_X5_setLeads_X5 : ∀ w ∈ u_ws RX5 TX5 8, w ∈ wsX5_setLeads := by decide +kernel
theorem hf_X5_setLeads_115 : Cond.fieldLink RX5 115 (TX4 5).1 (TX4 5).2.1 (TX4 5).2.2.1 ∈ wsX5_setLeads := by decide +kernel
theorem hf_X5_setLeads_112 : Cond.fieldLink RX5 112 (TX4 6).1 (TX4 6).2.1 (TX4 6).2.2.1 ∈ wsX5_setLeads := by decide +kernel
theorem hf_X5_setLeads_32 : Cond.fieldLink RX5 32 (TX5 6).1 (TX5 6).2.1 (TX5 6).2.2.1 ∈ wsX5_setLeads := by decide +kernel
def rm_X5_setLeads : Room := { frames := 0, cells := 0, slots := 0, locals := 0 }
set_option maxRecDepth 100000 in
theorem b_X5_setLeads_8 {post : Int → St → Prop} (C : cx p s m args meth c wsX5_setLeads RX5 cX5_setLeads 5 (some .boolean) D cA) (hA : ∀ q, s.heap.size ≤ q → A q) (hR : RtI p l e rm_X5_setLeads s m args below meth c Q cX5_setLeads D cA K_TextS h A (fun x => x = 0 ∨ x = 1) post) : ∀ (n : Nat) {v3 v4 : Int} {σ : St} {H : Heap} {locs : List Loc} {ls : Array Slot}, wp_X5_setLeads_8 post n v3 v4 σ → wd D cA K_TextS h σ A s.heap H locs → lh ls 5 [some (.ref (h 0)), some (.ref (h 5)), none, some (iv v3), some (iv v4)] → W p l e rm_X5_setLeads s m args below meth c H locs 0 0 Q (F0 m 8 ls []) := by
  intro n; induction n with
  | zero => intros; rename_i hwp _ _; exact hwp.elim
  | succ n ih =>
    intro v3 v4 σ H locs ls hwp hw hl
    refine r_iload C dX5_setLeads_8 hl rfl ?_
    refine r_iload_n C dX5_setLeads_10 hl rfl ?_
    obtain ⟨ra, rb, hT, hF⟩ := hwp
    refine r_icmp_ge C (tgt := 55) dX5_setLeads_11 rfl ra rb (fun hc => ?_) (fun hc => ?_)
    · have hwp := hT hc
      refine r_const C dX5_setLeads_55 ?_
      exact hR _ _ _ _ _ _ dX5_setLeads_56 (Or.inr rfl) hwp hw
    · have hwp := hF hc
      refine r_aload_n C dX5_setLeads_14 hl rfl ?_
      refine r_get C hw clX4 5 rfl 6 6 rfl rfl (Nat.le_of_ble_eq_true rfl) hi_X5_setLeads_X4 hf_X5_setLeads_112 dX5_setLeads_15 ?_
      refine r_bipush C dX5_setLeads_18 bpb_12 ?_
      obtain ⟨ra, hT, hF⟩ := hwp
      refine r_icmp_ge C (tgt := 55) dX5_setLeads_20 rfl ra (by decide) (fun hc => ?_) (fun hc => ?_)
      · have hwp := hT hc
        refine r_const C dX5_setLeads_55 ?_
        exact hR _ _ _ _ _ _ dX5_setLeads_56 (Or.inr rfl) hwp hw
      · have hwp := hF hc
        refine r_aload_n C dX5_setLeads_23 hl rfl ?_
        refine r_getr C hw clX4 5 rfl 5 7 rfl (Nat.le_of_ble_eq_true rfl) hi_X5_setLeads_X4 hf_X5_setLeads_115 dX5_setLeads_24 ?_
        refine r_aload_n C dX5_setLeads_27 hl rfl ?_
        refine r_get C hw clX4 5 rfl 6 6 rfl rfl (Nat.le_of_ble_eq_true rfl) hi_X5_setLeads_X4 hf_X5_setLeads_112 dX5_setLeads_28 ?_
        refine r_aload_n C dX5_setLeads_31 hl rfl ?_
        refine r_getr C hw clX5 0 rfl 6 4 rfl (Nat.le_of_ble_eq_true rfl) hi_X5_setLeads_X5 hf_X5_setLeads_32 dX5_setLeads_32 ?_
        refine r_iload C dX5_setLeads_35 hl rfl ?_
        obtain ⟨h0, h1, hwp⟩ := hwp
        refine r_iald C hw 4 rfl rfl h0 h1 dX5_setLeads_37 ?_
        obtain ⟨h0, h1, hwp⟩ := hwp
        refine r_iast C hw 7 rfl rfl h0 h1 dX5_setLeads_38 (fun H locs hw => ?_)
        have hwp := hwp _ rfl
        refine r_aload_n C dX5_setLeads_39 hl rfl ?_
        refine r_dup C dX5_setLeads_40 rfl ?_
        refine r_get C hw clX4 5 rfl 6 6 rfl rfl (Nat.le_of_ble_eq_true rfl) hi_X5_setLeads_X4 hf_X5_setLeads_112 dX5_setLeads_41 ?_
        refine r_const C dX5_setLeads_44 ?_
        refine r_iadd C dX5_setLeads_45 ?_
        refine r_put C hw clX4 5 rfl 6 6 rfl rfl (Nat.le_of_ble_eq_true rfl) hi_X5_setLeads_X4 hf_X5_setLeads_112 rfl ⟨nar_i _, fit_i _⟩ dX5_setLeads_46 (fun H locs hw => ?_)
        have hwp := hwp _ rfl
        refine r_iinc C dX5_setLeads_49 hl rfl (Nat.le_of_ble_eq_true rfl) rfl (fun ls hl => ?_)
        refine r_goto C (tgt := 8) dX5_setLeads_52 rfl ?_
        exact ih hwp hw (lh_mask hl [true, true, false, true, true])
set_option maxRecDepth 100000 in
theorem b_X5_setLeads_0 {post : Int → St → Prop} (C : cx p s m args meth c wsX5_setLeads RX5 cX5_setLeads 5 (some .boolean) D cA) (hA : ∀ q, s.heap.size ≤ q → A q) (hR : RtI p l e rm_X5_setLeads s m args below meth c Q cX5_setLeads D cA K_TextS h A (fun x => x = 0 ∨ x = 1) post) : ∀ {v2 v3 : Int} {σ : St} {H : Heap} {locs : List Loc} {ls : Array Slot}, wp_X5_setLeads σ v2 v3 post → wd D cA K_TextS h σ A s.heap H locs → lh ls 5 [some (.ref (h 0)), some (.ref (h 5)), some (iv v2), some (iv v3), none] → W p l e rm_X5_setLeads s m args below meth c H locs 0 0 Q (F0 m 0 ls []) := by
  intro v2 v3 σ H locs ls hwp hw hl
  refine r_aload_n C dX5_setLeads_0 hl rfl ?_
  refine r_const C dX5_setLeads_1 ?_
  refine r_put C hw clX4 5 rfl 6 6 rfl rfl (Nat.le_of_ble_eq_true rfl) hi_X5_setLeads_X4 hf_X5_setLeads_112 rfl ⟨nar_i _, fit_i _⟩ dX5_setLeads_2 (fun H locs hw => ?_)
  have hwp := hwp _ rfl
  refine r_iload_n C dX5_setLeads_5 hl rfl ?_
  refine r_istore C dX5_setLeads_6 hl (Nat.le_of_ble_eq_true rfl) (Nat.le_of_ble_eq_true rfl) rfl (fun ls hl => ?_)
  obtain ⟨n9, hwp⟩ := hwp
  exact b_X5_setLeads_8 C hA hR n9 hwp hw (lh_mask hl [true, true, false, true, true])
set_option maxRecDepth 100000 in
theorem c_X5_setLeads {l : Launch} {D : va_G} {cA : FieldType → ClassId} {h : Nat → Nat} {σ : St} {sz : Nat} {v2 v3 : Int} {post : Int → St → Prop} (hwp : wp_X5_setLeads σ v2 v3 post) : Met l yX5_setLeads wsX5_setLeads rm_X5_setLeads (va_Pc [.ref (h 0), .ref (h 5), iv v2, iv v3] (preS D cA K_TextS h σ sz)) (QI D cA K_TextS h sz post) 0 0 (aA K_TextS.length h sz) := by
  refine mk_met (cc := cX5_setLeads) (nL := 5) (ret := (some .boolean)) (own := RX5) 1 (by decide) rfl rfl rfl rfl ?_
  intro p e s m args below meth c ls hsz C hw hl hA
  subst hsz
  exact b_X5_setLeads_0 C hA (rt_z C _) hwp hw hl
-- X5_performClause
theorem hi_X5_performClause_X5 : ∀ w ∈ u_ws RX5 TX5 8, w ∈ wsX5_performClause := by decide +kernel
theorem hf_X5_performClause_32 : Cond.fieldLink RX5 32 (TX5 6).1 (TX5 6).2.1 (TX5 6).2.2.1 ∈ wsX5_performClause := by decide +kernel
def rm_X5_performClause : Room := { frames := 4, cells := 0, slots := 0, locals := 89 }
set_option maxRecDepth 100000 in
theorem b_X5_performClause_0 {post : Int → St → Prop} (C : cx p s m args meth c wsX5_performClause RX5 cX5_performClause 5 (some .boolean) D cA) (hA : ∀ q, s.heap.size ≤ q → A q) (hR : RtI p l e rm_X5_performClause s m args below meth c Q cX5_performClause D cA K_TextS h A (fun x => x = 0 ∨ x = 1) post) : ∀ {v2 v3 v4 : Int} {σ : St} {H : Heap} {locs : List Loc} {ls : Array Slot}, wp_X5_performClause σ v2 v3 v4 post → wd D cA K_TextS h σ A s.heap H locs → lh ls 5 [some (.ref (h 0)), some (.ref (h 5)), some (iv v2), some (iv v3), some (iv v4)] → W p l e rm_X5_performClause s m args below meth c H locs 0 0 Q (F0 m 0 ls []) := by
  intro v2 v3 v4 σ H locs ls hwp hw hl
  refine r_iload_n C dX5_performClause_0 hl rfl ?_
  obtain ⟨ra, hS0, hS1, hS2, hS3, hD⟩ := hwp
  rcases lk_98_109_110_115 ra with hc | hc | hc | hc | hc
  · have hwp := hS0 hc
    refine r_look C (tgt := 64) dX5_performClause_1 ra rfl (by rw [hc] <;> rfl) rfl ?_
    refine r_aload_n C dX5_performClause_64 hl rfl ?_
    refine r_const C dX5_performClause_65 ?_
    refine r_aload_n C dX5_performClause_66 hl rfl ?_
    refine r_getr C hw clX5 0 rfl 6 4 rfl (Nat.le_of_ble_eq_true rfl) hi_X5_performClause_X5 hf_X5_performClause_32 dX5_performClause_67 ?_
    refine r_iload_n C dX5_performClause_70 hl rfl ?_
    obtain ⟨h0, h1, hwp⟩ := hwp
    refine r_iald C hw 4 rfl rfl h0 h1 dX5_performClause_71 ?_
    refine r_cI hA hw sb_TextS_Setup_5_19 (run_s C hw sb_TextS_Setup_5_19 (c_X5_setCall hwp) (va_cwS 3 C.2.2.2.2.1 gX5_performClause_X5_setCall rfl rfl rfl hd_X5_setCall ⟨Nat.le_of_ble_eq_true rfl, Nat.le_of_ble_eq_true rfl⟩) rfl rfl rfl hl dX5_performClause_72 ⟨Nat.zero_le _, Nat.zero_le _⟩) (fun r σ H locs hwp hw => ?_)
    have hwp := hwp _ rfl
    obtain ⟨hz, hwp⟩ := hwp
    exact hR _ _ _ _ _ _ dX5_performClause_75 hz hwp hw
  · have hwp := hS1 hc
    refine r_look C (tgt := 55) dX5_performClause_1 ra rfl (by rw [hc] <;> rfl) rfl ?_
    refine r_aload_n C dX5_performClause_55 hl rfl ?_
    refine r_aload_n C dX5_performClause_56 hl rfl ?_
    refine r_iload_n C dX5_performClause_57 hl rfl ?_
    refine r_iload C dX5_performClause_58 hl rfl ?_
    refine r_cI0 hA hw (run_v0 C hw clX5 rfl (c_X5_setMethod hwp) (cwV 3 C.2.2.2.2.1 gX5_performClause_X5_setMethod rfl rfl rfl hd_X5_setMethod ⟨Nat.le_of_ble_eq_true rfl, Nat.le_of_ble_eq_true rfl⟩) rfl rfl rfl hl dX5_performClause_60 ⟨Nat.zero_le _, Nat.zero_le _⟩) (fun r σ H locs hwp hw => ?_)
    obtain ⟨hz, hwp⟩ := hwp
    exact hR _ _ _ _ _ _ dX5_performClause_63 hz hwp hw
  · have hwp := hS2 hc
    refine r_look C (tgt := 44) dX5_performClause_1 ra rfl (by rw [hc] <;> rfl) rfl ?_
    refine r_aload_n C dX5_performClause_44 hl rfl ?_
    refine r_aload_n C dX5_performClause_45 hl rfl ?_
    refine r_getr C hw clX5 0 rfl 6 4 rfl (Nat.le_of_ble_eq_true rfl) hi_X5_performClause_X5 hf_X5_performClause_32 dX5_performClause_46 ?_
    refine r_iload_n C dX5_performClause_49 hl rfl ?_
    obtain ⟨h0, h1, hwp⟩ := hwp
    refine r_iald C hw 4 rfl rfl h0 h1 dX5_performClause_50 ?_
    refine r_cI hA hw sb_TextS_Setup_5_19 (run_s C hw sb_TextS_Setup_5_19 (c_X5_beginBells hwp) (va_cwS 2 C.2.2.2.2.1 gX5_performClause_X5_beginBells rfl rfl rfl hd_X5_beginBells ⟨Nat.le_of_ble_eq_true rfl, Nat.le_of_ble_eq_true rfl⟩) rfl rfl rfl hl dX5_performClause_51 ⟨Nat.zero_le _, Nat.zero_le _⟩) (fun r σ H locs hwp hw => ?_)
    have hwp := hwp _ rfl
    obtain ⟨hz, hwp⟩ := hwp
    exact hR _ _ _ _ _ _ dX5_performClause_54 hz hwp hw
  · have hwp := hS3 hc
    refine r_look C (tgt := 76) dX5_performClause_1 ra rfl (by rw [hc] <;> rfl) rfl ?_
    refine r_aload_n C dX5_performClause_76 hl rfl ?_
    refine r_const C dX5_performClause_77 ?_
    refine r_aload_n C dX5_performClause_78 hl rfl ?_
    refine r_getr C hw clX5 0 rfl 6 4 rfl (Nat.le_of_ble_eq_true rfl) hi_X5_performClause_X5 hf_X5_performClause_32 dX5_performClause_79 ?_
    refine r_iload_n C dX5_performClause_82 hl rfl ?_
    obtain ⟨h0, h1, hwp⟩ := hwp
    refine r_iald C hw 4 rfl rfl h0 h1 dX5_performClause_83 ?_
    refine r_cI hA hw sb_TextS_Setup_5_19 (run_s C hw sb_TextS_Setup_5_19 (c_X5_setCall hwp) (va_cwS 3 C.2.2.2.2.1 gX5_performClause_X5_setCall rfl rfl rfl hd_X5_setCall ⟨Nat.le_of_ble_eq_true rfl, Nat.le_of_ble_eq_true rfl⟩) rfl rfl rfl hl dX5_performClause_84 ⟨Nat.zero_le _, Nat.zero_le _⟩) (fun r σ H locs hwp hw => ?_)
    have hwp := hwp _ rfl
    obtain ⟨hz, hwp⟩ := hwp
    exact hR _ _ _ _ _ _ dX5_performClause_87 hz hwp hw
  · have hwp := hD hc
    refine r_look C (tgt := 88) dX5_performClause_1 ra rfl (lo_98_109_110_115 hc) rfl ?_
    refine r_aload_n C dX5_performClause_88 hl rfl ?_
    refine r_aload_n C dX5_performClause_89 hl rfl ?_
    refine r_iload_n C dX5_performClause_90 hl rfl ?_
    refine r_iload C dX5_performClause_91 hl rfl ?_
    refine r_cI0 hA hw (run_v0 C hw clX5 rfl (c_X5_setLeads hwp) (cwV 3 C.2.2.2.2.1 gX5_performClause_X5_setLeads rfl rfl rfl hd_X5_setLeads ⟨Nat.le_of_ble_eq_true rfl, Nat.le_of_ble_eq_true rfl⟩) rfl rfl rfl hl dX5_performClause_93 ⟨Nat.zero_le _, Nat.zero_le _⟩) (fun r σ H locs hwp hw => ?_)
    obtain ⟨hz, hwp⟩ := hwp
    exact hR _ _ _ _ _ _ dX5_performClause_96 hz hwp hw
set_option maxRecDepth 100000 in
theorem c_X5_performClause {l : Launch} {D : va_G} {cA : FieldType → ClassId} {h : Nat → Nat} {σ : St} {sz : Nat} {v2 v3 v4 : Int} {post : Int → St → Prop} (hwp : wp_X5_performClause σ v2 v3 v4 post) : Met l yX5_performClause wsX5_performClause rm_X5_performClause (va_Pc [.ref (h 0), .ref (h 5), iv v2, iv v3, iv v4] (preS D cA K_TextS h σ sz)) (QI D cA K_TextS h sz post) 0 0 (aA K_TextS.length h sz) := by
  refine mk_met (cc := cX5_performClause) (nL := 5) (ret := (some .boolean)) (own := RX5) 0 (by decide) rfl rfl rfl rfl ?_
  intro p e s m args below meth c ls hsz C hw hl hA
  subst hsz
  exact b_X5_performClause_0 C hA (rt_z C _) hwp hw hl
-- X5_perform
theorem hi_X5_perform_X5 : ∀ w ∈ u_ws RX5 TX5 8, w ∈ wsX5_perform := by decide +kernel
theorem hf_X5_perform_22 : Cond.fieldLink RX5 22 (TX5 3).1 (TX5 3).2.1 (TX5 3).2.2.1 ∈ wsX5_perform := by decide +kernel
theorem hf_X5_perform_26 : Cond.fieldLink RX5 26 (TX5 4).1 (TX5 4).2.1 (TX5 4).2.2.1 ∈ wsX5_perform := by decide +kernel
theorem hf_X5_perform_29 : Cond.fieldLink RX5 29 (TX5 5).1 (TX5 5).2.1 (TX5 5).2.2.1 ∈ wsX5_perform := by decide +kernel
def rm_X5_perform : Room := { frames := 5, cells := 0, slots := 0, locals := 113 }
set_option maxRecDepth 100000 in
theorem b_X5_perform_43 {post : Int → St → Prop} (C : cx p s m args meth c wsX5_perform RX5 cX5_perform 4 (some .int) D cA) (hA : ∀ q, s.heap.size ≤ q → A q) (hR : RtI p l e rm_X5_perform s m args below meth c Q cX5_perform D cA K_TextS h A (fun _ => True) post) {k4 : Int → Int → St → Prop} (hk4 : ∀ {v2 v3 : Int} {σ : St} {H : Heap} {locs : List Loc} {ls : Array Slot}, k4 v2 v3 σ → wd D cA K_TextS h σ A s.heap H locs → lh ls 4 [some (.ref (h 0)), some (.ref (h 5)), some (iv v2), some (iv v3)] → W p l e rm_X5_perform s m args below meth c H locs 0 0 Q (F0 m 4 ls [])) : ∀ {v2 v3 : Int} {σ : St} {H : Heap} {locs : List Loc} {ls : Array Slot}, wp_X5_perform_43 k4 post v2 v3 σ → wd D cA K_TextS h σ A s.heap H locs → lh ls 4 [some (.ref (h 0)), some (.ref (h 5)), some (iv v2), some (iv v3)] → W p l e rm_X5_perform s m args below meth c H locs 0 0 Q (F0 m 43 ls []) := by
  intro v2 v3 σ H locs ls hwp hw hl
  refine r_iinc C dX5_perform_43 hl rfl (Nat.le_of_ble_eq_true rfl) rfl (fun ls hl => ?_)
  refine r_goto C (tgt := 4) dX5_perform_46 rfl ?_
  exact hk4 hwp hw (lh_mask hl [true, true, true, true])
set_option maxRecDepth 100000 in
theorem b_X5_perform_4 {post : Int → St → Prop} (C : cx p s m args meth c wsX5_perform RX5 cX5_perform 4 (some .int) D cA) (hA : ∀ q, s.heap.size ≤ q → A q) (hR : RtI p l e rm_X5_perform s m args below meth c Q cX5_perform D cA K_TextS h A (fun _ => True) post) : ∀ (n : Nat) {v2 v3 : Int} {σ : St} {H : Heap} {locs : List Loc} {ls : Array Slot}, wp_X5_perform_4 post n v2 v3 σ → wd D cA K_TextS h σ A s.heap H locs → lh ls 4 [some (.ref (h 0)), some (.ref (h 5)), some (iv v2), some (iv v3)] → W p l e rm_X5_perform s m args below meth c H locs 0 0 Q (F0 m 4 ls []) := by
  intro n; induction n with
  | zero => intros; rename_i hwp _ _; exact hwp.elim
  | succ n ih =>
    intro v2 v3 σ H locs ls hwp hw hl
    refine r_iload_n C dX5_perform_4 hl rfl ?_
    refine r_aload_n C dX5_perform_5 hl rfl ?_
    refine r_get C hw clX5 0 rfl 5 5 rfl rfl (Nat.le_of_ble_eq_true rfl) hi_X5_perform_X5 hf_X5_perform_29 dX5_perform_6 ?_
    obtain ⟨ra, rb, hT, hF⟩ := hwp
    refine r_icmp_ge C (tgt := 49) dX5_perform_9 rfl ra rb (fun hc => ?_) (fun hc => ?_)
    · have hwp := hT hc
      refine r_iload_n C dX5_perform_49 hl rfl ?_
      exact hR _ _ _ _ _ _ dX5_perform_50 trivial hwp hw
    · have hwp := hF hc
      refine r_aload_n C dX5_perform_12 hl rfl ?_
      refine r_aload_n C dX5_perform_13 hl rfl ?_
      refine r_aload_n C dX5_perform_14 hl rfl ?_
      refine r_getr C hw clX5 0 rfl 3 2 rfl (Nat.le_of_ble_eq_true rfl) hi_X5_perform_X5 hf_X5_perform_22 dX5_perform_15 ?_
      refine r_iload_n C dX5_perform_18 hl rfl ?_
      obtain ⟨h0, h1, hwp⟩ := hwp
      refine r_iald C hw 2 rfl rfl h0 h1 dX5_perform_19 ?_
      refine r_aload_n C dX5_perform_20 hl rfl ?_
      refine r_getr C hw clX5 0 rfl 4 3 rfl (Nat.le_of_ble_eq_true rfl) hi_X5_perform_X5 hf_X5_perform_26 dX5_perform_21 ?_
      refine r_iload_n C dX5_perform_24 hl rfl ?_
      obtain ⟨h0, h1, hwp⟩ := hwp
      refine r_iald C hw 3 rfl rfl h0 h1 dX5_perform_25 ?_
      refine r_aload_n C dX5_perform_26 hl rfl ?_
      refine r_getr C hw clX5 0 rfl 4 3 rfl (Nat.le_of_ble_eq_true rfl) hi_X5_perform_X5 hf_X5_perform_26 dX5_perform_27 ?_
      refine r_iload_n C dX5_perform_30 hl rfl ?_
      refine r_const C dX5_perform_31 ?_
      refine r_iadd C dX5_perform_32 ?_
      obtain ⟨h0, h1, hwp⟩ := hwp
      refine r_iald C hw 3 rfl rfl h0 h1 dX5_perform_33 ?_
      refine r_cI0 hA hw (run_v0 C hw clX5 rfl (c_X5_performClause hwp) (cwV 4 C.2.2.2.2.1 gX5_perform_X5_performClause rfl rfl rfl hd_X5_performClause ⟨Nat.le_of_ble_eq_true rfl, Nat.le_of_ble_eq_true rfl⟩) rfl rfl rfl hl dX5_perform_34 ⟨Nat.zero_le _, Nat.zero_le _⟩) (fun r σ H locs hwp hw => ?_)
      obtain ⟨ra, hT, hF⟩ := hwp
      refine r_if_eq C (tgt := 43) dX5_perform_37 rfl ra (fun hc => ?_) (fun hc => ?_)
      · have hwp := hT hc
        exact b_X5_perform_43 C hA hR ih hwp hw (lh_mask hl [true, true, true, true])
      · have hwp := hF hc
        refine r_iinc C dX5_perform_40 hl rfl (Nat.le_of_ble_eq_true rfl) rfl (fun ls hl => ?_)
        exact b_X5_perform_43 C hA hR ih hwp hw (lh_mask hl [true, true, true, true])
set_option maxRecDepth 100000 in
theorem b_X5_perform_0 {post : Int → St → Prop} (C : cx p s m args meth c wsX5_perform RX5 cX5_perform 4 (some .int) D cA) (hA : ∀ q, s.heap.size ≤ q → A q) (hR : RtI p l e rm_X5_perform s m args below meth c Q cX5_perform D cA K_TextS h A (fun _ => True) post) : ∀ {σ : St} {H : Heap} {locs : List Loc} {ls : Array Slot}, wp_X5_perform σ post → wd D cA K_TextS h σ A s.heap H locs → lh ls 4 [some (.ref (h 0)), some (.ref (h 5)), none, none] → W p l e rm_X5_perform s m args below meth c H locs 0 0 Q (F0 m 0 ls []) := by
  intro σ H locs ls hwp hw hl
  refine r_const C dX5_perform_0 ?_
  refine r_istore_n C dX5_perform_1 hl (Nat.le_of_ble_eq_true rfl) (Nat.le_of_ble_eq_true rfl) rfl (fun ls hl => ?_)
  refine r_const C dX5_perform_2 ?_
  refine r_istore_n C dX5_perform_3 hl (Nat.le_of_ble_eq_true rfl) (Nat.le_of_ble_eq_true rfl) rfl (fun ls hl => ?_)
  obtain ⟨n9, hwp⟩ := hwp
  exact b_X5_perform_4 C hA hR n9 hwp hw (lh_mask hl [true, true, true, true])
set_option maxRecDepth 100000 in
theorem c_X5_perform {l : Launch} {D : va_G} {cA : FieldType → ClassId} {h : Nat → Nat} {σ : St} {sz : Nat} {post : Int → St → Prop} (hwp : wp_X5_perform σ post) : Met l yX5_perform wsX5_perform rm_X5_perform (va_Pc [.ref (h 0), .ref (h 5)] (preS D cA K_TextS h σ sz)) (QI D cA K_TextS h sz post) 0 0 (aA K_TextS.length h sz) := by
  refine mk_met (cc := cX5_perform) (nL := 4) (ret := (some .int)) (own := RX5) 2 (by decide) rfl rfl rfl rfl ?_
  intro p e s m args below meth c ls hsz C hw hl hA
  subst hsz
  exact b_X5_perform_0 C hA (rt_i C _) hwp hw hl
end
