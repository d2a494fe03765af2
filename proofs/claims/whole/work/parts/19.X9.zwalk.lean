section
variable {p : Program} {l : Launch} {e : Env} {s : State} {m : MethodId} {args : Array Value} {below : List Frame} {meth : Method} {c : Code} {Q : State → Prop} {D : va_G} {cA : FieldType → ClassId} {h : Nat → Nat} {A : Nat → Prop}
-- X9_within
def rm_X9_within : Room := { frames := 0, cells := 0, slots := 0, locals := 0 }
set_option maxRecDepth 100000 in
theorem b_X9_within_0 {σ : St} {post : Int → Prop} (C : cx p s m args meth c wsX9_within RX9 cX9_within 3 (some .boolean) D cA) (hA : ∀ q, s.heap.size ≤ q → A q) (hR : RtI p l e rm_X9_within s m args below meth c Q cX9_within D cA K_0 h A (fun x => x = 0 ∨ x = 1) (fun r σ' => σ' = σ ∧ post r)) : ∀ {v0 v1 v2 : Int} {H : Heap} {locs : List Loc} {ls : Array Slot}, wp_X9_within v0 v1 v2 post → wd D cA K_0 h σ A s.heap H locs → lh ls 3 [some (iv v0), some (iv v1), some (iv v2)] → W p l e rm_X9_within s m args below meth c H locs 0 0 Q (F0 m 0 ls []) := by
  intro v0 v1 v2 H locs ls hwp hw hl
  refine r_iload_n C dX9_within_0 hl rfl ?_
  refine r_iload_n C dX9_within_1 hl rfl ?_
  obtain ⟨ra, rb, hT, hF⟩ := hwp
  refine r_icmp_lt C (tgt := 14) dX9_within_2 rfl ra rb (fun hc => ?_) (fun hc => ?_)
  · have hwp := hT hc
    refine r_const C dX9_within_14 ?_
    exact hR _ _ _ _ _ _ dX9_within_15 (Or.inl rfl) ⟨rfl, hwp⟩ hw
  · have hwp := hF hc
    refine r_iload_n C dX9_within_5 hl rfl ?_
    refine r_iload_n C dX9_within_6 hl rfl ?_
    obtain ⟨ra, rb, hT, hF⟩ := hwp
    refine r_icmp_gt C (tgt := 14) dX9_within_7 rfl ra rb (fun hc => ?_) (fun hc => ?_)
    · have hwp := hT hc
      refine r_const C dX9_within_14 ?_
      exact hR _ _ _ _ _ _ dX9_within_15 (Or.inl rfl) ⟨rfl, hwp⟩ hw
    · have hwp := hF hc
      refine r_const C dX9_within_10 ?_
      refine r_goto C (tgt := 15) dX9_within_11 rfl ?_
      exact hR _ _ _ _ _ _ dX9_within_15 (Or.inr rfl) ⟨rfl, hwp⟩ hw
set_option maxRecDepth 100000 in
theorem c_X9_within {l : Launch} {D : va_G} {cA : FieldType → ClassId} {h : Nat → Nat} {σ : St} {sz : Nat} {v0 v1 v2 : Int} {post : Int → Prop} (hwp : wp_X9_within v0 v1 v2 post) : Met l yX9_within wsX9_within rm_X9_within (va_Pc [iv v0, iv v1, iv v2] (preS D cA K_0 h σ sz)) (QI D cA K_0 h sz (fun r σ' => σ' = σ ∧ post r)) 0 0 (aA K_0.length h sz) := by
  refine mk_met (cc := cX9_within) (nL := 3) (ret := (some .boolean)) (own := RX9) 0 (by decide) rfl rfl rfl rfl ?_
  intro p e s m args below meth c ls hsz C hw hl hA
  subst hsz
  exact b_X9_within_0 C hA (rt_z C _) hwp hw hl
-- X9_begins
theorem hi_X9_begins_X9 : ∀ w ∈ u_ws RX9 TX9 20, w ∈ wsX9_begins := by decide +kernel
theorem hf_X9_begins_9 : Cond.fieldLink RX9 9 (TX9 0).1 (TX9 0).2.1 (TX9 0).2.2.1 ∈ wsX9_begins := by decide +kernel
def rm_X9_begins : Room := { frames := 0, cells := 0, slots := 0, locals := 0 }
set_option maxRecDepth 100000 in
theorem b_X9_begins_2 {post : St → Prop} (C : cx p s m args meth c wsX9_begins RX9 cX9_begins 3 none D cA) (hA : ∀ q, s.heap.size ≤ q → A q) (hR : RtV p l e rm_X9_begins s m args below meth c Q cX9_begins D cA K_M h A post) : ∀ (n : Nat) {v1 v2 : Int} {σ : St} {H : Heap} {locs : List Loc} {ls : Array Slot}, wp_X9_begins_2 post n v1 v2 σ → wd D cA K_M h σ A s.heap H locs → lh ls 3 [some (.ref (h 0)), some (iv v1), some (iv v2)] → W p l e rm_X9_begins s m args below meth c H locs 0 0 Q (F0 m 2 ls []) := by
  intro n; induction n with
  | zero => intros; rename_i hwp _ _; exact hwp.elim
  | succ n ih =>
    intro v1 v2 σ H locs ls hwp hw hl
    refine r_iload_n C dX9_begins_2 hl rfl ?_
    refine r_bipush C dX9_begins_3 bpb_91 ?_
    obtain ⟨ra, hT, hF⟩ := hwp
    refine r_icmp_ge C (tgt := 21) dX9_begins_5 rfl ra (by decide) (fun hc => ?_) (fun hc => ?_)
    · have hwp := hT hc
      refine r_aload_n C dX9_begins_21 hl rfl ?_
      refine r_getr C hw clX9 0 rfl 0 1 rfl (Nat.le_of_ble_eq_true rfl) hi_X9_begins_X9 hf_X9_begins_9 dX9_begins_22 ?_
      refine r_const C dX9_begins_25 ?_
      refine r_iload_n C dX9_begins_26 hl rfl ?_
      refine r_iast C hw 1 rfl rfl (by decide) (by decide) dX9_begins_27 (fun H locs hw => ?_)
      have hwp := hwp _ rfl
      refine r_aload_n C dX9_begins_28 hl rfl ?_
      refine r_getr C hw clX9 0 rfl 0 1 rfl (Nat.le_of_ble_eq_true rfl) hi_X9_begins_X9 hf_X9_begins_9 dX9_begins_29 ?_
      refine r_const C dX9_begins_32 ?_
      refine r_const C dX9_begins_33 ?_
      refine r_iast C hw 1 rfl rfl (by decide) (by decide) dX9_begins_34 (fun H locs hw => ?_)
      have hwp := hwp _ rfl
      refine r_aload_n C dX9_begins_35 hl rfl ?_
      refine r_getr C hw clX9 0 rfl 0 1 rfl (Nat.le_of_ble_eq_true rfl) hi_X9_begins_X9 hf_X9_begins_9 dX9_begins_36 ?_
      refine r_const C dX9_begins_39 ?_
      refine r_const C dX9_begins_40 ?_
      refine r_iast C hw 1 rfl rfl (by decide) (by decide) dX9_begins_41 (fun H locs hw => ?_)
      have hwp := hwp _ rfl
      refine r_aload_n C dX9_begins_42 hl rfl ?_
      refine r_getr C hw clX9 0 rfl 0 1 rfl (Nat.le_of_ble_eq_true rfl) hi_X9_begins_X9 hf_X9_begins_9 dX9_begins_43 ?_
      refine r_const C dX9_begins_46 ?_
      refine r_const C dX9_begins_47 ?_
      refine r_iast C hw 1 rfl rfl (by decide) (by decide) dX9_begins_48 (fun H locs hw => ?_)
      have hwp := hwp _ rfl
      exact hR _ _ _ _ _ dX9_begins_49 hwp hw
    · have hwp := hF hc
      refine r_aload_n C dX9_begins_8 hl rfl ?_
      refine r_getr C hw clX9 0 rfl 0 1 rfl (Nat.le_of_ble_eq_true rfl) hi_X9_begins_X9 hf_X9_begins_9 dX9_begins_9 ?_
      refine r_iload_n C dX9_begins_12 hl rfl ?_
      refine r_const C dX9_begins_13 ?_
      obtain ⟨h0, h1, hwp⟩ := hwp
      refine r_iast C hw 1 rfl rfl h0 h1 dX9_begins_14 (fun H locs hw => ?_)
      have hwp := hwp _ rfl
      refine r_iinc C dX9_begins_15 hl rfl (Nat.le_of_ble_eq_true rfl) rfl (fun ls hl => ?_)
      refine r_goto C (tgt := 2) dX9_begins_18 rfl ?_
      exact ih hwp hw (lh_mask hl [true, true, true])
set_option maxRecDepth 100000 in
theorem b_X9_begins_0 {post : St → Prop} (C : cx p s m args meth c wsX9_begins RX9 cX9_begins 3 none D cA) (hA : ∀ q, s.heap.size ≤ q → A q) (hR : RtV p l e rm_X9_begins s m args below meth c Q cX9_begins D cA K_M h A post) : ∀ {v1 : Int} {σ : St} {H : Heap} {locs : List Loc} {ls : Array Slot}, wp_X9_begins σ v1 post → wd D cA K_M h σ A s.heap H locs → lh ls 3 [some (.ref (h 0)), some (iv v1), none] → W p l e rm_X9_begins s m args below meth c H locs 0 0 Q (F0 m 0 ls []) := by
  intro v1 σ H locs ls hwp hw hl
  refine r_const C dX9_begins_0 ?_
  refine r_istore_n C dX9_begins_1 hl (Nat.le_of_ble_eq_true rfl) (Nat.le_of_ble_eq_true rfl) rfl (fun ls hl => ?_)
  obtain ⟨n9, hwp⟩ := hwp
  exact b_X9_begins_2 C hA hR n9 hwp hw (lh_mask hl [true, true, true])
set_option maxRecDepth 100000 in
theorem c_X9_begins {l : Launch} {D : va_G} {cA : FieldType → ClassId} {h : Nat → Nat} {σ : St} {sz : Nat} {v1 : Int} {post : St → Prop} (hwp : wp_X9_begins σ v1 post) : Met l yX9_begins wsX9_begins rm_X9_begins (va_Pc [.ref (h 0), iv v1] (preS D cA K_M h σ sz)) (QV D cA K_M h sz post) 0 0 (aA K_M.length h sz) := by
  refine mk_met (cc := cX9_begins) (nL := 3) (ret := none) (own := RX9) 1 (by decide) rfl rfl rfl rfl ?_
  intro p e s m args below meth c ls hsz C hw hl hA
  subst hsz
  exact b_X9_begins_0 C hA (rt_v C _) hwp hw hl
-- X9_becomes
theorem hi_X9_becomes_X9 : ∀ w ∈ u_ws RX9 TX9 20, w ∈ wsX9_becomes := by decide +kernel
theorem hf_X9_becomes_9 : Cond.fieldLink RX9 9 (TX9 0).1 (TX9 0).2.1 (TX9 0).2.2.1 ∈ wsX9_becomes := by decide +kernel
def rm_X9_becomes : Room := { frames := 0, cells := 0, slots := 0, locals := 0 }
set_option maxRecDepth 100000 in
theorem b_X9_becomes_0 {post : Int → St → Prop} (C : cx p s m args meth c wsX9_becomes RX9 cX9_becomes 4 (some .int) D cA) (hA : ∀ q, s.heap.size ≤ q → A q) (hR : RtI p l e rm_X9_becomes s m args below meth c Q cX9_becomes D cA K_M h A (fun _ => True) post) : ∀ {v1 v2 : Int} {σ : St} {H : Heap} {locs : List Loc} {ls : Array Slot}, wp_X9_becomes σ v1 v2 post → wd D cA K_M h σ A s.heap H locs → lh ls 4 [some (.ref (h 0)), some (iv v1), some (iv v2), none] → W p l e rm_X9_becomes s m args below meth c H locs 0 0 Q (F0 m 0 ls []) := by
  intro v1 v2 σ H locs ls hwp hw hl
  refine r_aload_n C dX9_becomes_0 hl rfl ?_
  refine r_getr C hw clX9 0 rfl 0 1 rfl (Nat.le_of_ble_eq_true rfl) hi_X9_becomes_X9 hf_X9_becomes_9 dX9_becomes_1 ?_
  refine r_iload_n C dX9_becomes_4 hl rfl ?_
  obtain ⟨h0, h1, hwp⟩ := hwp
  refine r_iald C hw 1 rfl rfl h0 h1 dX9_becomes_5 ?_
  refine r_istore_n C dX9_becomes_6 hl (Nat.le_of_ble_eq_true rfl) (Nat.le_of_ble_eq_true rfl) rfl (fun ls hl => ?_)
  refine r_aload_n C dX9_becomes_7 hl rfl ?_
  refine r_getr C hw clX9 0 rfl 0 1 rfl (Nat.le_of_ble_eq_true rfl) hi_X9_becomes_X9 hf_X9_becomes_9 dX9_becomes_8 ?_
  refine r_iload_n C dX9_becomes_11 hl rfl ?_
  refine r_iload_n C dX9_becomes_12 hl rfl ?_
  obtain ⟨h0, h1, hwp⟩ := hwp
  refine r_iast C hw 1 rfl rfl h0 h1 dX9_becomes_13 (fun H locs hw => ?_)
  have hwp := hwp _ rfl
  refine r_iload_n C dX9_becomes_14 hl rfl ?_
  exact hR _ _ _ _ _ _ dX9_becomes_15 trivial hwp hw
set_option maxRecDepth 100000 in
theorem c_X9_becomes {l : Launch} {D : va_G} {cA : FieldType → ClassId} {h : Nat → Nat} {σ : St} {sz : Nat} {v1 v2 : Int} {post : Int → St → Prop} (hwp : wp_X9_becomes σ v1 v2 post) : Met l yX9_becomes wsX9_becomes rm_X9_becomes (va_Pc [.ref (h 0), iv v1, iv v2] (preS D cA K_M h σ sz)) (QI D cA K_M h sz post) 0 0 (aA K_M.length h sz) := by
  refine mk_met (cc := cX9_becomes) (nL := 4) (ret := (some .int)) (own := RX9) 1 (by decide) rfl rfl rfl rfl ?_
  intro p e s m args below meth c ls hsz C hw hl hA
  subst hsz
  exact b_X9_becomes_0 C hA (rt_i C _) hwp hw hl
-- X9_bells
theorem hi_X9_bells_X9 : ∀ w ∈ u_ws RX9 TX9 20, w ∈ wsX9_bells := by decide +kernel
theorem hf_X9_bells_9 : Cond.fieldLink RX9 9 (TX9 0).1 (TX9 0).2.1 (TX9 0).2.2.1 ∈ wsX9_bells := by decide +kernel
def rm_X9_bells : Room := { frames := 1, cells := 0, slots := 0, locals := 22 }
set_option maxRecDepth 100000 in
theorem b_X9_bells_0 {post : Int → St → Prop} (C : cx p s m args meth c wsX9_bells RX9 cX9_bells 3 (some .int) D cA) (hA : ∀ q, s.heap.size ≤ q → A q) (hR : RtI p l e rm_X9_bells s m args below meth c Q cX9_bells D cA K_M h A (fun _ => True) post) : ∀ {v1 : Int} {σ : St} {H : Heap} {locs : List Loc} {ls : Array Slot}, wp_X9_bells σ v1 post → wd D cA K_M h σ A s.heap H locs → lh ls 3 [some (.ref (h 0)), some (iv v1), none] → W p l e rm_X9_bells s m args below meth c H locs 0 0 Q (F0 m 0 ls []) := by
  intro v1 σ H locs ls hwp hw hl
  refine r_iload_n C dX9_bells_0 hl rfl ?_
  refine r_const C dX9_bells_1 ?_
  refine r_bipush C dX9_bells_2 bpb_8 ?_
  refine r_cIr hA hw sb_M_0_0_36 (run_s C hw sb_M_0_0_36 (c_X9_within hwp) (va_cwS 3 C.2.2.2.2.1 gX9_bells_X9_within rfl rfl rfl hd_X9_within ⟨Nat.le_of_ble_eq_true rfl, Nat.le_of_ble_eq_true rfl⟩) rfl rfl rfl hl dX9_bells_4 ⟨Nat.zero_le _, Nat.zero_le _⟩) (fun r H locs hwp hw => ?_)
  obtain ⟨ra, hT, hF⟩ := hwp
  refine r_if_ne C (tgt := 13) dX9_bells_7 rfl ra (fun hc => ?_) (fun hc => ?_)
  · have hwp := hT hc
    refine r_aload_n C dX9_bells_13 hl rfl ?_
    refine r_getr C hw clX9 0 rfl 0 1 rfl (Nat.le_of_ble_eq_true rfl) hi_X9_bells_X9 hf_X9_bells_9 dX9_bells_14 ?_
    refine r_const C dX9_bells_17 ?_
    refine r_iald C hw 1 rfl rfl (by decide) (by decide) dX9_bells_18 ?_
    refine r_istore_n C dX9_bells_19 hl (Nat.le_of_ble_eq_true rfl) (Nat.le_of_ble_eq_true rfl) rfl (fun ls hl => ?_)
    refine r_aload_n C dX9_bells_20 hl rfl ?_
    refine r_iload_n C dX9_bells_21 hl rfl ?_
    refine r_cV0 hA hw (run_v0 C hw clX9 rfl (c_X9_begins hwp) (cwV 1 C.2.2.2.2.1 gX9_bells_X9_begins rfl rfl rfl hd_X9_begins ⟨Nat.le_of_ble_eq_true rfl, Nat.le_of_ble_eq_true rfl⟩) rfl rfl rfl hl dX9_bells_22 ⟨Nat.zero_le _, Nat.zero_le _⟩) (fun σ H locs hwp hw => ?_)
    refine r_iload_n C dX9_bells_25 hl rfl ?_
    exact hR _ _ _ _ _ _ dX9_bells_26 trivial hwp hw
  · have hwp := hF hc
    refine r_bipush C dX9_bells_10 bpb_m2 ?_
    exact hR _ _ _ _ _ _ dX9_bells_12 trivial hwp hw
set_option maxRecDepth 100000 in
theorem c_X9_bells {l : Launch} {D : va_G} {cA : FieldType → ClassId} {h : Nat → Nat} {σ : St} {sz : Nat} {v1 : Int} {post : Int → St → Prop} (hwp : wp_X9_bells σ v1 post) : Met l yX9_bells wsX9_bells rm_X9_bells (va_Pc [.ref (h 0), iv v1] (preS D cA K_M h σ sz)) (QI D cA K_M h sz post) 0 0 (aA K_M.length h sz) := by
  refine mk_met (cc := cX9_bells) (nL := 3) (ret := (some .int)) (own := RX9) 1 (by decide) rfl rfl rfl rfl ?_
  intro p e s m args below meth c ls hsz C hw hl hA
  subst hsz
  exact b_X9_bells_0 C hA (rt_i C _) hwp hw hl
-- X9_areKept
theorem hi_X9_areKept_X9 : ∀ w ∈ u_ws RX9 TX9 20, w ∈ wsX9_areKept := by decide +kernel
theorem hf_X9_areKept_9 : Cond.fieldLink RX9 9 (TX9 0).1 (TX9 0).2.1 (TX9 0).2.2.1 ∈ wsX9_areKept := by decide +kernel
def rm_X9_areKept : Room := { frames := 1, cells := 0, slots := 0, locals := 22 }
set_option maxRecDepth 100000 in
theorem b_X9_areKept_0 {σ : St} {post : Int → Prop} (C : cx p s m args meth c wsX9_areKept RX9 cX9_areKept 2 (some .boolean) D cA) (hA : ∀ q, s.heap.size ≤ q → A q) (hR : RtI p l e rm_X9_areKept s m args below meth c Q cX9_areKept D cA K_M h A (fun x => x = 0 ∨ x = 1) (fun r σ' => σ' = σ ∧ post r)) : ∀ {v1 : Int} {H : Heap} {locs : List Loc} {ls : Array Slot}, wp_X9_areKept σ v1 post → wd D cA K_M h σ A s.heap H locs → lh ls 2 [some (.ref (h 0)), some (iv v1)] → W p l e rm_X9_areKept s m args below meth c H locs 0 0 Q (F0 m 0 ls []) := by
  intro v1 H locs ls hwp hw hl
  refine r_iload_n C dX9_areKept_0 hl rfl ?_
  refine r_const C dX9_areKept_1 ?_
  refine r_const C dX9_areKept_2 ?_
  refine r_aload_n C dX9_areKept_3 hl rfl ?_
  refine r_getr C hw clX9 0 rfl 0 1 rfl (Nat.le_of_ble_eq_true rfl) hi_X9_areKept_X9 hf_X9_areKept_9 dX9_areKept_4 ?_
  refine r_const C dX9_areKept_7 ?_
  refine r_iald C hw 1 rfl rfl (by decide) (by decide) dX9_areKept_8 ?_
  refine r_ishl C dX9_areKept_9 ?_
  refine r_const C dX9_areKept_10 ?_
  refine r_isub C dX9_areKept_11 ?_
  refine r_cIr hA hw sb_M_0_0_36 (run_s C hw sb_M_0_0_36 (c_X9_within hwp) (va_cwS 3 C.2.2.2.2.1 gX9_areKept_X9_within rfl rfl rfl hd_X9_within ⟨Nat.le_of_ble_eq_true rfl, Nat.le_of_ble_eq_true rfl⟩) rfl rfl rfl hl dX9_areKept_12 ⟨Nat.zero_le _, Nat.zero_le _⟩) (fun r H locs hwp hw => ?_)
  obtain ⟨hz, hwp⟩ := hwp
  exact hR _ _ _ _ _ _ dX9_areKept_15 hz ⟨rfl, hwp⟩ hw
set_option maxRecDepth 100000 in
theorem c_X9_areKept {l : Launch} {D : va_G} {cA : FieldType → ClassId} {h : Nat → Nat} {σ : St} {sz : Nat} {v1 : Int} {post : Int → Prop} (hwp : wp_X9_areKept σ v1 post) : Met l yX9_areKept wsX9_areKept rm_X9_areKept (va_Pc [.ref (h 0), iv v1] (preS D cA K_M h σ sz)) (QI D cA K_M h sz (fun r σ' => σ' = σ ∧ post r)) 0 0 (aA K_M.length h sz) := by
  refine mk_met (cc := cX9_areKept) (nL := 2) (ret := (some .boolean)) (own := RX9) 0 (by decide) rfl rfl rfl rfl ?_
  intro p e s m args below meth c ls hsz C hw hl hA
  subst hsz
  exact b_X9_areKept_0 C hA (rt_z C _) hwp hw hl
-- X9_isGood
theorem hi_X9_isGood_X9 : ∀ w ∈ u_ws RX9 TX9 20, w ∈ wsX9_isGood := by decide +kernel
theorem hf_X9_isGood_9 : Cond.fieldLink RX9 9 (TX9 0).1 (TX9 0).2.1 (TX9 0).2.2.1 ∈ wsX9_isGood := by decide +kernel
def rm_X9_isGood : Room := { frames := 0, cells := 0, slots := 0, locals := 0 }
set_option maxRecDepth 100000 in
theorem b_X9_isGood_2 {σ : St} {post : Int → Prop} (C : cx p s m args meth c wsX9_isGood RX9 cX9_isGood 3 (some .boolean) D cA) (hA : ∀ q, s.heap.size ≤ q → A q) (hR : RtI p l e rm_X9_isGood s m args below meth c Q cX9_isGood D cA K_M h A (fun x => x = 0 ∨ x = 1) (fun r σ' => σ' = σ ∧ post r)) : ∀ (n : Nat) {v1 v2 : Int} {H : Heap} {locs : List Loc} {ls : Array Slot}, wp_X9_isGood_2 post n v1 v2 σ → wd D cA K_M h σ A s.heap H locs → lh ls 3 [some (.ref (h 0)), some (iv v1), some (iv v2)] → W p l e rm_X9_isGood s m args below meth c H locs 0 0 Q (F0 m 2 ls []) := by
  intro n; induction n with
  | zero => intros; rename_i hwp _ _; exact hwp.elim
  | succ n ih =>
    intro v1 v2 H locs ls hwp hw hl
    refine r_iload_n C dX9_isGood_2 hl rfl ?_
    refine r_aload_n C dX9_isGood_3 hl rfl ?_
    refine r_getr C hw clX9 0 rfl 0 1 rfl (Nat.le_of_ble_eq_true rfl) hi_X9_isGood_X9 hf_X9_isGood_9 dX9_isGood_4 ?_
    refine r_const C dX9_isGood_7 ?_
    refine r_iald C hw 1 rfl rfl (by decide) (by decide) dX9_isGood_8 ?_
    obtain ⟨ra, rb, hT, hF⟩ := hwp
    refine r_icmp_ge C (tgt := 57) dX9_isGood_9 rfl ra rb (fun hc => ?_) (fun hc => ?_)
    · have hwp := hT hc
      refine r_const C dX9_isGood_57 ?_
      exact hR _ _ _ _ _ _ dX9_isGood_58 (Or.inr rfl) ⟨rfl, hwp⟩ hw
    · have hwp := hF hc
      refine r_iload_n C dX9_isGood_12 hl rfl ?_
      refine r_iload_n C dX9_isGood_13 hl rfl ?_
      refine r_ishr C dX9_isGood_14 ?_
      refine r_const C dX9_isGood_15 ?_
      refine r_iand C dX9_isGood_16 ?_
      refine r_const C dX9_isGood_17 ?_
      obtain ⟨ra, hT, hF⟩ := hwp
      refine r_icmp_ne C (tgt := 27) dX9_isGood_18 rfl ra (by decide) (fun hc => ?_) (fun hc => ?_)
      · have hwp := hT hc
        refine r_iload_n C dX9_isGood_27 hl rfl ?_
        refine r_const C dX9_isGood_28 ?_
        refine r_iadd C dX9_isGood_29 ?_
        refine r_aload_n C dX9_isGood_30 hl rfl ?_
        refine r_getr C hw clX9 0 rfl 0 1 rfl (Nat.le_of_ble_eq_true rfl) hi_X9_isGood_X9 hf_X9_isGood_9 dX9_isGood_31 ?_
        refine r_const C dX9_isGood_34 ?_
        refine r_iald C hw 1 rfl rfl (by decide) (by decide) dX9_isGood_35 ?_
        obtain ⟨ra, rb, hT, hF⟩ := hwp
        refine r_icmp_ge C (tgt := 55) dX9_isGood_36 rfl ra rb (fun hc => ?_) (fun hc => ?_)
        · have hwp := hT hc
          refine r_const C dX9_isGood_55 ?_
          exact hR _ _ _ _ _ _ dX9_isGood_56 (Or.inl rfl) ⟨rfl, hwp⟩ hw
        · have hwp := hF hc
          refine r_iload_n C dX9_isGood_39 hl rfl ?_
          refine r_iload_n C dX9_isGood_40 hl rfl ?_
          refine r_const C dX9_isGood_41 ?_
          refine r_iadd C dX9_isGood_42 ?_
          refine r_ishr C dX9_isGood_43 ?_
          refine r_const C dX9_isGood_44 ?_
          refine r_iand C dX9_isGood_45 ?_
          obtain ⟨ra, hT, hF⟩ := hwp
          refine r_if_ne C (tgt := 55) dX9_isGood_46 rfl ra (fun hc => ?_) (fun hc => ?_)
          · have hwp := hT hc
            refine r_const C dX9_isGood_55 ?_
            exact hR _ _ _ _ _ _ dX9_isGood_56 (Or.inl rfl) ⟨rfl, hwp⟩ hw
          · have hwp := hF hc
            refine r_iinc C dX9_isGood_49 hl rfl (Nat.le_of_ble_eq_true rfl) rfl (fun ls hl => ?_)
            refine r_goto C (tgt := 2) dX9_isGood_52 rfl ?_
            exact ih hwp hw (lh_mask hl [true, true, true])
      · have hwp := hF hc
        refine r_iinc C dX9_isGood_21 hl rfl (Nat.le_of_ble_eq_true rfl) rfl (fun ls hl => ?_)
        refine r_goto C (tgt := 2) dX9_isGood_24 rfl ?_
        exact ih hwp hw (lh_mask hl [true, true, true])
set_option maxRecDepth 100000 in
theorem b_X9_isGood_0 {σ : St} {post : Int → Prop} (C : cx p s m args meth c wsX9_isGood RX9 cX9_isGood 3 (some .boolean) D cA) (hA : ∀ q, s.heap.size ≤ q → A q) (hR : RtI p l e rm_X9_isGood s m args below meth c Q cX9_isGood D cA K_M h A (fun x => x = 0 ∨ x = 1) (fun r σ' => σ' = σ ∧ post r)) : ∀ {v1 : Int} {H : Heap} {locs : List Loc} {ls : Array Slot}, wp_X9_isGood σ v1 post → wd D cA K_M h σ A s.heap H locs → lh ls 3 [some (.ref (h 0)), some (iv v1), none] → W p l e rm_X9_isGood s m args below meth c H locs 0 0 Q (F0 m 0 ls []) := by
  intro v1 H locs ls hwp hw hl
  refine r_const C dX9_isGood_0 ?_
  refine r_istore_n C dX9_isGood_1 hl (Nat.le_of_ble_eq_true rfl) (Nat.le_of_ble_eq_true rfl) rfl (fun ls hl => ?_)
  obtain ⟨n9, hwp⟩ := hwp
  exact b_X9_isGood_2 C hA hR n9 hwp hw (lh_mask hl [true, true, true])
set_option maxRecDepth 100000 in
theorem c_X9_isGood {l : Launch} {D : va_G} {cA : FieldType → ClassId} {h : Nat → Nat} {σ : St} {sz : Nat} {v1 : Int} {post : Int → Prop} (hwp : wp_X9_isGood σ v1 post) : Met l yX9_isGood wsX9_isGood rm_X9_isGood (va_Pc [.ref (h 0), iv v1] (preS D cA K_M h σ sz)) (QI D cA K_M h sz (fun r σ' => σ' = σ ∧ post r)) 0 0 (aA K_M.length h sz) := by
  refine mk_met (cc := cX9_isGood) (nL := 3) (ret := (some .boolean)) (own := RX9) 1 (by decide) rfl rfl rfl rfl ?_
  intro p e s m args below meth c ls hsz C hw hl hA
  subst hsz
  exact b_X9_isGood_0 C hA (rt_z C _) hwp hw hl
-- X9_change
theorem hi_X9_change_X9 : ∀ w ∈ u_ws RX9 TX9 20, w ∈ wsX9_change := by decide +kernel
theorem hf_X9_change_9 : Cond.fieldLink RX9 9 (TX9 0).1 (TX9 0).2.1 (TX9 0).2.2.1 ∈ wsX9_change := by decide +kernel
def rm_X9_change : Room := { frames := 2, cells := 0, slots := 0, locals := 43 }
set_option maxRecDepth 100000 in
theorem b_X9_change_0 {post : Int → St → Prop} (C : cx p s m args meth c wsX9_change RX9 cX9_change 2 (some .int) D cA) (hA : ∀ q, s.heap.size ≤ q → A q) (hR : RtI p l e rm_X9_change s m args below meth c Q cX9_change D cA K_M h A (fun _ => True) post) : ∀ {v1 : Int} {σ : St} {H : Heap} {locs : List Loc} {ls : Array Slot}, wp_X9_change σ v1 post → wd D cA K_M h σ A s.heap H locs → lh ls 2 [some (.ref (h 0)), some (iv v1)] → W p l e rm_X9_change s m args below meth c H locs 0 0 Q (F0 m 0 ls []) := by
  intro v1 σ H locs ls hwp hw hl
  refine r_aload_n C dX9_change_0 hl rfl ?_
  refine r_iload_n C dX9_change_1 hl rfl ?_
  refine r_cIr0 hA hw (run_v0 C hw clX9 rfl (c_X9_areKept hwp) (cwV 1 C.2.2.2.2.1 gX9_change_X9_areKept rfl rfl rfl hd_X9_areKept ⟨Nat.le_of_ble_eq_true rfl, Nat.le_of_ble_eq_true rfl⟩) rfl rfl rfl hl dX9_change_2 ⟨Nat.zero_le _, Nat.zero_le _⟩) (fun r H locs hwp hw => ?_)
  obtain ⟨ra, hT, hF⟩ := hwp
  refine r_if_ne C (tgt := 11) dX9_change_5 rfl ra (fun hc => ?_) (fun hc => ?_)
  · have hwp := hT hc
    refine r_aload_n C dX9_change_11 hl rfl ?_
    refine r_iload_n C dX9_change_12 hl rfl ?_
    refine r_cIr0 hA hw (run_v0 C hw clX9 rfl (c_X9_isGood hwp) (cwV 1 C.2.2.2.2.1 gX9_change_X9_isGood rfl rfl rfl hd_X9_isGood ⟨Nat.le_of_ble_eq_true rfl, Nat.le_of_ble_eq_true rfl⟩) rfl rfl rfl hl dX9_change_13 ⟨Nat.zero_le _, Nat.zero_le _⟩) (fun r H locs hwp hw => ?_)
    obtain ⟨ra, hT, hF⟩ := hwp
    refine r_if_ne C (tgt := 22) dX9_change_16 rfl ra (fun hc => ?_) (fun hc => ?_)
    · have hwp := hT hc
      refine r_aload_n C dX9_change_22 hl rfl ?_
      refine r_getr C hw clX9 0 rfl 0 1 rfl (Nat.le_of_ble_eq_true rfl) hi_X9_change_X9 hf_X9_change_9 dX9_change_23 ?_
      refine r_const C dX9_change_26 ?_
      refine r_iald C hw 1 rfl rfl (by decide) (by decide) dX9_change_27 ?_
      refine r_bipush C dX9_change_28 bpb_16 ?_
      obtain ⟨ra, hT, hF⟩ := hwp
      refine r_icmp_ne C (tgt := 36) dX9_change_30 rfl ra (by decide) (fun hc => ?_) (fun hc => ?_)
      · have hwp := hT hc
        refine r_aload_n C dX9_change_36 hl rfl ?_
        refine r_getr C hw clX9 0 rfl 0 1 rfl (Nat.le_of_ble_eq_true rfl) hi_X9_change_X9 hf_X9_change_9 dX9_change_37 ?_
        refine r_bipush C dX9_change_40 bpb_8 ?_
        refine r_aload_n C dX9_change_42 hl rfl ?_
        refine r_getr C hw clX9 0 rfl 0 1 rfl (Nat.le_of_ble_eq_true rfl) hi_X9_change_X9 hf_X9_change_9 dX9_change_43 ?_
        refine r_const C dX9_change_46 ?_
        refine r_iald C hw 1 rfl rfl (by decide) (by decide) dX9_change_47 ?_
        refine r_iadd C dX9_change_48 ?_
        refine r_iload_n C dX9_change_49 hl rfl ?_
        obtain ⟨h0, h1, hwp⟩ := hwp
        refine r_iast C hw 1 rfl rfl h0 h1 dX9_change_50 (fun H locs hw => ?_)
        have hwp := hwp _ rfl
        refine r_aload_n C dX9_change_51 hl rfl ?_
        refine r_getr C hw clX9 0 rfl 0 1 rfl (Nat.le_of_ble_eq_true rfl) hi_X9_change_X9 hf_X9_change_9 dX9_change_52 ?_
        refine r_const C dX9_change_55 ?_
        refine r_dup2 C dX9_change_56 rfl rfl ?_
        refine r_iald C hw 1 rfl rfl (by decide) (by decide) dX9_change_57 ?_
        refine r_const C dX9_change_58 ?_
        refine r_iadd C dX9_change_59 ?_
        refine r_dup_x2 C dX9_change_60 rfl rfl rfl ?_
        refine r_iast C hw 1 rfl rfl (by decide) (by decide) dX9_change_61 (fun H locs hw => ?_)
        have hwp := hwp _ rfl
        exact hR _ _ _ _ _ _ dX9_change_62 trivial hwp hw
      · have hwp := hF hc
        refine r_bipush C dX9_change_33 bpb_m4 ?_
        exact hR _ _ _ _ _ _ dX9_change_35 trivial hwp hw
    · have hwp := hF hc
      refine r_bipush C dX9_change_19 bpb_m3 ?_
      exact hR _ _ _ _ _ _ dX9_change_21 trivial hwp hw
  · have hwp := hF hc
    refine r_bipush C dX9_change_8 bpb_m2 ?_
    exact hR _ _ _ _ _ _ dX9_change_10 trivial hwp hw
set_option maxRecDepth 100000 in
theorem c_X9_change {l : Launch} {D : va_G} {cA : FieldType → ClassId} {h : Nat → Nat} {σ : St} {sz : Nat} {v1 : Int} {post : Int → St → Prop} (hwp : wp_X9_change σ v1 post) : Met l yX9_change wsX9_change rm_X9_change (va_Pc [.ref (h 0), iv v1] (preS D cA K_M h σ sz)) (QI D cA K_M h sz post) 0 0 (aA K_M.length h sz) := by
  refine mk_met (cc := cX9_change) (nL := 2) (ret := (some .int)) (own := RX9) 0 (by decide) rfl rfl rfl rfl ?_
  intro p e s m args below meth c ls hsz C hw hl hA
  subst hsz
  exact b_X9_change_0 C hA (rt_i C _) hwp hw hl
-- X9_calls
def rm_X9_calls : Room := { frames := 2, cells := 0, slots := 0, locals := 43 }
set_option maxRecDepth 100000 in
theorem b_X9_calls_43 {post : Int → St → Prop} (C : cx p s m args meth c wsX9_calls RX9 cX9_calls 3 (some .int) D cA) (hA : ∀ q, s.heap.size ≤ q → A q) (hR : RtI p l e rm_X9_calls s m args below meth c Q cX9_calls D cA K_M h A (fun _ => True) post) : ∀ {v1 v2 : Int} {σ : St} {H : Heap} {locs : List Loc} {ls : Array Slot}, wp_X9_calls_43 post v1 v2 σ → wd D cA K_M h σ A s.heap H locs → lh ls 3 [some (.ref (h 0)), some (iv v1), some (iv v2)] → W p l e rm_X9_calls s m args below meth c H locs 0 0 Q (F0 m 43 ls []) := by
  intro v1 v2 σ H locs ls hwp hw hl
  refine r_aload_n C dX9_calls_43 hl rfl ?_
  refine r_const C dX9_calls_44 ?_
  refine r_iload_n C dX9_calls_45 hl rfl ?_
  refine r_iadd C dX9_calls_46 ?_
  refine r_iload_n C dX9_calls_47 hl rfl ?_
  refine r_cI0 hA hw (run_v0 C hw clX9 rfl (c_X9_becomes hwp) (cwV 2 C.2.2.2.2.1 gX9_calls_X9_becomes rfl rfl rfl hd_X9_becomes ⟨Nat.le_of_ble_eq_true rfl, Nat.le_of_ble_eq_true rfl⟩) rfl rfl rfl hl dX9_calls_48 ⟨Nat.zero_le _, Nat.zero_le _⟩) (fun r σ H locs hwp hw => ?_)
  refine r_const C dX9_calls_51 ?_
  obtain ⟨ra, hT, hF⟩ := hwp
  refine r_icmp_ne C (tgt := 59) dX9_calls_52 rfl ra (by decide) (fun hc => ?_) (fun hc => ?_)
  · have hwp := hT hc
    refine r_const C dX9_calls_59 ?_
    exact hR _ _ _ _ _ _ dX9_calls_60 trivial hwp hw
  · have hwp := hF hc
    refine r_const C dX9_calls_55 ?_
    refine r_goto C (tgt := 60) dX9_calls_56 rfl ?_
    exact hR _ _ _ _ _ _ dX9_calls_60 trivial hwp hw
set_option maxRecDepth 100000 in
theorem b_X9_calls_27 {post : Int → St → Prop} (C : cx p s m args meth c wsX9_calls RX9 cX9_calls 3 (some .int) D cA) (hA : ∀ q, s.heap.size ≤ q → A q) (hR : RtI p l e rm_X9_calls s m args below meth c Q cX9_calls D cA K_M h A (fun _ => True) post) : ∀ {v1 v2 : Int} {σ : St} {H : Heap} {locs : List Loc} {ls : Array Slot}, wp_X9_calls_27 post v1 v2 σ → wd D cA K_M h σ A s.heap H locs → lh ls 3 [some (.ref (h 0)), some (iv v1), some (iv v2)] → W p l e rm_X9_calls s m args below meth c H locs 0 0 Q (F0 m 27 ls []) := by
  intro v1 v2 σ H locs ls hwp hw hl
  refine r_iload_n C dX9_calls_27 hl rfl ?_
  refine r_const C dX9_calls_28 ?_
  obtain ⟨ra, hT, hF⟩ := hwp
  refine r_icmp_eq C (tgt := 43) dX9_calls_29 rfl ra (by decide) (fun hc => ?_) (fun hc => ?_)
  · have hwp := hT hc
    exact b_X9_calls_43 C hA hR hwp hw (lh_mask hl [true, true, true])
  · have hwp := hF hc
    refine r_aload_n C dX9_calls_32 hl rfl ?_
    refine r_iload_n C dX9_calls_33 hl rfl ?_
    refine r_cIr0 hA hw (run_v0 C hw clX9 rfl (c_X9_isGood hwp) (cwV 1 C.2.2.2.2.1 gX9_calls_X9_isGood rfl rfl rfl hd_X9_isGood ⟨Nat.le_of_ble_eq_true rfl, Nat.le_of_ble_eq_true rfl⟩) rfl rfl rfl hl dX9_calls_34 ⟨Nat.zero_le _, Nat.zero_le _⟩) (fun r H locs hwp hw => ?_)
    obtain ⟨ra, hT, hF⟩ := hwp
    refine r_if_ne C (tgt := 43) dX9_calls_37 rfl ra (fun hc => ?_) (fun hc => ?_)
    · have hwp := hT hc
      exact b_X9_calls_43 C hA hR hwp hw (lh_mask hl [true, true, true])
    · have hwp := hF hc
      refine r_bipush C dX9_calls_40 bpb_m3 ?_
      exact hR _ _ _ _ _ _ dX9_calls_42 trivial hwp hw
set_option maxRecDepth 100000 in
theorem b_X9_calls_0 {post : Int → St → Prop} (C : cx p s m args meth c wsX9_calls RX9 cX9_calls 3 (some .int) D cA) (hA : ∀ q, s.heap.size ≤ q → A q) (hR : RtI p l e rm_X9_calls s m args below meth c Q cX9_calls D cA K_M h A (fun _ => True) post) : ∀ {v1 v2 : Int} {σ : St} {H : Heap} {locs : List Loc} {ls : Array Slot}, wp_X9_calls σ v1 v2 post → wd D cA K_M h σ A s.heap H locs → lh ls 3 [some (.ref (h 0)), some (iv v1), some (iv v2)] → W p l e rm_X9_calls s m args below meth c H locs 0 0 Q (F0 m 0 ls []) := by
  intro v1 v2 σ H locs ls hwp hw hl
  refine r_iload_n C dX9_calls_0 hl rfl ?_
  refine r_const C dX9_calls_1 ?_
  refine r_const C dX9_calls_2 ?_
  refine r_cIr hA hw sb_M_0_0_36 (run_s C hw sb_M_0_0_36 (c_X9_within hwp) (va_cwS 3 C.2.2.2.2.1 gX9_calls_X9_within rfl rfl rfl hd_X9_within ⟨Nat.le_of_ble_eq_true rfl, Nat.le_of_ble_eq_true rfl⟩) rfl rfl rfl hl dX9_calls_3 ⟨Nat.zero_le _, Nat.zero_le _⟩) (fun r H locs hwp hw => ?_)
  obtain ⟨ra, hT, hF⟩ := hwp
  refine r_if_ne C (tgt := 11) dX9_calls_6 rfl ra (fun hc => ?_) (fun hc => ?_)
  · have hwp := hT hc
    refine r_iload_n C dX9_calls_11 hl rfl ?_
    refine r_const C dX9_calls_12 ?_
    obtain ⟨ra, hT, hF⟩ := hwp
    refine r_icmp_eq C (tgt := 27) dX9_calls_13 rfl ra (by decide) (fun hc => ?_) (fun hc => ?_)
    · have hwp := hT hc
      exact b_X9_calls_27 C hA hR hwp hw (lh_mask hl [true, true, true])
    · have hwp := hF hc
      refine r_aload_n C dX9_calls_16 hl rfl ?_
      refine r_iload_n C dX9_calls_17 hl rfl ?_
      refine r_cIr0 hA hw (run_v0 C hw clX9 rfl (c_X9_areKept hwp) (cwV 1 C.2.2.2.2.1 gX9_calls_X9_areKept rfl rfl rfl hd_X9_areKept ⟨Nat.le_of_ble_eq_true rfl, Nat.le_of_ble_eq_true rfl⟩) rfl rfl rfl hl dX9_calls_18 ⟨Nat.zero_le _, Nat.zero_le _⟩) (fun r H locs hwp hw => ?_)
      obtain ⟨ra, hT, hF⟩ := hwp
      refine r_if_ne C (tgt := 27) dX9_calls_21 rfl ra (fun hc => ?_) (fun hc => ?_)
      · have hwp := hT hc
        exact b_X9_calls_27 C hA hR hwp hw (lh_mask hl [true, true, true])
      · have hwp := hF hc
        refine r_bipush C dX9_calls_24 bpb_m2 ?_
        exact hR _ _ _ _ _ _ dX9_calls_26 trivial hwp hw
  · have hwp := hF hc
    refine r_const C dX9_calls_9 ?_
    exact hR _ _ _ _ _ _ dX9_calls_10 trivial hwp hw
set_option maxRecDepth 100000 in
theorem c_X9_calls {l : Launch} {D : va_G} {cA : FieldType → ClassId} {h : Nat → Nat} {σ : St} {sz : Nat} {v1 v2 : Int} {post : Int → St → Prop} (hwp : wp_X9_calls σ v1 v2 post) : Met l yX9_calls wsX9_calls rm_X9_calls (va_Pc [.ref (h 0), iv v1, iv v2] (preS D cA K_M h σ sz)) (QI D cA K_M h sz post) 0 0 (aA K_M.length h sz) := by
  refine mk_met (cc := cX9_calls) (nL := 3) (ret := (some .int)) (own := RX9) 0 (by decide) rfl rfl rfl rfl ?_
  intro p e s m args below meth c ls hsz C hw hl hA
  subst hsz
  exact b_X9_calls_0 C hA (rt_i C _) hwp hw hl
-- X9_call
def rm_X9_call : Room := { frames := 1, cells := 0, slots := 0, locals := 23 }
set_option maxRecDepth 100000 in
theorem b_X9_call_0 {post : Int → St → Prop} (C : cx p s m args meth c wsX9_call RX9 cX9_call 3 (some .int) D cA) (hA : ∀ q, s.heap.size ≤ q → A q) (hR : RtI p l e rm_X9_call s m args below meth c Q cX9_call D cA K_M h A (fun _ => True) post) : ∀ {v1 v2 : Int} {σ : St} {H : Heap} {locs : List Loc} {ls : Array Slot}, wp_X9_call σ v1 v2 post → wd D cA K_M h σ A s.heap H locs → lh ls 3 [some (.ref (h 0)), some (iv v1), some (iv v2)] → W p l e rm_X9_call s m args below meth c H locs 0 0 Q (F0 m 0 ls []) := by
  intro v1 v2 σ H locs ls hwp hw hl
  refine r_iload_n C dX9_call_0 hl rfl ?_
  refine r_const C dX9_call_1 ?_
  refine r_bipush C dX9_call_2 bpb_11 ?_
  refine r_cIr hA hw sb_M_0_0_36 (run_s C hw sb_M_0_0_36 (c_X9_within hwp) (va_cwS 3 C.2.2.2.2.1 gX9_call_X9_within rfl rfl rfl hd_X9_within ⟨Nat.le_of_ble_eq_true rfl, Nat.le_of_ble_eq_true rfl⟩) rfl rfl rfl hl dX9_call_4 ⟨Nat.zero_le _, Nat.zero_le _⟩) (fun r H locs hwp hw => ?_)
  obtain ⟨ra, hT, hF⟩ := hwp
  refine r_if_ne C (tgt := 12) dX9_call_7 rfl ra (fun hc => ?_) (fun hc => ?_)
  · have hwp := hT hc
    refine r_iload_n C dX9_call_12 hl rfl ?_
    refine r_const C dX9_call_13 ?_
    refine r_const C dX9_call_14 ?_
    refine r_cIr hA hw sb_M_0_0_36 (run_s C hw sb_M_0_0_36 (c_X9_within hwp) (va_cwS 3 C.2.2.2.2.1 gX9_call_X9_within rfl rfl rfl hd_X9_within ⟨Nat.le_of_ble_eq_true rfl, Nat.le_of_ble_eq_true rfl⟩) rfl rfl rfl hl dX9_call_15 ⟨Nat.zero_le _, Nat.zero_le _⟩) (fun r H locs hwp hw => ?_)
    obtain ⟨ra, hT, hF⟩ := hwp
    refine r_if_eq C (tgt := 33) dX9_call_18 rfl ra (fun hc => ?_) (fun hc => ?_)
    · have hwp := hT hc
      refine r_bipush C dX9_call_33 bpb_m2 ?_
      exact hR _ _ _ _ _ _ dX9_call_35 trivial hwp hw
    · have hwp := hF hc
      refine r_aload_n C dX9_call_21 hl rfl ?_
      refine r_bipush C dX9_call_22 bpb_24 ?_
      refine r_iload_n C dX9_call_24 hl rfl ?_
      refine r_iadd C dX9_call_25 ?_
      refine r_iload_n C dX9_call_26 hl rfl ?_
      refine r_cI0 hA hw (run_v0 C hw clX9 rfl (c_X9_becomes hwp) (cwV 2 C.2.2.2.2.1 gX9_call_X9_becomes rfl rfl rfl hd_X9_becomes ⟨Nat.le_of_ble_eq_true rfl, Nat.le_of_ble_eq_true rfl⟩) rfl rfl rfl hl dX9_call_27 ⟨Nat.zero_le _, Nat.zero_le _⟩) (fun r σ H locs hwp hw => ?_)
      refine r_goto C (tgt := 35) dX9_call_30 rfl ?_
      exact hR _ _ _ _ _ _ dX9_call_35 trivial hwp hw
  · have hwp := hF hc
    refine r_const C dX9_call_10 ?_
    exact hR _ _ _ _ _ _ dX9_call_11 trivial hwp hw
set_option maxRecDepth 100000 in
theorem c_X9_call {l : Launch} {D : va_G} {cA : FieldType → ClassId} {h : Nat → Nat} {σ : St} {sz : Nat} {v1 v2 : Int} {post : Int → St → Prop} (hwp : wp_X9_call σ v1 v2 post) : Met l yX9_call wsX9_call rm_X9_call (va_Pc [.ref (h 0), iv v1, iv v2] (preS D cA K_M h σ sz)) (QI D cA K_M h sz post) 0 0 (aA K_M.length h sz) := by
  refine mk_met (cc := cX9_call) (nL := 3) (ret := (some .int)) (own := RX9) 0 (by decide) rfl rfl rfl rfl ?_
  intro p e s m args below meth c ls hsz C hw hl hA
  subst hsz
  exact b_X9_call_0 C hA (rt_i C _) hwp hw hl
-- X9_leads
def rm_X9_leads : Room := { frames := 1, cells := 0, slots := 0, locals := 23 }
set_option maxRecDepth 100000 in
theorem b_X9_leads_0 {post : Int → St → Prop} (C : cx p s m args meth c wsX9_leads RX9 cX9_leads 2 (some .int) D cA) (hA : ∀ q, s.heap.size ≤ q → A q) (hR : RtI p l e rm_X9_leads s m args below meth c Q cX9_leads D cA K_M h A (fun _ => True) post) : ∀ {v1 : Int} {σ : St} {H : Heap} {locs : List Loc} {ls : Array Slot}, wp_X9_leads σ v1 post → wd D cA K_M h σ A s.heap H locs → lh ls 2 [some (.ref (h 0)), some (iv v1)] → W p l e rm_X9_leads s m args below meth c H locs 0 0 Q (F0 m 0 ls []) := by
  intro v1 σ H locs ls hwp hw hl
  refine r_iload_n C dX9_leads_0 hl rfl ?_
  refine r_const C dX9_leads_1 ?_
  refine r_bipush C dX9_leads_2 bpb_12 ?_
  refine r_cIr hA hw sb_M_0_0_36 (run_s C hw sb_M_0_0_36 (c_X9_within hwp) (va_cwS 3 C.2.2.2.2.1 gX9_leads_X9_within rfl rfl rfl hd_X9_within ⟨Nat.le_of_ble_eq_true rfl, Nat.le_of_ble_eq_true rfl⟩) rfl rfl rfl hl dX9_leads_4 ⟨Nat.zero_le _, Nat.zero_le _⟩) (fun r H locs hwp hw => ?_)
  obtain ⟨ra, hT, hF⟩ := hwp
  refine r_if_eq C (tgt := 19) dX9_leads_7 rfl ra (fun hc => ?_) (fun hc => ?_)
  · have hwp := hT hc
    refine r_bipush C dX9_leads_19 bpb_m2 ?_
    exact hR _ _ _ _ _ _ dX9_leads_21 trivial hwp hw
  · have hwp := hF hc
    refine r_aload_n C dX9_leads_10 hl rfl ?_
    refine r_const C dX9_leads_11 ?_
    refine r_iload_n C dX9_leads_12 hl rfl ?_
    refine r_cI0 hA hw (run_v0 C hw clX9 rfl (c_X9_becomes hwp) (cwV 2 C.2.2.2.2.1 gX9_leads_X9_becomes rfl rfl rfl hd_X9_becomes ⟨Nat.le_of_ble_eq_true rfl, Nat.le_of_ble_eq_true rfl⟩) rfl rfl rfl hl dX9_leads_13 ⟨Nat.zero_le _, Nat.zero_le _⟩) (fun r σ H locs hwp hw => ?_)
    refine r_goto C (tgt := 21) dX9_leads_16 rfl ?_
    exact hR _ _ _ _ _ _ dX9_leads_21 trivial hwp hw
set_option maxRecDepth 100000 in
theorem c_X9_leads {l : Launch} {D : va_G} {cA : FieldType → ClassId} {h : Nat → Nat} {σ : St} {sz : Nat} {v1 : Int} {post : Int → St → Prop} (hwp : wp_X9_leads σ v1 post) : Met l yX9_leads wsX9_leads rm_X9_leads (va_Pc [.ref (h 0), iv v1] (preS D cA K_M h σ sz)) (QI D cA K_M h sz post) 0 0 (aA K_M.length h sz) := by
  refine mk_met (cc := cX9_leads) (nL := 2) (ret := (some .int)) (own := RX9) 0 (by decide) rfl rfl rfl rfl ?_
  intro p e s m args below meth c ls hsz C hw hl hA
  subst hsz
  exact b_X9_leads_0 C hA (rt_i C _) hwp hw hl
-- X9_pattern
def rm_X9_pattern : Room := { frames := 1, cells := 0, slots := 0, locals := 23 }
set_option maxRecDepth 100000 in
theorem b_X9_pattern_0 {post : Int → St → Prop} (C : cx p s m args meth c wsX9_pattern RX9 cX9_pattern 3 (some .int) D cA) (hA : ∀ q, s.heap.size ≤ q → A q) (hR : RtI p l e rm_X9_pattern s m args below meth c Q cX9_pattern D cA K_M h A (fun _ => True) post) : ∀ {v1 v2 : Int} {σ : St} {H : Heap} {locs : List Loc} {ls : Array Slot}, wp_X9_pattern σ v1 v2 post → wd D cA K_M h σ A s.heap H locs → lh ls 3 [some (.ref (h 0)), some (iv v1), some (iv v2)] → W p l e rm_X9_pattern s m args below meth c H locs 0 0 Q (F0 m 0 ls []) := by
  intro v1 v2 σ H locs ls hwp hw hl
  refine r_iload_n C dX9_pattern_0 hl rfl ?_
  refine r_const C dX9_pattern_1 ?_
  refine r_bipush C dX9_pattern_2 bpb_8 ?_
  refine r_cIr hA hw sb_M_0_0_36 (run_s C hw sb_M_0_0_36 (c_X9_within hwp) (va_cwS 3 C.2.2.2.2.1 gX9_pattern_X9_within rfl rfl rfl hd_X9_within ⟨Nat.le_of_ble_eq_true rfl, Nat.le_of_ble_eq_true rfl⟩) rfl rfl rfl hl dX9_pattern_4 ⟨Nat.zero_le _, Nat.zero_le _⟩) (fun r H locs hwp hw => ?_)
  obtain ⟨ra, hT, hF⟩ := hwp
  refine r_if_ne C (tgt := 12) dX9_pattern_7 rfl ra (fun hc => ?_) (fun hc => ?_)
  · have hwp := hT hc
    refine r_iload_n C dX9_pattern_12 hl rfl ?_
    refine r_const C dX9_pattern_13 ?_
    refine r_bipush C dX9_pattern_14 bpb_8 ?_
    refine r_cIr hA hw sb_M_0_0_36 (run_s C hw sb_M_0_0_36 (c_X9_within hwp) (va_cwS 3 C.2.2.2.2.1 gX9_pattern_X9_within rfl rfl rfl hd_X9_within ⟨Nat.le_of_ble_eq_true rfl, Nat.le_of_ble_eq_true rfl⟩) rfl rfl rfl hl dX9_pattern_16 ⟨Nat.zero_le _, Nat.zero_le _⟩) (fun r H locs hwp hw => ?_)
    obtain ⟨ra, hT, hF⟩ := hwp
    refine r_if_eq C (tgt := 36) dX9_pattern_19 rfl ra (fun hc => ?_) (fun hc => ?_)
    · have hwp := hT hc
      refine r_bipush C dX9_pattern_36 bpb_m2 ?_
      exact hR _ _ _ _ _ _ dX9_pattern_38 trivial hwp hw
    · have hwp := hF hc
      refine r_aload_n C dX9_pattern_22 hl rfl ?_
      refine r_bipush C dX9_pattern_23 bpb_36 ?_
      refine r_iload_n C dX9_pattern_25 hl rfl ?_
      refine r_iadd C dX9_pattern_26 ?_
      refine r_const C dX9_pattern_27 ?_
      refine r_isub C dX9_pattern_28 ?_
      refine r_iload_n C dX9_pattern_29 hl rfl ?_
      refine r_cI0 hA hw (run_v0 C hw clX9 rfl (c_X9_becomes hwp) (cwV 2 C.2.2.2.2.1 gX9_pattern_X9_becomes rfl rfl rfl hd_X9_becomes ⟨Nat.le_of_ble_eq_true rfl, Nat.le_of_ble_eq_true rfl⟩) rfl rfl rfl hl dX9_pattern_30 ⟨Nat.zero_le _, Nat.zero_le _⟩) (fun r σ H locs hwp hw => ?_)
      refine r_goto C (tgt := 38) dX9_pattern_33 rfl ?_
      exact hR _ _ _ _ _ _ dX9_pattern_38 trivial hwp hw
  · have hwp := hF hc
    refine r_const C dX9_pattern_10 ?_
    exact hR _ _ _ _ _ _ dX9_pattern_11 trivial hwp hw
set_option maxRecDepth 100000 in
theorem c_X9_pattern {l : Launch} {D : va_G} {cA : FieldType → ClassId} {h : Nat → Nat} {σ : St} {sz : Nat} {v1 v2 : Int} {post : Int → St → Prop} (hwp : wp_X9_pattern σ v1 v2 post) : Met l yX9_pattern wsX9_pattern rm_X9_pattern (va_Pc [.ref (h 0), iv v1, iv v2] (preS D cA K_M h σ sz)) (QI D cA K_M h sz post) 0 0 (aA K_M.length h sz) := by
  refine mk_met (cc := cX9_pattern) (nL := 3) (ret := (some .int)) (own := RX9) 0 (by decide) rfl rfl rfl rfl ?_
  intro p e s m args below meth c ls hsz C hw hl hA
  subst hsz
  exact b_X9_pattern_0 C hA (rt_i C _) hwp hw hl
-- X9_feed
theorem hi_X9_feed_X9 : ∀ w ∈ u_ws RX9 TX9 20, w ∈ wsX9_feed := by decide +kernel
theorem hf_X9_feed_71 : Cond.fieldLink RX9 71 (TX9 6).1 (TX9 6).2.1 (TX9 6).2.2.1 ∈ wsX9_feed := by decide +kernel
theorem hf_X9_feed_24 : Cond.fieldLink RX9 24 (TX9 7).1 (TX9 7).2.1 (TX9 7).2.2.1 ∈ wsX9_feed := by decide +kernel
def rm_X9_feed : Room := { frames := 1, cells := 0, slots := 0, locals := 22 }
set_option maxRecDepth 100000 in
theorem b_X9_feed_0 {post : Int → St → Prop} (C : cx p s m args meth c wsX9_feed RX9 cX9_feed 2 (some .int) D cA) (hA : ∀ q, s.heap.size ≤ q → A q) (hR : RtI p l e rm_X9_feed s m args below meth c Q cX9_feed D cA K_M h A (fun _ => True) post) : ∀ {v1 : Int} {σ : St} {H : Heap} {locs : List Loc} {ls : Array Slot}, wp_X9_feed σ v1 post → wd D cA K_M h σ A s.heap H locs → lh ls 2 [some (.ref (h 0)), some (iv v1)] → W p l e rm_X9_feed s m args below meth c H locs 0 0 Q (F0 m 0 ls []) := by
  intro v1 σ H locs ls hwp hw hl
  refine r_iload_n C dX9_feed_0 hl rfl ?_
  refine r_const C dX9_feed_1 ?_
  refine r_bipush C dX9_feed_2 bpb_127 ?_
  refine r_cIr hA hw sb_M_0_0_36 (run_s C hw sb_M_0_0_36 (c_X9_within hwp) (va_cwS 3 C.2.2.2.2.1 gX9_feed_X9_within rfl rfl rfl hd_X9_within ⟨Nat.le_of_ble_eq_true rfl, Nat.le_of_ble_eq_true rfl⟩) rfl rfl rfl hl dX9_feed_4 ⟨Nat.zero_le _, Nat.zero_le _⟩) (fun r H locs hwp hw => ?_)
  obtain ⟨ra, hT, hF⟩ := hwp
  refine r_if_ne C (tgt := 13) dX9_feed_7 rfl ra (fun hc => ?_) (fun hc => ?_)
  · have hwp := hT hc
    refine r_aload_n C dX9_feed_13 hl rfl ?_
    refine r_get C hw clX9 0 rfl 6 6 rfl rfl (Nat.le_of_ble_eq_true rfl) hi_X9_feed_X9 hf_X9_feed_71 dX9_feed_14 ?_
    refine r_bipush C dX9_feed_17 bpb_100 ?_
    obtain ⟨ra, hT, hF⟩ := hwp
    refine r_icmp_ne C (tgt := 25) dX9_feed_19 rfl ra (by decide) (fun hc => ?_) (fun hc => ?_)
    · have hwp := hT hc
      refine r_aload_n C dX9_feed_25 hl rfl ?_
      refine r_getr C hw clX9 0 rfl 7 5 rfl (Nat.le_of_ble_eq_true rfl) hi_X9_feed_X9 hf_X9_feed_24 dX9_feed_26 ?_
      refine r_aload_n C dX9_feed_29 hl rfl ?_
      refine r_dup C dX9_feed_30 rfl ?_
      refine r_get C hw clX9 0 rfl 6 6 rfl rfl (Nat.le_of_ble_eq_true rfl) hi_X9_feed_X9 hf_X9_feed_71 dX9_feed_31 ?_
      refine r_dup_x1 C dX9_feed_34 rfl rfl ?_
      refine r_const C dX9_feed_35 ?_
      refine r_iadd C dX9_feed_36 ?_
      refine r_put C hw clX9 0 rfl 6 6 rfl rfl (Nat.le_of_ble_eq_true rfl) hi_X9_feed_X9 hf_X9_feed_71 rfl ⟨nar_i _, fit_i _⟩ dX9_feed_37 (fun H locs hw => ?_)
      have hwp := hwp _ rfl
      refine r_iload_n C dX9_feed_40 hl rfl ?_
      obtain ⟨h0, h1, hwp⟩ := hwp
      refine r_iast C hw 5 rfl rfl h0 h1 dX9_feed_41 (fun H locs hw => ?_)
      have hwp := hwp _ rfl
      refine r_aload_n C dX9_feed_42 hl rfl ?_
      refine r_get C hw clX9 0 rfl 6 6 rfl rfl (Nat.le_of_ble_eq_true rfl) hi_X9_feed_X9 hf_X9_feed_71 dX9_feed_43 ?_
      exact hR _ _ _ _ _ _ dX9_feed_46 trivial hwp hw
    · have hwp := hF hc
      refine r_bipush C dX9_feed_22 bpb_m4 ?_
      exact hR _ _ _ _ _ _ dX9_feed_24 trivial hwp hw
  · have hwp := hF hc
    refine r_bipush C dX9_feed_10 bpb_m2 ?_
    exact hR _ _ _ _ _ _ dX9_feed_12 trivial hwp hw
set_option maxRecDepth 100000 in
theorem c_X9_feed {l : Launch} {D : va_G} {cA : FieldType → ClassId} {h : Nat → Nat} {σ : St} {sz : Nat} {v1 : Int} {post : Int → St → Prop} (hwp : wp_X9_feed σ v1 post) : Met l yX9_feed wsX9_feed rm_X9_feed (va_Pc [.ref (h 0), iv v1] (preS D cA K_M h σ sz)) (QI D cA K_M h sz post) 0 0 (aA K_M.length h sz) := by
  refine mk_met (cc := cX9_feed) (nL := 2) (ret := (some .int)) (own := RX9) 0 (by decide) rfl rfl rfl rfl ?_
  intro p e s m args below meth c ls hsz C hw hl hA
  subst hsz
  exact b_X9_feed_0 C hA (rt_i C _) hwp hw hl
-- X9_sign
theorem hi_X9_sign_X9 : ∀ w ∈ u_ws RX9 TX9 20, w ∈ wsX9_sign := by decide +kernel
theorem hf_X9_sign_71 : Cond.fieldLink RX9 71 (TX9 6).1 (TX9 6).2.1 (TX9 6).2.2.1 ∈ wsX9_sign := by decide +kernel
theorem hf_X9_sign_24 : Cond.fieldLink RX9 24 (TX9 7).1 (TX9 7).2.1 (TX9 7).2.2.1 ∈ wsX9_sign := by decide +kernel
theorem hf_X9_sign_75 : Cond.fieldLink RX9 75 (TX9 8).1 (TX9 8).2.1 (TX9 8).2.2.1 ∈ wsX9_sign := by decide +kernel
def rm_X9_sign : Room := { frames := 0, cells := 0, slots := 0, locals := 0 }
set_option maxRecDepth 100000 in
theorem b_X9_sign_0 {σ : St} {post : Int → Prop} (C : cx p s m args meth c wsX9_sign RX9 cX9_sign 1 (some .int) D cA) (hA : ∀ q, s.heap.size ≤ q → A q) (hR : RtI p l e rm_X9_sign s m args below meth c Q cX9_sign D cA K_M h A (fun _ => True) (fun r σ' => σ' = σ ∧ post r)) : ∀ {H : Heap} {locs : List Loc} {ls : Array Slot}, wp_X9_sign σ post → wd D cA K_M h σ A s.heap H locs → lh ls 1 [some (.ref (h 0))] → W p l e rm_X9_sign s m args below meth c H locs 0 0 Q (F0 m 0 ls []) := by
  intro H locs ls hwp hw hl
  refine r_aload_n C dX9_sign_0 hl rfl ?_
  refine r_get C hw clX9 0 rfl 8 8 rfl rfl (Nat.le_of_ble_eq_true rfl) hi_X9_sign_X9 hf_X9_sign_75 dX9_sign_1 ?_
  refine r_aload_n C dX9_sign_4 hl rfl ?_
  refine r_get C hw clX9 0 rfl 6 6 rfl rfl (Nat.le_of_ble_eq_true rfl) hi_X9_sign_X9 hf_X9_sign_71 dX9_sign_5 ?_
  obtain ⟨ra, rb, hT, hF⟩ := hwp
  refine r_icmp_ge C (tgt := 23) dX9_sign_8 rfl ra rb (fun hc => ?_) (fun hc => ?_)
  · have hwp := hT hc
    refine r_const C dX9_sign_23 ?_
    exact hR _ _ _ _ _ _ dX9_sign_24 trivial ⟨rfl, hwp⟩ hw
  · have hwp := hF hc
    refine r_aload_n C dX9_sign_11 hl rfl ?_
    refine r_getr C hw clX9 0 rfl 7 5 rfl (Nat.le_of_ble_eq_true rfl) hi_X9_sign_X9 hf_X9_sign_24 dX9_sign_12 ?_
    refine r_aload_n C dX9_sign_15 hl rfl ?_
    refine r_get C hw clX9 0 rfl 8 8 rfl rfl (Nat.le_of_ble_eq_true rfl) hi_X9_sign_X9 hf_X9_sign_75 dX9_sign_16 ?_
    obtain ⟨h0, h1, hwp⟩ := hwp
    refine r_iald C hw 5 rfl rfl h0 h1 dX9_sign_19 ?_
    refine r_goto C (tgt := 24) dX9_sign_20 rfl ?_
    exact hR _ _ _ _ _ _ dX9_sign_24 trivial ⟨rfl, hwp⟩ hw
set_option maxRecDepth 100000 in
theorem c_X9_sign {l : Launch} {D : va_G} {cA : FieldType → ClassId} {h : Nat → Nat} {σ : St} {sz : Nat} {post : Int → Prop} (hwp : wp_X9_sign σ post) : Met l yX9_sign wsX9_sign rm_X9_sign (va_Pc [.ref (h 0)] (preS D cA K_M h σ sz)) (QI D cA K_M h sz (fun r σ' => σ' = σ ∧ post r)) 0 0 (aA K_M.length h sz) := by
  refine mk_met (cc := cX9_sign) (nL := 1) (ret := (some .int)) (own := RX9) 0 (by decide) rfl rfl rfl rfl ?_
  intro p e s m args below meth c ls hsz C hw hl hA
  subst hsz
  exact b_X9_sign_0 C hA (rt_i C _) hwp hw hl
-- X9_wrong
theorem hi_X9_wrong_X9 : ∀ w ∈ u_ws RX9 TX9 20, w ∈ wsX9_wrong := by decide +kernel
theorem hf_X9_wrong_75 : Cond.fieldLink RX9 75 (TX9 8).1 (TX9 8).2.1 (TX9 8).2.2.1 ∈ wsX9_wrong := by decide +kernel
theorem hf_X9_wrong_78 : Cond.fieldLink RX9 78 (TX9 9).1 (TX9 9).2.1 (TX9 9).2.2.1 ∈ wsX9_wrong := by decide +kernel
def rm_X9_wrong : Room := { frames := 0, cells := 0, slots := 0, locals := 0 }
set_option maxRecDepth 100000 in
theorem b_X9_wrong_0 {post : St → Prop} (C : cx p s m args meth c wsX9_wrong RX9 cX9_wrong 1 none D cA) (hA : ∀ q, s.heap.size ≤ q → A q) (hR : RtV p l e rm_X9_wrong s m args below meth c Q cX9_wrong D cA K_M h A post) : ∀ {σ : St} {H : Heap} {locs : List Loc} {ls : Array Slot}, wp_X9_wrong σ post → wd D cA K_M h σ A s.heap H locs → lh ls 1 [some (.ref (h 0))] → W p l e rm_X9_wrong s m args below meth c H locs 0 0 Q (F0 m 0 ls []) := by
  intro σ H locs ls hwp hw hl
  refine r_aload_n C dX9_wrong_0 hl rfl ?_
  refine r_get C hw clX9 0 rfl 9 9 rfl rfl (Nat.le_of_ble_eq_true rfl) hi_X9_wrong_X9 hf_X9_wrong_78 dX9_wrong_1 ?_
  obtain ⟨ra, hT, hF⟩ := hwp
  refine r_if_ge C (tgt := 15) dX9_wrong_4 rfl ra (fun hc => ?_) (fun hc => ?_)
  · have hwp := hT hc
    exact hR _ _ _ _ _ dX9_wrong_15 hwp hw
  · have hwp := hF hc
    refine r_aload_n C dX9_wrong_7 hl rfl ?_
    refine r_aload_n C dX9_wrong_8 hl rfl ?_
    refine r_get C hw clX9 0 rfl 8 8 rfl rfl (Nat.le_of_ble_eq_true rfl) hi_X9_wrong_X9 hf_X9_wrong_75 dX9_wrong_9 ?_
    refine r_put C hw clX9 0 rfl 9 9 rfl rfl (Nat.le_of_ble_eq_true rfl) hi_X9_wrong_X9 hf_X9_wrong_78 rfl ⟨nar_i _, fit_i _⟩ dX9_wrong_12 (fun H locs hw => ?_)
    have hwp := hwp _ rfl
    exact hR _ _ _ _ _ dX9_wrong_15 hwp hw
set_option maxRecDepth 100000 in
theorem c_X9_wrong {l : Launch} {D : va_G} {cA : FieldType → ClassId} {h : Nat → Nat} {σ : St} {sz : Nat} {post : St → Prop} (hwp : wp_X9_wrong σ post) : Met l yX9_wrong wsX9_wrong rm_X9_wrong (va_Pc [.ref (h 0)] (preS D cA K_M h σ sz)) (QV D cA K_M h sz post) 0 0 (aA K_M.length h sz) := by
  refine mk_met (cc := cX9_wrong) (nL := 1) (ret := none) (own := RX9) 0 (by decide) rfl rfl rfl rfl ?_
  intro p e s m args below meth c ls hsz C hw hl hA
  subst hsz
  exact b_X9_wrong_0 C hA (rt_v C _) hwp hw hl
-- X9_adds
theorem hi_X9_adds_X9 : ∀ w ∈ u_ws RX9 TX9 20, w ∈ wsX9_adds := by decide +kernel
theorem hf_X9_adds_84 : Cond.fieldLink RX9 84 (TX9 10).1 (TX9 10).2.1 (TX9 10).2.2.1 ∈ wsX9_adds := by decide +kernel
theorem hf_X9_adds_33 : Cond.fieldLink RX9 33 (TX9 13).1 (TX9 13).2.1 (TX9 13).2.2.1 ∈ wsX9_adds := by decide +kernel
theorem hf_X9_adds_81 : Cond.fieldLink RX9 81 (TX9 14).1 (TX9 14).2.1 (TX9 14).2.2.1 ∈ wsX9_adds := by decide +kernel
theorem hf_X9_adds_36 : Cond.fieldLink RX9 36 (TX9 15).1 (TX9 15).2.1 (TX9 15).2.2.1 ∈ wsX9_adds := by decide +kernel
def rm_X9_adds : Room := { frames := 0, cells := 0, slots := 0, locals := 0 }
set_option maxRecDepth 100000 in
theorem b_X9_adds_0 {post : St → Prop} (C : cx p s m args meth c wsX9_adds RX9 cX9_adds 2 none D cA) (hA : ∀ q, s.heap.size ≤ q → A q) (hR : RtV p l e rm_X9_adds s m args below meth c Q cX9_adds D cA K_M h A post) : ∀ {v1 : Int} {σ : St} {H : Heap} {locs : List Loc} {ls : Array Slot}, wp_X9_adds σ v1 post → wd D cA K_M h σ A s.heap H locs → lh ls 2 [some (.ref (h 0)), some (iv v1)] → W p l e rm_X9_adds s m args below meth c H locs 0 0 Q (F0 m 0 ls []) := by
  intro v1 σ H locs ls hwp hw hl
  refine r_aload_n C dX9_adds_0 hl rfl ?_
  refine r_getr C hw clX9 0 rfl 15 9 rfl (Nat.le_of_ble_eq_true rfl) hi_X9_adds_X9 hf_X9_adds_36 dX9_adds_1 ?_
  refine r_aload_n C dX9_adds_4 hl rfl ?_
  refine r_dup C dX9_adds_5 rfl ?_
  refine r_get C hw clX9 0 rfl 14 14 rfl rfl (Nat.le_of_ble_eq_true rfl) hi_X9_adds_X9 hf_X9_adds_81 dX9_adds_6 ?_
  refine r_dup_x1 C dX9_adds_9 rfl rfl ?_
  refine r_const C dX9_adds_10 ?_
  refine r_iadd C dX9_adds_11 ?_
  refine r_put C hw clX9 0 rfl 14 14 rfl rfl (Nat.le_of_ble_eq_true rfl) hi_X9_adds_X9 hf_X9_adds_81 rfl ⟨nar_i _, fit_i _⟩ dX9_adds_12 (fun H locs hw => ?_)
  have hwp := hwp _ rfl
  refine r_iload_n C dX9_adds_15 hl rfl ?_
  obtain ⟨h0, h1, hwp⟩ := hwp
  refine r_iast C hw 9 rfl rfl h0 h1 dX9_adds_16 (fun H locs hw => ?_)
  have hwp := hwp _ rfl
  refine r_aload_n C dX9_adds_17 hl rfl ?_
  refine r_getr C hw clX9 0 rfl 13 8 rfl (Nat.le_of_ble_eq_true rfl) hi_X9_adds_X9 hf_X9_adds_33 dX9_adds_18 ?_
  refine r_aload_n C dX9_adds_21 hl rfl ?_
  refine r_get C hw clX9 0 rfl 10 10 rfl rfl (Nat.le_of_ble_eq_true rfl) hi_X9_adds_X9 hf_X9_adds_84 dX9_adds_22 ?_
  refine r_dup2 C dX9_adds_25 rfl rfl ?_
  obtain ⟨h0, h1, hwp⟩ := hwp
  refine r_iald C hw 8 rfl rfl h0 h1 dX9_adds_26 ?_
  refine r_const C dX9_adds_27 ?_
  refine r_iadd C dX9_adds_28 ?_
  obtain ⟨h0, h1, hwp⟩ := hwp
  refine r_iast C hw 8 rfl rfl h0 h1 dX9_adds_29 (fun H locs hw => ?_)
  have hwp := hwp _ rfl
  exact hR _ _ _ _ _ dX9_adds_30 hwp hw
set_option maxRecDepth 100000 in
theorem c_X9_adds {l : Launch} {D : va_G} {cA : FieldType → ClassId} {h : Nat → Nat} {σ : St} {sz : Nat} {v1 : Int} {post : St → Prop} (hwp : wp_X9_adds σ v1 post) : Met l yX9_adds wsX9_adds rm_X9_adds (va_Pc [.ref (h 0), iv v1] (preS D cA K_M h σ sz)) (QV D cA K_M h sz post) 0 0 (aA K_M.length h sz) := by
  refine mk_met (cc := cX9_adds) (nL := 2) (ret := none) (own := RX9) 0 (by decide) rfl rfl rfl rfl ?_
  intro p e s m args below meth c ls hsz C hw hl hA
  subst hsz
  exact b_X9_adds_0 C hA (rt_v C _) hwp hw hl
-- X9_digits
theorem hi_X9_digits_X9 : ∀ w ∈ u_ws RX9 TX9 20, w ∈ wsX9_digits := by decide +kernel
theorem hf_X9_digits_75 : Cond.fieldLink RX9 75 (TX9 8).1 (TX9 8).2.1 (TX9 8).2.2.1 ∈ wsX9_digits := by decide +kernel
def rm_X9_digits : Room := { frames := 1, cells := 0, slots := 0, locals := 22 }
set_option maxRecDepth 100000 in
theorem b_X9_digits_52 {post : St → Prop} (C : cx p s m args meth c wsX9_digits RX9 cX9_digits 3 none D cA) (hA : ∀ q, s.heap.size ≤ q → A q) (hR : RtV p l e rm_X9_digits s m args below meth c Q cX9_digits D cA K_M h A post) : ∀ {v1 v2 : Int} {σ : St} {H : Heap} {locs : List Loc} {ls : Array Slot}, wp_X9_digits_52 post v1 v2 σ → wd D cA K_M h σ A s.heap H locs → lh ls 3 [some (.ref (h 0)), some (iv v1), some (iv v2)] → W p l e rm_X9_digits s m args below meth c H locs 0 0 Q (F0 m 52 ls []) := by
  intro v1 v2 σ H locs ls hwp hw hl
  refine r_iload_n C dX9_digits_52 hl rfl ?_
  obtain ⟨ra, hT, hF⟩ := hwp
  refine r_if_ne C (tgt := 63) dX9_digits_53 rfl ra (fun hc => ?_) (fun hc => ?_)
  · have hwp := hT hc
    refine r_aload_n C dX9_digits_63 hl rfl ?_
    refine r_iload_n C dX9_digits_64 hl rfl ?_
    refine r_cV0 hA hw (run_v0 C hw clX9 rfl (c_X9_adds hwp) (cwV 1 C.2.2.2.2.1 gX9_digits_X9_adds rfl rfl rfl hd_X9_adds ⟨Nat.le_of_ble_eq_true rfl, Nat.le_of_ble_eq_true rfl⟩) rfl rfl rfl hl dX9_digits_65 ⟨Nat.zero_le _, Nat.zero_le _⟩) (fun σ H locs hwp hw => ?_)
    exact hR _ _ _ _ _ dX9_digits_68 hwp hw
  · have hwp := hF hc
    refine r_aload_n C dX9_digits_56 hl rfl ?_
    refine r_cV0 hA hw (run_v0 C hw clX9 rfl (c_X9_wrong hwp) (cwV 0 C.2.2.2.2.1 gX9_digits_X9_wrong rfl rfl rfl hd_X9_wrong ⟨Nat.le_of_ble_eq_true rfl, Nat.le_of_ble_eq_true rfl⟩) rfl rfl rfl hl dX9_digits_57 ⟨Nat.zero_le _, Nat.zero_le _⟩) (fun σ H locs hwp hw => ?_)
    refine r_goto C (tgt := 68) dX9_digits_60 rfl ?_
    exact hR _ _ _ _ _ dX9_digits_68 hwp hw
set_option maxRecDepth 100000 in
theorem b_X9_digits_4 {post : St → Prop} (C : cx p s m args meth c wsX9_digits RX9 cX9_digits 3 none D cA) (hA : ∀ q, s.heap.size ≤ q → A q) (hR : RtV p l e rm_X9_digits s m args below meth c Q cX9_digits D cA K_M h A post) : ∀ (n : Nat) {v1 v2 : Int} {σ : St} {H : Heap} {locs : List Loc} {ls : Array Slot}, wp_X9_digits_4 post n v1 v2 σ → wd D cA K_M h σ A s.heap H locs → lh ls 3 [some (.ref (h 0)), some (iv v1), some (iv v2)] → W p l e rm_X9_digits s m args below meth c H locs 0 0 Q (F0 m 4 ls []) := by
  intro n; induction n with
  | zero => intros; rename_i hwp _ _; exact hwp.elim
  | succ n ih =>
    intro v1 v2 σ H locs ls hwp hw hl
    refine r_aload_n C dX9_digits_4 hl rfl ?_
    refine r_cIr0 hA hw (run_v0 C hw clX9 rfl (c_X9_sign hwp) (cwV 0 C.2.2.2.2.1 gX9_digits_X9_sign rfl rfl rfl hd_X9_sign ⟨Nat.le_of_ble_eq_true rfl, Nat.le_of_ble_eq_true rfl⟩) rfl rfl rfl hl dX9_digits_5 ⟨Nat.zero_le _, Nat.zero_le _⟩) (fun r H locs hwp hw => ?_)
    refine r_bipush C dX9_digits_8 bpb_49 ?_
    refine r_bipush C dX9_digits_10 bpb_56 ?_
    refine r_cIr hA hw sb_M_0_0_36 (run_s C hw sb_M_0_0_36 (c_X9_within hwp) (va_cwS 3 C.2.2.2.2.1 gX9_digits_X9_within rfl rfl rfl hd_X9_within ⟨Nat.le_of_ble_eq_true rfl, Nat.le_of_ble_eq_true rfl⟩) rfl rfl rfl hl dX9_digits_12 ⟨Nat.zero_le _, Nat.zero_le _⟩) (fun r H locs hwp hw => ?_)
    obtain ⟨ra, hT, hF⟩ := hwp
    refine r_if_eq C (tgt := 52) dX9_digits_15 rfl ra (fun hc => ?_) (fun hc => ?_)
    · have hwp := hT hc
      exact b_X9_digits_52 C hA hR hwp hw (lh_mask hl [true, true, true])
    · have hwp := hF hc
      refine r_iload_n C dX9_digits_18 hl rfl ?_
      refine r_bipush C dX9_digits_19 bpb_8 ?_
      obtain ⟨ra, hT, hF⟩ := hwp
      refine r_icmp_ge C (tgt := 52) dX9_digits_21 rfl ra (by decide) (fun hc => ?_) (fun hc => ?_)
      · have hwp := hT hc
        exact b_X9_digits_52 C hA hR hwp hw (lh_mask hl [true, true, true])
      · have hwp := hF hc
        refine r_iload_n C dX9_digits_24 hl rfl ?_
        refine r_const C dX9_digits_25 ?_
        refine r_aload_n C dX9_digits_26 hl rfl ?_
        refine r_cIr0 hA hw (run_v0 C hw clX9 rfl (c_X9_sign hwp) (cwV 0 C.2.2.2.2.1 gX9_digits_X9_sign rfl rfl rfl hd_X9_sign ⟨Nat.le_of_ble_eq_true rfl, Nat.le_of_ble_eq_true rfl⟩) rfl rfl rfl hl dX9_digits_27 ⟨Nat.zero_le _, Nat.zero_le _⟩) (fun r H locs hwp hw => ?_)
        refine r_bipush C dX9_digits_30 bpb_49 ?_
        refine r_isub C dX9_digits_32 ?_
        refine r_ishl C dX9_digits_33 ?_
        refine r_ior C dX9_digits_34 ?_
        refine r_istore_n C dX9_digits_35 hl (Nat.le_of_ble_eq_true rfl) (Nat.le_of_ble_eq_true rfl) rfl (fun ls hl => ?_)
        refine r_aload_n C dX9_digits_36 hl rfl ?_
        refine r_dup C dX9_digits_37 rfl ?_
        refine r_get C hw clX9 0 rfl 8 8 rfl rfl (Nat.le_of_ble_eq_true rfl) hi_X9_digits_X9 hf_X9_digits_75 dX9_digits_38 ?_
        refine r_const C dX9_digits_41 ?_
        refine r_iadd C dX9_digits_42 ?_
        refine r_put C hw clX9 0 rfl 8 8 rfl rfl (Nat.le_of_ble_eq_true rfl) hi_X9_digits_X9 hf_X9_digits_75 rfl ⟨nar_i _, fit_i _⟩ dX9_digits_43 (fun H locs hw => ?_)
        have hwp := hwp _ rfl
        refine r_iinc C dX9_digits_46 hl rfl (Nat.le_of_ble_eq_true rfl) rfl (fun ls hl => ?_)
        refine r_goto C (tgt := 4) dX9_digits_49 rfl ?_
        exact ih hwp hw (lh_mask hl [true, true, true])
set_option maxRecDepth 100000 in
theorem b_X9_digits_0 {post : St → Prop} (C : cx p s m args meth c wsX9_digits RX9 cX9_digits 3 none D cA) (hA : ∀ q, s.heap.size ≤ q → A q) (hR : RtV p l e rm_X9_digits s m args below meth c Q cX9_digits D cA K_M h A post) : ∀ {σ : St} {H : Heap} {locs : List Loc} {ls : Array Slot}, wp_X9_digits σ post → wd D cA K_M h σ A s.heap H locs → lh ls 3 [some (.ref (h 0)), none, none] → W p l e rm_X9_digits s m args below meth c H locs 0 0 Q (F0 m 0 ls []) := by
  intro σ H locs ls hwp hw hl
  refine r_const C dX9_digits_0 ?_
  refine r_istore_n C dX9_digits_1 hl (Nat.le_of_ble_eq_true rfl) (Nat.le_of_ble_eq_true rfl) rfl (fun ls hl => ?_)
  refine r_const C dX9_digits_2 ?_
  refine r_istore_n C dX9_digits_3 hl (Nat.le_of_ble_eq_true rfl) (Nat.le_of_ble_eq_true rfl) rfl (fun ls hl => ?_)
  obtain ⟨n9, hwp⟩ := hwp
  exact b_X9_digits_4 C hA hR n9 hwp hw (lh_mask hl [true, true, true])
set_option maxRecDepth 100000 in
theorem c_X9_digits {l : Launch} {D : va_G} {cA : FieldType → ClassId} {h : Nat → Nat} {σ : St} {sz : Nat} {post : St → Prop} (hwp : wp_X9_digits σ post) : Met l yX9_digits wsX9_digits rm_X9_digits (va_Pc [.ref (h 0)] (preS D cA K_M h σ sz)) (QV D cA K_M h sz post) 0 0 (aA K_M.length h sz) := by
  refine mk_met (cc := cX9_digits) (nL := 3) (ret := none) (own := RX9) 2 (by decide) rfl rfl rfl rfl ?_
  intro p e s m args below meth c ls hsz C hw hl hA
  subst hsz
  exact b_X9_digits_0 C hA (rt_v C _) hwp hw hl
-- X9_word
theorem hi_X9_word_X9 : ∀ w ∈ u_ws RX9 TX9 20, w ∈ wsX9_word := by decide +kernel
theorem hf_X9_word_75 : Cond.fieldLink RX9 75 (TX9 8).1 (TX9 8).2.1 (TX9 8).2.2.1 ∈ wsX9_word := by decide +kernel
def rm_X9_word : Room := { frames := 2, cells := 0, slots := 0, locals := 44 }
set_option maxRecDepth 100000 in
theorem b_X9_word_0 {post : Int → St → Prop} (C : cx p s m args meth c wsX9_word RX9 cX9_word 1 (some .boolean) D cA) (hA : ∀ q, s.heap.size ≤ q → A q) (hR : RtI p l e rm_X9_word s m args below meth c Q cX9_word D cA K_M h A (fun x => x = 0 ∨ x = 1) post) : ∀ {σ : St} {H : Heap} {locs : List Loc} {ls : Array Slot}, wp_X9_word σ post → wd D cA K_M h σ A s.heap H locs → lh ls 1 [some (.ref (h 0))] → W p l e rm_X9_word s m args below meth c H locs 0 0 Q (F0 m 0 ls []) := by
  intro σ H locs ls hwp hw hl
  refine r_aload_n C dX9_word_0 hl rfl ?_
  refine r_cIr0 hA hw (run_v0 C hw clX9 rfl (c_X9_sign hwp) (cwV 0 C.2.2.2.2.1 gX9_word_X9_sign rfl rfl rfl hd_X9_sign ⟨Nat.le_of_ble_eq_true rfl, Nat.le_of_ble_eq_true rfl⟩) rfl rfl rfl hl dX9_word_1 ⟨Nat.zero_le _, Nat.zero_le _⟩) (fun r H locs hwp hw => ?_)
  refine r_bipush C dX9_word_4 bpb_120 ?_
  obtain ⟨ra, hT, hF⟩ := hwp
  refine r_icmp_ne C (tgt := 26) dX9_word_6 rfl ra (by decide) (fun hc => ?_) (fun hc => ?_)
  · have hwp := hT hc
    refine r_aload_n C dX9_word_26 hl rfl ?_
    refine r_cV0 hA hw (run_v0 C hw clX9 rfl (c_X9_digits hwp) (cwV 0 C.2.2.2.2.1 gX9_word_X9_digits rfl rfl rfl hd_X9_digits ⟨Nat.le_of_ble_eq_true rfl, Nat.le_of_ble_eq_true rfl⟩) rfl rfl rfl hl dX9_word_27 ⟨Nat.zero_le _, Nat.zero_le _⟩) (fun σ H locs hwp hw => ?_)
    refine r_const C dX9_word_30 ?_
    exact hR _ _ _ _ _ _ dX9_word_31 (Or.inl rfl) hwp hw
  · have hwp := hF hc
    refine r_aload_n C dX9_word_9 hl rfl ?_
    refine r_dup C dX9_word_10 rfl ?_
    refine r_get C hw clX9 0 rfl 8 8 rfl rfl (Nat.le_of_ble_eq_true rfl) hi_X9_word_X9 hf_X9_word_75 dX9_word_11 ?_
    refine r_const C dX9_word_14 ?_
    refine r_iadd C dX9_word_15 ?_
    refine r_put C hw clX9 0 rfl 8 8 rfl rfl (Nat.le_of_ble_eq_true rfl) hi_X9_word_X9 hf_X9_word_75 rfl ⟨nar_i _, fit_i _⟩ dX9_word_16 (fun H locs hw => ?_)
    have hwp := hwp _ rfl
    refine r_aload_n C dX9_word_19 hl rfl ?_
    refine r_const C dX9_word_20 ?_
    refine r_cV0 hA hw (run_v0 C hw clX9 rfl (c_X9_adds hwp) (cwV 1 C.2.2.2.2.1 gX9_word_X9_adds rfl rfl rfl hd_X9_adds ⟨Nat.le_of_ble_eq_true rfl, Nat.le_of_ble_eq_true rfl⟩) rfl rfl rfl hl dX9_word_21 ⟨Nat.zero_le _, Nat.zero_le _⟩) (fun σ H locs hwp hw => ?_)
    refine r_const C dX9_word_24 ?_
    exact hR _ _ _ _ _ _ dX9_word_25 (Or.inr rfl) hwp hw
set_option maxRecDepth 100000 in
theorem c_X9_word {l : Launch} {D : va_G} {cA : FieldType → ClassId} {h : Nat → Nat} {σ : St} {sz : Nat} {post : Int → St → Prop} (hwp : wp_X9_word σ post) : Met l yX9_word wsX9_word rm_X9_word (va_Pc [.ref (h 0)] (preS D cA K_M h σ sz)) (QI D cA K_M h sz post) 0 0 (aA K_M.length h sz) := by
  refine mk_met (cc := cX9_word) (nL := 1) (ret := (some .boolean)) (own := RX9) 0 (by decide) rfl rfl rfl rfl ?_
  intro p e s m args below meth c ls hsz C hw hl hA
  subst hsz
  exact b_X9_word_0 C hA (rt_z C _) hwp hw hl
-- X9_words
theorem hi_X9_words_X9 : ∀ w ∈ u_ws RX9 TX9 20, w ∈ wsX9_words := by decide +kernel
theorem hf_X9_words_75 : Cond.fieldLink RX9 75 (TX9 8).1 (TX9 8).2.1 (TX9 8).2.2.1 ∈ wsX9_words := by decide +kernel
theorem hf_X9_words_78 : Cond.fieldLink RX9 78 (TX9 9).1 (TX9 9).2.1 (TX9 9).2.2.1 ∈ wsX9_words := by decide +kernel
theorem hf_X9_words_84 : Cond.fieldLink RX9 84 (TX9 10).1 (TX9 10).2.1 (TX9 10).2.2.1 ∈ wsX9_words := by decide +kernel
theorem hf_X9_words_33 : Cond.fieldLink RX9 33 (TX9 13).1 (TX9 13).2.1 (TX9 13).2.2.1 ∈ wsX9_words := by decide +kernel
def rm_X9_words : Room := { frames := 3, cells := 0, slots := 0, locals := 64 }
set_option maxRecDepth 100000 in
theorem b_X9_words_139 {post : St → Prop} (C : cx p s m args meth c wsX9_words RX9 cX9_words 4 none D cA) (hA : ∀ q, s.heap.size ≤ q → A q) (hR : RtV p l e rm_X9_words s m args below meth c Q cX9_words D cA K_M h A post) {k18 : Int → Int → St → Prop} (hk18 : ∀ {v1 v2 : Int} {σ : St} {H : Heap} {locs : List Loc} {ls : Array Slot}, k18 v1 v2 σ → wd D cA K_M h σ A s.heap H locs → lh ls 4 [some (.ref (h 0)), some (iv v1), some (iv v2), none] → W p l e rm_X9_words s m args below meth c H locs 0 0 Q (F0 m 18 ls [])) : ∀ {v1 s0 : Int} {σ : St} {H : Heap} {locs : List Loc} {ls : Array Slot}, wp_X9_words_139 k18 post v1 s0 σ → wd D cA K_M h σ A s.heap H locs → lh ls 4 [some (.ref (h 0)), some (iv v1), none, none] → W p l e rm_X9_words s m args below meth c H locs 0 0 Q (F0 m 139 ls [iv s0]) := by
  intro v1 s0 σ H locs ls hwp hw hl
  refine r_istore_n C dX9_words_139 hl (Nat.le_of_ble_eq_true rfl) (Nat.le_of_ble_eq_true rfl) rfl (fun ls hl => ?_)
  refine r_goto C (tgt := 18) dX9_words_140 rfl ?_
  exact hk18 hwp hw (lh_mask hl [true, true, true, false])
set_option maxRecDepth 100000 in
theorem b_X9_words_127 {post : St → Prop} (C : cx p s m args meth c wsX9_words RX9 cX9_words 4 none D cA) (hA : ∀ q, s.heap.size ≤ q → A q) (hR : RtV p l e rm_X9_words s m args below meth c Q cX9_words D cA K_M h A post) {k18 : Int → Int → St → Prop} (hk18 : ∀ {v1 v2 : Int} {σ : St} {H : Heap} {locs : List Loc} {ls : Array Slot}, k18 v1 v2 σ → wd D cA K_M h σ A s.heap H locs → lh ls 4 [some (.ref (h 0)), some (iv v1), some (iv v2), none] → W p l e rm_X9_words s m args below meth c H locs 0 0 Q (F0 m 18 ls [])) : ∀ {v1 : Int} {σ : St} {H : Heap} {locs : List Loc} {ls : Array Slot}, wp_X9_words_127 k18 post v1 σ → wd D cA K_M h σ A s.heap H locs → lh ls 4 [some (.ref (h 0)), some (iv v1), none, none] → W p l e rm_X9_words s m args below meth c H locs 0 0 Q (F0 m 127 ls []) := by
  intro v1 σ H locs ls hwp hw hl
  refine r_aload_n C dX9_words_127 hl rfl ?_
  refine r_get C hw clX9 0 rfl 9 9 rfl rfl (Nat.le_of_ble_eq_true rfl) hi_X9_words_X9 hf_X9_words_78 dX9_words_128 ?_
  obtain ⟨ra, hT, hF⟩ := hwp
  refine r_if_ge C (tgt := 138) dX9_words_131 rfl ra (fun hc => ?_) (fun hc => ?_)
  · have hwp := hT hc
    refine r_const C dX9_words_138 ?_
    exact b_X9_words_139 C hA hR hk18 hwp hw (lh_mask hl [true, true, false, false])
  · have hwp := hF hc
    refine r_const C dX9_words_134 ?_
    refine r_goto C (tgt := 139) dX9_words_135 rfl ?_
    exact b_X9_words_139 C hA hR hk18 hwp hw (lh_mask hl [true, true, false, false])
set_option maxRecDepth 100000 in
theorem b_X9_words_91 {post : St → Prop} (C : cx p s m args meth c wsX9_words RX9 cX9_words 4 none D cA) (hA : ∀ q, s.heap.size ≤ q → A q) (hR : RtV p l e rm_X9_words s m args below meth c Q cX9_words D cA K_M h A post) {k18 : Int → Int → St → Prop} (hk18 : ∀ {v1 v2 : Int} {σ : St} {H : Heap} {locs : List Loc} {ls : Array Slot}, k18 v1 v2 σ → wd D cA K_M h σ A s.heap H locs → lh ls 4 [some (.ref (h 0)), some (iv v1), some (iv v2), none] → W p l e rm_X9_words s m args below meth c H locs 0 0 Q (F0 m 18 ls [])) : ∀ {v3 s0 : Int} {σ : St} {H : Heap} {locs : List Loc} {ls : Array Slot}, wp_X9_words_91 k18 post v3 s0 σ → wd D cA K_M h σ A s.heap H locs → lh ls 4 [some (.ref (h 0)), none, none, some (iv v3)] → W p l e rm_X9_words s m args below meth c H locs 0 0 Q (F0 m 91 ls [iv s0]) := by
  intro v3 s0 σ H locs ls hwp hw hl
  refine r_istore_n C dX9_words_91 hl (Nat.le_of_ble_eq_true rfl) (Nat.le_of_ble_eq_true rfl) rfl (fun ls hl => ?_)
  refine r_iload_n C dX9_words_92 hl rfl ?_
  obtain ⟨ra, hT, hF⟩ := hwp
  refine r_if_ne C (tgt := 99) dX9_words_93 rfl ra (fun hc => ?_) (fun hc => ?_)
  · have hwp := hT hc
    refine r_iload_n C dX9_words_99 hl rfl ?_
    obtain ⟨ra, hT, hF⟩ := hwp
    refine r_if_eq C (tgt := 122) dX9_words_100 rfl ra (fun hc => ?_) (fun hc => ?_)
    · have hwp := hT hc
      refine r_aload_n C dX9_words_122 hl rfl ?_
      refine r_cI0 hA hw (run_v0 C hw clX9 rfl (c_X9_word hwp) (cwV 0 C.2.2.2.2.1 gX9_words_X9_word rfl rfl rfl hd_X9_word ⟨Nat.le_of_ble_eq_true rfl, Nat.le_of_ble_eq_true rfl⟩) rfl rfl rfl hl dX9_words_123 ⟨Nat.zero_le _, Nat.zero_le _⟩) (fun r σ H locs hwp hw => ?_)
      refine r_istore_n C dX9_words_126 hl (Nat.le_of_ble_eq_true rfl) (Nat.le_of_ble_eq_true rfl) rfl (fun ls hl => ?_)
      exact b_X9_words_127 C hA hR hk18 hwp hw (lh_mask hl [true, true, false, false])
    · have hwp := hF hc
      refine r_aload_n C dX9_words_103 hl rfl ?_
      refine r_dup C dX9_words_104 rfl ?_
      refine r_get C hw clX9 0 rfl 8 8 rfl rfl (Nat.le_of_ble_eq_true rfl) hi_X9_words_X9 hf_X9_words_75 dX9_words_105 ?_
      refine r_const C dX9_words_108 ?_
      refine r_iadd C dX9_words_109 ?_
      refine r_put C hw clX9 0 rfl 8 8 rfl rfl (Nat.le_of_ble_eq_true rfl) hi_X9_words_X9 hf_X9_words_75 rfl ⟨nar_i _, fit_i _⟩ dX9_words_110 (fun H locs hw => ?_)
      have hwp := hwp _ rfl
      refine r_aload_n C dX9_words_113 hl rfl ?_
      refine r_cV0 hA hw (run_v0 C hw clX9 rfl (c_X9_digits hwp) (cwV 0 C.2.2.2.2.1 gX9_words_X9_digits rfl rfl rfl hd_X9_digits ⟨Nat.le_of_ble_eq_true rfl, Nat.le_of_ble_eq_true rfl⟩) rfl rfl rfl hl dX9_words_114 ⟨Nat.zero_le _, Nat.zero_le _⟩) (fun σ H locs hwp hw => ?_)
      refine r_const C dX9_words_117 ?_
      refine r_istore_n C dX9_words_118 hl (Nat.le_of_ble_eq_true rfl) (Nat.le_of_ble_eq_true rfl) rfl (fun ls hl => ?_)
      refine r_goto C (tgt := 127) dX9_words_119 rfl ?_
      exact b_X9_words_127 C hA hR hk18 hwp hw (lh_mask hl [true, true, false, false])
  · have hwp := hF hc
    refine r_goto C (tgt := 143) dX9_words_96 rfl ?_
    exact hR _ _ _ _ _ dX9_words_143 hwp hw
set_option maxRecDepth 100000 in
theorem b_X9_words_86 {post : St → Prop} (C : cx p s m args meth c wsX9_words RX9 cX9_words 4 none D cA) (hA : ∀ q, s.heap.size ≤ q → A q) (hR : RtV p l e rm_X9_words s m args below meth c Q cX9_words D cA K_M h A post) {k18 : Int → Int → St → Prop} (hk18 : ∀ {v1 v2 : Int} {σ : St} {H : Heap} {locs : List Loc} {ls : Array Slot}, k18 v1 v2 σ → wd D cA K_M h σ A s.heap H locs → lh ls 4 [some (.ref (h 0)), some (iv v1), some (iv v2), none] → W p l e rm_X9_words s m args below meth c H locs 0 0 Q (F0 m 18 ls [])) : ∀ {v3 : Int} {σ : St} {H : Heap} {locs : List Loc} {ls : Array Slot}, wp_X9_words_86 k18 post v3 σ → wd D cA K_M h σ A s.heap H locs → lh ls 4 [some (.ref (h 0)), none, none, some (iv v3)] → W p l e rm_X9_words s m args below meth c H locs 0 0 Q (F0 m 86 ls []) := by
  intro v3 σ H locs ls hwp hw hl
  refine r_const C dX9_words_86 ?_
  refine r_goto C (tgt := 91) dX9_words_87 rfl ?_
  exact b_X9_words_91 C hA hR hk18 hwp hw (lh_mask hl [true, false, false, true])
set_option maxRecDepth 100000 in
theorem b_X9_words_90 {post : St → Prop} (C : cx p s m args meth c wsX9_words RX9 cX9_words 4 none D cA) (hA : ∀ q, s.heap.size ≤ q → A q) (hR : RtV p l e rm_X9_words s m args below meth c Q cX9_words D cA K_M h A post) {k18 : Int → Int → St → Prop} (hk18 : ∀ {v1 v2 : Int} {σ : St} {H : Heap} {locs : List Loc} {ls : Array Slot}, k18 v1 v2 σ → wd D cA K_M h σ A s.heap H locs → lh ls 4 [some (.ref (h 0)), some (iv v1), some (iv v2), none] → W p l e rm_X9_words s m args below meth c H locs 0 0 Q (F0 m 18 ls [])) : ∀ {v3 : Int} {σ : St} {H : Heap} {locs : List Loc} {ls : Array Slot}, wp_X9_words_90 k18 post v3 σ → wd D cA K_M h σ A s.heap H locs → lh ls 4 [some (.ref (h 0)), none, none, some (iv v3)] → W p l e rm_X9_words s m args below meth c H locs 0 0 Q (F0 m 90 ls []) := by
  intro v3 σ H locs ls hwp hw hl
  refine r_const C dX9_words_90 ?_
  exact b_X9_words_91 C hA hR hk18 hwp hw (lh_mask hl [true, false, false, true])
set_option maxRecDepth 100000 in
theorem b_X9_words_54 {post : St → Prop} (C : cx p s m args meth c wsX9_words RX9 cX9_words 4 none D cA) (hA : ∀ q, s.heap.size ≤ q → A q) (hR : RtV p l e rm_X9_words s m args below meth c Q cX9_words D cA K_M h A post) {k18 : Int → Int → St → Prop} (hk18 : ∀ {v1 v2 : Int} {σ : St} {H : Heap} {locs : List Loc} {ls : Array Slot}, k18 v1 v2 σ → wd D cA K_M h σ A s.heap H locs → lh ls 4 [some (.ref (h 0)), some (iv v1), some (iv v2), none] → W p l e rm_X9_words s m args below meth c H locs 0 0 Q (F0 m 18 ls [])) : ∀ {v1 s0 : Int} {σ : St} {H : Heap} {locs : List Loc} {ls : Array Slot}, wp_X9_words_54 k18 post v1 s0 σ → wd D cA K_M h σ A s.heap H locs → lh ls 4 [some (.ref (h 0)), some (iv v1), none, none] → W p l e rm_X9_words s m args below meth c H locs 0 0 Q (F0 m 54 ls [iv s0]) := by
  intro v1 s0 σ H locs ls hwp hw hl
  refine r_istore_n C dX9_words_54 hl (Nat.le_of_ble_eq_true rfl) (Nat.le_of_ble_eq_true rfl) rfl (fun ls hl => ?_)
  refine r_iload_n C dX9_words_55 hl rfl ?_
  obtain ⟨ra, hT, hF⟩ := hwp
  refine r_if_ne C (tgt := 86) dX9_words_56 rfl ra (fun hc => ?_) (fun hc => ?_)
  · have hwp := hT hc
    exact b_X9_words_86 C hA hR hk18 hwp hw (lh_mask hl [true, false, false, true])
  · have hwp := hF hc
    refine r_aload_n C dX9_words_59 hl rfl ?_
    refine r_cIr0 hA hw (run_v0 C hw clX9 rfl (c_X9_sign hwp) (cwV 0 C.2.2.2.2.1 gX9_words_X9_sign rfl rfl rfl hd_X9_sign ⟨Nat.le_of_ble_eq_true rfl, Nat.le_of_ble_eq_true rfl⟩) rfl rfl rfl hl dX9_words_60 ⟨Nat.zero_le _, Nat.zero_le _⟩) (fun r H locs hwp hw => ?_)
    refine r_bipush C dX9_words_63 bpb_120 ?_
    obtain ⟨ra, hT, hF⟩ := hwp
    refine r_icmp_eq C (tgt := 86) dX9_words_65 rfl ra (by decide) (fun hc => ?_) (fun hc => ?_)
    · have hwp := hT hc
      exact b_X9_words_86 C hA hR hk18 hwp hw (lh_mask hl [true, false, false, true])
    · have hwp := hF hc
      refine r_iload_n C dX9_words_68 hl rfl ?_
      obtain ⟨ra, hT, hF⟩ := hwp
      refine r_if_eq C (tgt := 90) dX9_words_69 rfl ra (fun hc => ?_) (fun hc => ?_)
      · have hwp := hT hc
        exact b_X9_words_90 C hA hR hk18 hwp hw (lh_mask hl [true, false, false, true])
      · have hwp := hF hc
        refine r_aload_n C dX9_words_72 hl rfl ?_
        refine r_cIr0 hA hw (run_v0 C hw clX9 rfl (c_X9_sign hwp) (cwV 0 C.2.2.2.2.1 gX9_words_X9_sign rfl rfl rfl hd_X9_sign ⟨Nat.le_of_ble_eq_true rfl, Nat.le_of_ble_eq_true rfl⟩) rfl rfl rfl hl dX9_words_73 ⟨Nat.zero_le _, Nat.zero_le _⟩) (fun r H locs hwp hw => ?_)
        refine r_bipush C dX9_words_76 bpb_49 ?_
        refine r_bipush C dX9_words_78 bpb_56 ?_
        refine r_cIr hA hw sb_M_0_0_36 (run_s C hw sb_M_0_0_36 (c_X9_within hwp) (va_cwS 3 C.2.2.2.2.1 gX9_words_X9_within rfl rfl rfl hd_X9_within ⟨Nat.le_of_ble_eq_true rfl, Nat.le_of_ble_eq_true rfl⟩) rfl rfl rfl hl dX9_words_80 ⟨Nat.zero_le _, Nat.zero_le _⟩) (fun r H locs hwp hw => ?_)
        obtain ⟨ra, hT, hF⟩ := hwp
        refine r_if_eq C (tgt := 90) dX9_words_83 rfl ra (fun hc => ?_) (fun hc => ?_)
        · have hwp := hT hc
          exact b_X9_words_90 C hA hR hk18 hwp hw (lh_mask hl [true, false, false, true])
        · have hwp := hF hc
          exact b_X9_words_86 C hA hR hk18 hwp hw (lh_mask hl [true, false, false, true])
set_option maxRecDepth 100000 in
theorem b_X9_words_53 {post : St → Prop} (C : cx p s m args meth c wsX9_words RX9 cX9_words 4 none D cA) (hA : ∀ q, s.heap.size ≤ q → A q) (hR : RtV p l e rm_X9_words s m args below meth c Q cX9_words D cA K_M h A post) {k18 : Int → Int → St → Prop} (hk18 : ∀ {v1 v2 : Int} {σ : St} {H : Heap} {locs : List Loc} {ls : Array Slot}, k18 v1 v2 σ → wd D cA K_M h σ A s.heap H locs → lh ls 4 [some (.ref (h 0)), some (iv v1), some (iv v2), none] → W p l e rm_X9_words s m args below meth c H locs 0 0 Q (F0 m 18 ls [])) : ∀ {v1 : Int} {σ : St} {H : Heap} {locs : List Loc} {ls : Array Slot}, wp_X9_words_53 k18 post v1 σ → wd D cA K_M h σ A s.heap H locs → lh ls 4 [some (.ref (h 0)), some (iv v1), none, none] → W p l e rm_X9_words s m args below meth c H locs 0 0 Q (F0 m 53 ls []) := by
  intro v1 σ H locs ls hwp hw hl
  refine r_const C dX9_words_53 ?_
  exact b_X9_words_54 C hA hR hk18 hwp hw (lh_mask hl [true, true, false, false])
set_option maxRecDepth 100000 in
theorem b_X9_words_18 {post : St → Prop} (C : cx p s m args meth c wsX9_words RX9 cX9_words 4 none D cA) (hA : ∀ q, s.heap.size ≤ q → A q) (hR : RtV p l e rm_X9_words s m args below meth c Q cX9_words D cA K_M h A post) : ∀ (n : Nat) {v1 v2 : Int} {σ : St} {H : Heap} {locs : List Loc} {ls : Array Slot}, wp_X9_words_18 post n v1 v2 σ → wd D cA K_M h σ A s.heap H locs → lh ls 4 [some (.ref (h 0)), some (iv v1), some (iv v2), none] → W p l e rm_X9_words s m args below meth c H locs 0 0 Q (F0 m 18 ls []) := by
  intro n; induction n with
  | zero => intros; rename_i hwp _ _; exact hwp.elim
  | succ n ih =>
    intro v1 v2 σ H locs ls hwp hw hl
    refine r_iload_n C dX9_words_18 hl rfl ?_
    obtain ⟨ra, hT, hF⟩ := hwp
    refine r_if_eq C (tgt := 143) dX9_words_19 rfl ra (fun hc => ?_) (fun hc => ?_)
    · have hwp := hT hc
      exact hR _ _ _ _ _ dX9_words_143 hwp hw
    · have hwp := hF hc
      refine r_aload_n C dX9_words_22 hl rfl ?_
      refine r_getr C hw clX9 0 rfl 13 8 rfl (Nat.le_of_ble_eq_true rfl) hi_X9_words_X9 hf_X9_words_33 dX9_words_23 ?_
      refine r_aload_n C dX9_words_26 hl rfl ?_
      refine r_get C hw clX9 0 rfl 10 10 rfl rfl (Nat.le_of_ble_eq_true rfl) hi_X9_words_X9 hf_X9_words_84 dX9_words_27 ?_
      obtain ⟨h0, h1, hwp⟩ := hwp
      refine r_iald C hw 8 rfl rfl h0 h1 dX9_words_30 ?_
      refine r_bipush C dX9_words_31 bpb_16 ?_
      obtain ⟨ra, hT, hF⟩ := hwp
      refine r_icmp_ge C (tgt := 143) dX9_words_33 rfl ra (by decide) (fun hc => ?_) (fun hc => ?_)
      · have hwp := hT hc
        exact hR _ _ _ _ _ dX9_words_143 hwp hw
      · have hwp := hF hc
        refine r_iload_n C dX9_words_36 hl rfl ?_
        obtain ⟨ra, hT, hF⟩ := hwp
        refine r_if_ne C (tgt := 53) dX9_words_37 rfl ra (fun hc => ?_) (fun hc => ?_)
        · have hwp := hT hc
          exact b_X9_words_53 C hA hR ih hwp hw (lh_mask hl [true, true, false, false])
        · have hwp := hF hc
          refine r_aload_n C dX9_words_40 hl rfl ?_
          refine r_cIr0 hA hw (run_v0 C hw clX9 rfl (c_X9_sign hwp) (cwV 0 C.2.2.2.2.1 gX9_words_X9_sign rfl rfl rfl hd_X9_sign ⟨Nat.le_of_ble_eq_true rfl, Nat.le_of_ble_eq_true rfl⟩) rfl rfl rfl hl dX9_words_41 ⟨Nat.zero_le _, Nat.zero_le _⟩) (fun r H locs hwp hw => ?_)
          refine r_bipush C dX9_words_44 bpb_46 ?_
          obtain ⟨ra, hT, hF⟩ := hwp
          refine r_icmp_ne C (tgt := 53) dX9_words_46 rfl ra (by decide) (fun hc => ?_) (fun hc => ?_)
          · have hwp := hT hc
            exact b_X9_words_53 C hA hR ih hwp hw (lh_mask hl [true, true, false, false])
          · have hwp := hF hc
            refine r_const C dX9_words_49 ?_
            refine r_goto C (tgt := 54) dX9_words_50 rfl ?_
            exact b_X9_words_54 C hA hR ih hwp hw (lh_mask hl [true, true, false, false])
set_option maxRecDepth 100000 in
theorem b_X9_words_17 {post : St → Prop} (C : cx p s m args meth c wsX9_words RX9 cX9_words 4 none D cA) (hA : ∀ q, s.heap.size ≤ q → A q) (hR : RtV p l e rm_X9_words s m args below meth c Q cX9_words D cA K_M h A post) : ∀ {v1 s0 : Int} {σ : St} {H : Heap} {locs : List Loc} {ls : Array Slot}, wp_X9_words_17 post v1 s0 σ → wd D cA K_M h σ A s.heap H locs → lh ls 4 [some (.ref (h 0)), some (iv v1), none, none] → W p l e rm_X9_words s m args below meth c H locs 0 0 Q (F0 m 17 ls [iv s0]) := by
  intro v1 s0 σ H locs ls hwp hw hl
  refine r_istore_n C dX9_words_17 hl (Nat.le_of_ble_eq_true rfl) (Nat.le_of_ble_eq_true rfl) rfl (fun ls hl => ?_)
  obtain ⟨n9, hwp⟩ := hwp
  exact b_X9_words_18 C hA hR n9 hwp hw (lh_mask hl [true, true, true, false])
set_option maxRecDepth 100000 in
theorem b_X9_words_0 {post : St → Prop} (C : cx p s m args meth c wsX9_words RX9 cX9_words 4 none D cA) (hA : ∀ q, s.heap.size ≤ q → A q) (hR : RtV p l e rm_X9_words s m args below meth c Q cX9_words D cA K_M h A post) : ∀ {σ : St} {H : Heap} {locs : List Loc} {ls : Array Slot}, wp_X9_words σ post → wd D cA K_M h σ A s.heap H locs → lh ls 4 [some (.ref (h 0)), none, none, none] → W p l e rm_X9_words s m args below meth c H locs 0 0 Q (F0 m 0 ls []) := by
  intro σ H locs ls hwp hw hl
  refine r_aload_n C dX9_words_0 hl rfl ?_
  refine r_cI0 hA hw (run_v0 C hw clX9 rfl (c_X9_word hwp) (cwV 0 C.2.2.2.2.1 gX9_words_X9_word rfl rfl rfl hd_X9_word ⟨Nat.le_of_ble_eq_true rfl, Nat.le_of_ble_eq_true rfl⟩) rfl rfl rfl hl dX9_words_1 ⟨Nat.zero_le _, Nat.zero_le _⟩) (fun r σ H locs hwp hw => ?_)
  refine r_istore_n C dX9_words_4 hl (Nat.le_of_ble_eq_true rfl) (Nat.le_of_ble_eq_true rfl) rfl (fun ls hl => ?_)
  refine r_aload_n C dX9_words_5 hl rfl ?_
  refine r_get C hw clX9 0 rfl 9 9 rfl rfl (Nat.le_of_ble_eq_true rfl) hi_X9_words_X9 hf_X9_words_78 dX9_words_6 ?_
  obtain ⟨ra, hT, hF⟩ := hwp
  refine r_if_ge C (tgt := 16) dX9_words_9 rfl ra (fun hc => ?_) (fun hc => ?_)
  · have hwp := hT hc
    refine r_const C dX9_words_16 ?_
    exact b_X9_words_17 C hA hR hwp hw (lh_mask hl [true, true, false, false])
  · have hwp := hF hc
    refine r_const C dX9_words_12 ?_
    refine r_goto C (tgt := 17) dX9_words_13 rfl ?_
    exact b_X9_words_17 C hA hR hwp hw (lh_mask hl [true, true, false, false])
set_option maxRecDepth 100000 in
theorem c_X9_words {l : Launch} {D : va_G} {cA : FieldType → ClassId} {h : Nat → Nat} {σ : St} {sz : Nat} {post : St → Prop} (hwp : wp_X9_words σ post) : Met l yX9_words wsX9_words rm_X9_words (va_Pc [.ref (h 0)] (preS D cA K_M h σ sz)) (QV D cA K_M h sz post) 0 0 (aA K_M.length h sz) := by
  refine mk_met (cc := cX9_words) (nL := 4) (ret := none) (own := RX9) 3 (by decide) rfl rfl rfl rfl ?_
  intro p e s m args below meth c ls hsz C hw hl hA
  subst hsz
  exact b_X9_words_0 C hA (rt_v C _) hwp hw hl
-- X9_callOf
def rm_X9_callOf : Room := { frames := 0, cells := 0, slots := 0, locals := 0 }
set_option maxRecDepth 100000 in
theorem b_X9_callOf_0 {σ : St} {post : Int → Prop} (C : cx p s m args meth c wsX9_callOf RX9 cX9_callOf 1 (some .int) D cA) (hA : ∀ q, s.heap.size ≤ q → A q) (hR : RtI p l e rm_X9_callOf s m args below meth c Q cX9_callOf D cA K_0 h A (fun _ => True) (fun r σ' => σ' = σ ∧ post r)) : ∀ {v0 : Int} {H : Heap} {locs : List Loc} {ls : Array Slot}, wp_X9_callOf v0 post → wd D cA K_0 h σ A s.heap H locs → lh ls 1 [some (iv v0)] → W p l e rm_X9_callOf s m args below meth c H locs 0 0 Q (F0 m 0 ls []) := by
  intro v0 H locs ls hwp hw hl
  refine r_iload_n C dX9_callOf_0 hl rfl ?_
  refine r_bipush C dX9_callOf_1 bpb_112 ?_
  obtain ⟨ra, hT, hF⟩ := hwp
  refine r_icmp_ne C (tgt := 10) dX9_callOf_3 rfl ra (by decide) (fun hc => ?_) (fun hc => ?_)
  · have hwp := hT hc
    refine r_iload_n C dX9_callOf_10 hl rfl ?_
    refine r_bipush C dX9_callOf_11 bpb_98 ?_
    obtain ⟨ra, hT, hF⟩ := hwp
    refine r_icmp_ne C (tgt := 20) dX9_callOf_13 rfl ra (by decide) (fun hc => ?_) (fun hc => ?_)
    · have hwp := hT hc
      refine r_iload_n C dX9_callOf_20 hl rfl ?_
      refine r_bipush C dX9_callOf_21 bpb_115 ?_
      obtain ⟨ra, hT, hF⟩ := hwp
      refine r_icmp_ne C (tgt := 30) dX9_callOf_23 rfl ra (by decide) (fun hc => ?_) (fun hc => ?_)
      · have hwp := hT hc
        refine r_const C dX9_callOf_30 ?_
        exact hR _ _ _ _ _ _ dX9_callOf_31 trivial ⟨rfl, hwp⟩ hw
      · have hwp := hF hc
        refine r_const C dX9_callOf_26 ?_
        refine r_goto C (tgt := 31) dX9_callOf_27 rfl ?_
        exact hR _ _ _ _ _ _ dX9_callOf_31 trivial ⟨rfl, hwp⟩ hw
    · have hwp := hF hc
      refine r_const C dX9_callOf_16 ?_
      refine r_goto C (tgt := 31) dX9_callOf_17 rfl ?_
      exact hR _ _ _ _ _ _ dX9_callOf_31 trivial ⟨rfl, hwp⟩ hw
  · have hwp := hF hc
    refine r_const C dX9_callOf_6 ?_
    refine r_goto C (tgt := 31) dX9_callOf_7 rfl ?_
    exact hR _ _ _ _ _ _ dX9_callOf_31 trivial ⟨rfl, hwp⟩ hw
set_option maxRecDepth 100000 in
theorem c_X9_callOf {l : Launch} {D : va_G} {cA : FieldType → ClassId} {h : Nat → Nat} {σ : St} {sz : Nat} {v0 : Int} {post : Int → Prop} (hwp : wp_X9_callOf v0 post) : Met l yX9_callOf wsX9_callOf rm_X9_callOf (va_Pc [iv v0] (preS D cA K_0 h σ sz)) (QI D cA K_0 h sz (fun r σ' => σ' = σ ∧ post r)) 0 0 (aA K_0.length h sz) := by
  refine mk_met (cc := cX9_callOf) (nL := 1) (ret := (some .int)) (own := RX9) 0 (by decide) rfl rfl rfl rfl ?_
  intro p e s m args below meth c ls hsz C hw hl hA
  subst hsz
  exact b_X9_callOf_0 C hA (rt_i C _) hwp hw hl
-- X9_reads
theorem hi_X9_reads_X9 : ∀ w ∈ u_ws RX9 TX9 20, w ∈ wsX9_reads := by decide +kernel
theorem hf_X9_reads_75 : Cond.fieldLink RX9 75 (TX9 8).1 (TX9 8).2.1 (TX9 8).2.2.1 ∈ wsX9_reads := by decide +kernel
theorem hf_X9_reads_84 : Cond.fieldLink RX9 84 (TX9 10).1 (TX9 10).2.1 (TX9 10).2.2.1 ∈ wsX9_reads := by decide +kernel
theorem hf_X9_reads_27 : Cond.fieldLink RX9 27 (TX9 11).1 (TX9 11).2.1 (TX9 11).2.2.1 ∈ wsX9_reads := by decide +kernel
theorem hf_X9_reads_30 : Cond.fieldLink RX9 30 (TX9 12).1 (TX9 12).2.1 (TX9 12).2.2.1 ∈ wsX9_reads := by decide +kernel
theorem hf_X9_reads_33 : Cond.fieldLink RX9 33 (TX9 13).1 (TX9 13).2.1 (TX9 13).2.2.1 ∈ wsX9_reads := by decide +kernel
theorem hf_X9_reads_81 : Cond.fieldLink RX9 81 (TX9 14).1 (TX9 14).2.1 (TX9 14).2.2.1 ∈ wsX9_reads := by decide +kernel
def rm_X9_reads : Room := { frames := 4, cells := 0, slots := 0, locals := 87 }
set_option maxRecDepth 100000 in
theorem b_X9_reads_264 {post : St → Prop} (C : cx p s m args meth c wsX9_reads RX9 cX9_reads 1 none D cA) (hA : ∀ q, s.heap.size ≤ q → A q) (hR : RtV p l e rm_X9_reads s m args below meth c Q cX9_reads D cA K_M h A post) : ∀ {σ : St} {H : Heap} {locs : List Loc} {ls : Array Slot}, wp_X9_reads_264 post σ → wd D cA K_M h σ A s.heap H locs → lh ls 1 [some (.ref (h 0))] → W p l e rm_X9_reads s m args below meth c H locs 0 0 Q (F0 m 264 ls []) := by
  intro σ H locs ls hwp hw hl
  refine r_aload_n C dX9_reads_264 hl rfl ?_
  refine r_dup C dX9_reads_265 rfl ?_
  refine r_get C hw clX9 0 rfl 10 10 rfl rfl (Nat.le_of_ble_eq_true rfl) hi_X9_reads_X9 hf_X9_reads_84 dX9_reads_266 ?_
  refine r_const C dX9_reads_269 ?_
  refine r_iadd C dX9_reads_270 ?_
  refine r_put C hw clX9 0 rfl 10 10 rfl rfl (Nat.le_of_ble_eq_true rfl) hi_X9_reads_X9 hf_X9_reads_84 rfl ⟨nar_i _, fit_i _⟩ dX9_reads_271 (fun H locs hw => ?_)
  have hwp := hwp _ rfl
  exact hR _ _ _ _ _ dX9_reads_274 hwp hw
set_option maxRecDepth 100000 in
theorem b_X9_reads_241 {post : St → Prop} (C : cx p s m args meth c wsX9_reads RX9 cX9_reads 1 none D cA) (hA : ∀ q, s.heap.size ≤ q → A q) (hR : RtV p l e rm_X9_reads s m args below meth c Q cX9_reads D cA K_M h A post) : ∀ {σ : St} {H : Heap} {locs : List Loc} {ls : Array Slot}, wp_X9_reads_241 post σ → wd D cA K_M h σ A s.heap H locs → lh ls 1 [some (.ref (h 0))] → W p l e rm_X9_reads s m args below meth c H locs 0 0 Q (F0 m 241 ls []) := by
  intro σ H locs ls hwp hw hl
  refine r_aload_n C dX9_reads_241 hl rfl ?_
  refine r_getr C hw clX9 0 rfl 13 8 rfl (Nat.le_of_ble_eq_true rfl) hi_X9_reads_X9 hf_X9_reads_33 dX9_reads_242 ?_
  refine r_aload_n C dX9_reads_245 hl rfl ?_
  refine r_get C hw clX9 0 rfl 10 10 rfl rfl (Nat.le_of_ble_eq_true rfl) hi_X9_reads_X9 hf_X9_reads_84 dX9_reads_246 ?_
  obtain ⟨h0, h1, hwp⟩ := hwp
  refine r_iald C hw 8 rfl rfl h0 h1 dX9_reads_249 ?_
  obtain ⟨ra, hT, hF⟩ := hwp
  refine r_if_ne C (tgt := 264) dX9_reads_250 rfl ra (fun hc => ?_) (fun hc => ?_)
  · have hwp := hT hc
    exact b_X9_reads_264 C hA hR hwp hw (lh_mask hl [true])
  · have hwp := hF hc
    refine r_aload_n C dX9_reads_253 hl rfl ?_
    refine r_cV0 hA hw (run_v0 C hw clX9 rfl (c_X9_wrong hwp) (cwV 0 C.2.2.2.2.1 gX9_reads_X9_wrong rfl rfl rfl hd_X9_wrong ⟨Nat.le_of_ble_eq_true rfl, Nat.le_of_ble_eq_true rfl⟩) rfl rfl rfl hl dX9_reads_254 ⟨Nat.zero_le _, Nat.zero_le _⟩) (fun σ H locs hwp hw => ?_)
    refine r_goto C (tgt := 264) dX9_reads_257 rfl ?_
    exact b_X9_reads_264 C hA hR hwp hw (lh_mask hl [true])
set_option maxRecDepth 100000 in
theorem b_X9_reads_192 {post : St → Prop} (C : cx p s m args meth c wsX9_reads RX9 cX9_reads 1 none D cA) (hA : ∀ q, s.heap.size ≤ q → A q) (hR : RtV p l e rm_X9_reads s m args below meth c Q cX9_reads D cA K_M h A post) : ∀ (n : Nat) {σ : St} {H : Heap} {locs : List Loc} {ls : Array Slot}, wp_X9_reads_192 post n σ → wd D cA K_M h σ A s.heap H locs → lh ls 1 [some (.ref (h 0))] → W p l e rm_X9_reads s m args below meth c H locs 0 0 Q (F0 m 192 ls []) := by
  intro n; induction n with
  | zero => intros; rename_i hwp _ _; exact hwp.elim
  | succ n ih =>
    intro σ H locs ls hwp hw hl
    refine r_aload_n C dX9_reads_192 hl rfl ?_
    refine r_cIr0 hA hw (run_v0 C hw clX9 rfl (c_X9_sign hwp) (cwV 0 C.2.2.2.2.1 gX9_reads_X9_sign rfl rfl rfl hd_X9_sign ⟨Nat.le_of_ble_eq_true rfl, Nat.le_of_ble_eq_true rfl⟩) rfl rfl rfl hl dX9_reads_193 ⟨Nat.zero_le _, Nat.zero_le _⟩) (fun r H locs hwp hw => ?_)
    refine r_cIr hA hw sb_M_0_0_36 (run_s C hw sb_M_0_0_36 (c_X9_callOf hwp) (va_cwS 1 C.2.2.2.2.1 gX9_reads_X9_callOf rfl rfl rfl hd_X9_callOf ⟨Nat.le_of_ble_eq_true rfl, Nat.le_of_ble_eq_true rfl⟩) rfl rfl rfl hl dX9_reads_196 ⟨Nat.zero_le _, Nat.zero_le _⟩) (fun r H locs hwp hw => ?_)
    refine r_const C dX9_reads_199 ?_
    obtain ⟨ra, hT, hF⟩ := hwp
    refine r_icmp_eq C (tgt := 241) dX9_reads_200 rfl ra (by decide) (fun hc => ?_) (fun hc => ?_)
    · have hwp := hT hc
      exact b_X9_reads_241 C hA hR hwp hw (lh_mask hl [true])
    · have hwp := hF hc
      refine r_aload_n C dX9_reads_203 hl rfl ?_
      refine r_getr C hw clX9 0 rfl 13 8 rfl (Nat.le_of_ble_eq_true rfl) hi_X9_reads_X9 hf_X9_reads_33 dX9_reads_204 ?_
      refine r_aload_n C dX9_reads_207 hl rfl ?_
      refine r_get C hw clX9 0 rfl 10 10 rfl rfl (Nat.le_of_ble_eq_true rfl) hi_X9_reads_X9 hf_X9_reads_84 dX9_reads_208 ?_
      obtain ⟨h0, h1, hwp⟩ := hwp
      refine r_iald C hw 8 rfl rfl h0 h1 dX9_reads_211 ?_
      refine r_bipush C dX9_reads_212 bpb_12 ?_
      obtain ⟨ra, hT, hF⟩ := hwp
      refine r_icmp_ge C (tgt := 241) dX9_reads_214 rfl ra (by decide) (fun hc => ?_) (fun hc => ?_)
      · have hwp := hT hc
        exact b_X9_reads_241 C hA hR hwp hw (lh_mask hl [true])
      · have hwp := hF hc
        refine r_aload_n C dX9_reads_217 hl rfl ?_
        refine r_aload_n C dX9_reads_218 hl rfl ?_
        refine r_cIr0 hA hw (run_v0 C hw clX9 rfl (c_X9_sign hwp) (cwV 0 C.2.2.2.2.1 gX9_reads_X9_sign rfl rfl rfl hd_X9_sign ⟨Nat.le_of_ble_eq_true rfl, Nat.le_of_ble_eq_true rfl⟩) rfl rfl rfl hl dX9_reads_219 ⟨Nat.zero_le _, Nat.zero_le _⟩) (fun r H locs hwp hw => ?_)
        refine r_cIr hA hw sb_M_0_0_36 (run_s C hw sb_M_0_0_36 (c_X9_callOf hwp) (va_cwS 1 C.2.2.2.2.1 gX9_reads_X9_callOf rfl rfl rfl hd_X9_callOf ⟨Nat.le_of_ble_eq_true rfl, Nat.le_of_ble_eq_true rfl⟩) rfl rfl rfl hl dX9_reads_222 ⟨Nat.zero_le _, Nat.zero_le _⟩) (fun r H locs hwp hw => ?_)
        refine r_cV0 hA hw (run_v0 C hw clX9 rfl (c_X9_adds hwp) (cwV 1 C.2.2.2.2.1 gX9_reads_X9_adds rfl rfl rfl hd_X9_adds ⟨Nat.le_of_ble_eq_true rfl, Nat.le_of_ble_eq_true rfl⟩) rfl rfl rfl hl dX9_reads_225 ⟨Nat.zero_le _, Nat.zero_le _⟩) (fun σ H locs hwp hw => ?_)
        refine r_aload_n C dX9_reads_228 hl rfl ?_
        refine r_dup C dX9_reads_229 rfl ?_
        refine r_get C hw clX9 0 rfl 8 8 rfl rfl (Nat.le_of_ble_eq_true rfl) hi_X9_reads_X9 hf_X9_reads_75 dX9_reads_230 ?_
        refine r_const C dX9_reads_233 ?_
        refine r_iadd C dX9_reads_234 ?_
        refine r_put C hw clX9 0 rfl 8 8 rfl rfl (Nat.le_of_ble_eq_true rfl) hi_X9_reads_X9 hf_X9_reads_75 rfl ⟨nar_i _, fit_i _⟩ dX9_reads_235 (fun H locs hw => ?_)
        have hwp := hwp _ rfl
        refine r_goto C (tgt := 192) dX9_reads_238 rfl ?_
        exact ih hwp hw (lh_mask hl [true])
set_option maxRecDepth 100000 in
theorem b_X9_reads_134 {post : St → Prop} (C : cx p s m args meth c wsX9_reads RX9 cX9_reads 1 none D cA) (hA : ∀ q, s.heap.size ≤ q → A q) (hR : RtV p l e rm_X9_reads s m args below meth c Q cX9_reads D cA K_M h A post) : ∀ {σ : St} {H : Heap} {locs : List Loc} {ls : Array Slot}, wp_X9_reads_134 post σ → wd D cA K_M h σ A s.heap H locs → lh ls 1 [some (.ref (h 0))] → W p l e rm_X9_reads s m args below meth c H locs 0 0 Q (F0 m 134 ls []) := by
  intro σ H locs ls hwp hw hl
  refine r_aload_n C dX9_reads_134 hl rfl ?_
  refine r_dup C dX9_reads_135 rfl ?_
  refine r_get C hw clX9 0 rfl 8 8 rfl rfl (Nat.le_of_ble_eq_true rfl) hi_X9_reads_X9 hf_X9_reads_75 dX9_reads_136 ?_
  refine r_const C dX9_reads_139 ?_
  refine r_iadd C dX9_reads_140 ?_
  refine r_put C hw clX9 0 rfl 8 8 rfl rfl (Nat.le_of_ble_eq_true rfl) hi_X9_reads_X9 hf_X9_reads_75 rfl ⟨nar_i _, fit_i _⟩ dX9_reads_141 (fun H locs hw => ?_)
  have hwp := hwp _ rfl
  refine r_goto C (tgt := 264) dX9_reads_144 rfl ?_
  exact b_X9_reads_264 C hA hR hwp hw (lh_mask hl [true])
set_option maxRecDepth 100000 in
theorem b_X9_reads_0 {post : St → Prop} (C : cx p s m args meth c wsX9_reads RX9 cX9_reads 1 none D cA) (hA : ∀ q, s.heap.size ≤ q → A q) (hR : RtV p l e rm_X9_reads s m args below meth c Q cX9_reads D cA K_M h A post) : ∀ {σ : St} {H : Heap} {locs : List Loc} {ls : Array Slot}, wp_X9_reads σ post → wd D cA K_M h σ A s.heap H locs → lh ls 1 [some (.ref (h 0))] → W p l e rm_X9_reads s m args below meth c H locs 0 0 Q (F0 m 0 ls []) := by
  intro σ H locs ls hwp hw hl
  refine r_aload_n C dX9_reads_0 hl rfl ?_
  refine r_getr C hw clX9 0 rfl 11 6 rfl (Nat.le_of_ble_eq_true rfl) hi_X9_reads_X9 hf_X9_reads_27 dX9_reads_1 ?_
  refine r_aload_n C dX9_reads_4 hl rfl ?_
  refine r_get C hw clX9 0 rfl 10 10 rfl rfl (Nat.le_of_ble_eq_true rfl) hi_X9_reads_X9 hf_X9_reads_84 dX9_reads_5 ?_
  refine r_aload_n C dX9_reads_8 hl rfl ?_
  refine r_cIr0 hA hw (run_v0 C hw clX9 rfl (c_X9_sign hwp) (cwV 0 C.2.2.2.2.1 gX9_reads_X9_sign rfl rfl rfl hd_X9_sign ⟨Nat.le_of_ble_eq_true rfl, Nat.le_of_ble_eq_true rfl⟩) rfl rfl rfl hl dX9_reads_9 ⟨Nat.zero_le _, Nat.zero_le _⟩) (fun r H locs hwp hw => ?_)
  obtain ⟨h0, h1, hwp⟩ := hwp
  refine r_iast C hw 6 rfl rfl h0 h1 dX9_reads_12 (fun H locs hw => ?_)
  have hwp := hwp _ rfl
  refine r_aload_n C dX9_reads_13 hl rfl ?_
  refine r_getr C hw clX9 0 rfl 12 7 rfl (Nat.le_of_ble_eq_true rfl) hi_X9_reads_X9 hf_X9_reads_30 dX9_reads_14 ?_
  refine r_aload_n C dX9_reads_17 hl rfl ?_
  refine r_get C hw clX9 0 rfl 10 10 rfl rfl (Nat.le_of_ble_eq_true rfl) hi_X9_reads_X9 hf_X9_reads_84 dX9_reads_18 ?_
  refine r_aload_n C dX9_reads_21 hl rfl ?_
  refine r_get C hw clX9 0 rfl 14 14 rfl rfl (Nat.le_of_ble_eq_true rfl) hi_X9_reads_X9 hf_X9_reads_81 dX9_reads_22 ?_
  obtain ⟨h0, h1, hwp⟩ := hwp
  refine r_iast C hw 7 rfl rfl h0 h1 dX9_reads_25 (fun H locs hw => ?_)
  have hwp := hwp _ rfl
  refine r_aload_n C dX9_reads_26 hl rfl ?_
  refine r_getr C hw clX9 0 rfl 13 8 rfl (Nat.le_of_ble_eq_true rfl) hi_X9_reads_X9 hf_X9_reads_33 dX9_reads_27 ?_
  refine r_aload_n C dX9_reads_30 hl rfl ?_
  refine r_get C hw clX9 0 rfl 10 10 rfl rfl (Nat.le_of_ble_eq_true rfl) hi_X9_reads_X9 hf_X9_reads_84 dX9_reads_31 ?_
  refine r_const C dX9_reads_34 ?_
  obtain ⟨h0, h1, hwp⟩ := hwp
  refine r_iast C hw 8 rfl rfl h0 h1 dX9_reads_35 (fun H locs hw => ?_)
  have hwp := hwp _ rfl
  refine r_aload_n C dX9_reads_36 hl rfl ?_
  refine r_cIr0 hA hw (run_v0 C hw clX9 rfl (c_X9_sign hwp) (cwV 0 C.2.2.2.2.1 gX9_reads_X9_sign rfl rfl rfl hd_X9_sign ⟨Nat.le_of_ble_eq_true rfl, Nat.le_of_ble_eq_true rfl⟩) rfl rfl rfl hl dX9_reads_37 ⟨Nat.zero_le _, Nat.zero_le _⟩) (fun r H locs hwp hw => ?_)
  obtain ⟨ra, hS0, hS1, hS2, hS3, hS4, hD⟩ := hwp
  rcases lk_98_99_109_110_115 ra with hc | hc | hc | hc | hc | hc
  · have hwp := hS0 hc
    refine r_look C (tgt := 164) dX9_reads_40 ra rfl (by rw [hc] <;> rfl) rfl ?_
    refine r_aload_n C dX9_reads_164 hl rfl ?_
    refine r_dup C dX9_reads_165 rfl ?_
    refine r_get C hw clX9 0 rfl 8 8 rfl rfl (Nat.le_of_ble_eq_true rfl) hi_X9_reads_X9 hf_X9_reads_75 dX9_reads_166 ?_
    refine r_const C dX9_reads_169 ?_
    refine r_iadd C dX9_reads_170 ?_
    refine r_put C hw clX9 0 rfl 8 8 rfl rfl (Nat.le_of_ble_eq_true rfl) hi_X9_reads_X9 hf_X9_reads_75 rfl ⟨nar_i _, fit_i _⟩ dX9_reads_171 (fun H locs hw => ?_)
    have hwp := hwp _ rfl
    refine r_aload_n C dX9_reads_174 hl rfl ?_
    refine r_cI0 hA hw (run_v0 C hw clX9 rfl (c_X9_word hwp) (cwV 0 C.2.2.2.2.1 gX9_reads_X9_word rfl rfl rfl hd_X9_word ⟨Nat.le_of_ble_eq_true rfl, Nat.le_of_ble_eq_true rfl⟩) rfl rfl rfl hl dX9_reads_175 ⟨Nat.zero_le _, Nat.zero_le _⟩) (fun r σ H locs hwp hw => ?_)
    refine r_pop C dX9_reads_178 rfl ?_
    refine r_goto C (tgt := 264) dX9_reads_179 rfl ?_
    exact b_X9_reads_264 C hA hR hwp hw (lh_mask hl [true])
  · have hwp := hS1 hc
    refine r_look C (tgt := 182) dX9_reads_40 ra rfl (by rw [hc] <;> rfl) rfl ?_
    refine r_aload_n C dX9_reads_182 hl rfl ?_
    refine r_dup C dX9_reads_183 rfl ?_
    refine r_get C hw clX9 0 rfl 8 8 rfl rfl (Nat.le_of_ble_eq_true rfl) hi_X9_reads_X9 hf_X9_reads_75 dX9_reads_184 ?_
    refine r_const C dX9_reads_187 ?_
    refine r_iadd C dX9_reads_188 ?_
    refine r_put C hw clX9 0 rfl 8 8 rfl rfl (Nat.le_of_ble_eq_true rfl) hi_X9_reads_X9 hf_X9_reads_75 rfl ⟨nar_i _, fit_i _⟩ dX9_reads_189 (fun H locs hw => ?_)
    have hwp := hwp _ rfl
    obtain ⟨n9, hwp⟩ := hwp
    exact b_X9_reads_192 C hA hR n9 hwp hw (lh_mask hl [true])
  · have hwp := hS2 hc
    refine r_look C (tgt := 147) dX9_reads_40 ra rfl (by rw [hc] <;> rfl) rfl ?_
    refine r_aload_n C dX9_reads_147 hl rfl ?_
    refine r_dup C dX9_reads_148 rfl ?_
    refine r_get C hw clX9 0 rfl 8 8 rfl rfl (Nat.le_of_ble_eq_true rfl) hi_X9_reads_X9 hf_X9_reads_75 dX9_reads_149 ?_
    refine r_const C dX9_reads_152 ?_
    refine r_iadd C dX9_reads_153 ?_
    refine r_put C hw clX9 0 rfl 8 8 rfl rfl (Nat.le_of_ble_eq_true rfl) hi_X9_reads_X9 hf_X9_reads_75 rfl ⟨nar_i _, fit_i _⟩ dX9_reads_154 (fun H locs hw => ?_)
    have hwp := hwp _ rfl
    refine r_aload_n C dX9_reads_157 hl rfl ?_
    refine r_cV0 hA hw (run_v0 C hw clX9 rfl (c_X9_words hwp) (cwV 0 C.2.2.2.2.1 gX9_reads_X9_words rfl rfl rfl hd_X9_words ⟨Nat.le_of_ble_eq_true rfl, Nat.le_of_ble_eq_true rfl⟩) rfl rfl rfl hl dX9_reads_158 ⟨Nat.zero_le _, Nat.zero_le _⟩) (fun σ H locs hwp hw => ?_)
    refine r_goto C (tgt := 264) dX9_reads_161 rfl ?_
    exact b_X9_reads_264 C hA hR hwp hw (lh_mask hl [true])
  · have hwp := hS3 hc
    refine r_look C (tgt := 92) dX9_reads_40 ra rfl (by rw [hc] <;> rfl) rfl ?_
    refine r_aload_n C dX9_reads_92 hl rfl ?_
    refine r_dup C dX9_reads_93 rfl ?_
    refine r_get C hw clX9 0 rfl 8 8 rfl rfl (Nat.le_of_ble_eq_true rfl) hi_X9_reads_X9 hf_X9_reads_75 dX9_reads_94 ?_
    refine r_const C dX9_reads_97 ?_
    refine r_iadd C dX9_reads_98 ?_
    refine r_put C hw clX9 0 rfl 8 8 rfl rfl (Nat.le_of_ble_eq_true rfl) hi_X9_reads_X9 hf_X9_reads_75 rfl ⟨nar_i _, fit_i _⟩ dX9_reads_99 (fun H locs hw => ?_)
    have hwp := hwp _ rfl
    refine r_aload_n C dX9_reads_102 hl rfl ?_
    refine r_cIr0 hA hw (run_v0 C hw clX9 rfl (c_X9_sign hwp) (cwV 0 C.2.2.2.2.1 gX9_reads_X9_sign rfl rfl rfl hd_X9_sign ⟨Nat.le_of_ble_eq_true rfl, Nat.le_of_ble_eq_true rfl⟩) rfl rfl rfl hl dX9_reads_103 ⟨Nat.zero_le _, Nat.zero_le _⟩) (fun r H locs hwp hw => ?_)
    refine r_bipush C dX9_reads_106 bpb_48 ?_
    refine r_bipush C dX9_reads_108 bpb_57 ?_
    refine r_cIr hA hw sb_M_0_0_36 (run_s C hw sb_M_0_0_36 (c_X9_within hwp) (va_cwS 3 C.2.2.2.2.1 gX9_reads_X9_within rfl rfl rfl hd_X9_within ⟨Nat.le_of_ble_eq_true rfl, Nat.le_of_ble_eq_true rfl⟩) rfl rfl rfl hl dX9_reads_110 ⟨Nat.zero_le _, Nat.zero_le _⟩) (fun r H locs hwp hw => ?_)
    obtain ⟨ra, hT, hF⟩ := hwp
    refine r_if_ne C (tgt := 123) dX9_reads_113 rfl ra (fun hc => ?_) (fun hc => ?_)
    · have hwp := hT hc
      refine r_aload_n C dX9_reads_123 hl rfl ?_
      refine r_aload_n C dX9_reads_124 hl rfl ?_
      refine r_cIr0 hA hw (run_v0 C hw clX9 rfl (c_X9_sign hwp) (cwV 0 C.2.2.2.2.1 gX9_reads_X9_sign rfl rfl rfl hd_X9_sign ⟨Nat.le_of_ble_eq_true rfl, Nat.le_of_ble_eq_true rfl⟩) rfl rfl rfl hl dX9_reads_125 ⟨Nat.zero_le _, Nat.zero_le _⟩) (fun r H locs hwp hw => ?_)
      refine r_bipush C dX9_reads_128 bpb_48 ?_
      refine r_isub C dX9_reads_130 ?_
      refine r_cV0 hA hw (run_v0 C hw clX9 rfl (c_X9_adds hwp) (cwV 1 C.2.2.2.2.1 gX9_reads_X9_adds rfl rfl rfl hd_X9_adds ⟨Nat.le_of_ble_eq_true rfl, Nat.le_of_ble_eq_true rfl⟩) rfl rfl rfl hl dX9_reads_131 ⟨Nat.zero_le _, Nat.zero_le _⟩) (fun σ H locs hwp hw => ?_)
      exact b_X9_reads_134 C hA hR hwp hw (lh_mask hl [true])
    · have hwp := hF hc
      refine r_aload_n C dX9_reads_116 hl rfl ?_
      refine r_cV0 hA hw (run_v0 C hw clX9 rfl (c_X9_wrong hwp) (cwV 0 C.2.2.2.2.1 gX9_reads_X9_wrong rfl rfl rfl hd_X9_wrong ⟨Nat.le_of_ble_eq_true rfl, Nat.le_of_ble_eq_true rfl⟩) rfl rfl rfl hl dX9_reads_117 ⟨Nat.zero_le _, Nat.zero_le _⟩) (fun σ H locs hwp hw => ?_)
      refine r_goto C (tgt := 134) dX9_reads_120 rfl ?_
      exact b_X9_reads_134 C hA hR hwp hw (lh_mask hl [true])
  · have hwp := hS4 hc
    refine r_look C (tgt := 164) dX9_reads_40 ra rfl (by rw [hc] <;> rfl) rfl ?_
    refine r_aload_n C dX9_reads_164 hl rfl ?_
    refine r_dup C dX9_reads_165 rfl ?_
    refine r_get C hw clX9 0 rfl 8 8 rfl rfl (Nat.le_of_ble_eq_true rfl) hi_X9_reads_X9 hf_X9_reads_75 dX9_reads_166 ?_
    refine r_const C dX9_reads_169 ?_
    refine r_iadd C dX9_reads_170 ?_
    refine r_put C hw clX9 0 rfl 8 8 rfl rfl (Nat.le_of_ble_eq_true rfl) hi_X9_reads_X9 hf_X9_reads_75 rfl ⟨nar_i _, fit_i _⟩ dX9_reads_171 (fun H locs hw => ?_)
    have hwp := hwp _ rfl
    refine r_aload_n C dX9_reads_174 hl rfl ?_
    refine r_cI0 hA hw (run_v0 C hw clX9 rfl (c_X9_word hwp) (cwV 0 C.2.2.2.2.1 gX9_reads_X9_word rfl rfl rfl hd_X9_word ⟨Nat.le_of_ble_eq_true rfl, Nat.le_of_ble_eq_true rfl⟩) rfl rfl rfl hl dX9_reads_175 ⟨Nat.zero_le _, Nat.zero_le _⟩) (fun r σ H locs hwp hw => ?_)
    refine r_pop C dX9_reads_178 rfl ?_
    refine r_goto C (tgt := 264) dX9_reads_179 rfl ?_
    exact b_X9_reads_264 C hA hR hwp hw (lh_mask hl [true])
  · have hwp := hD hc
    refine r_look C (tgt := 260) dX9_reads_40 ra rfl (lo_98_99_109_110_115 hc) rfl ?_
    refine r_aload_n C dX9_reads_260 hl rfl ?_
    refine r_cV0 hA hw (run_v0 C hw clX9 rfl (c_X9_wrong hwp) (cwV 0 C.2.2.2.2.1 gX9_reads_X9_wrong rfl rfl rfl hd_X9_wrong ⟨Nat.le_of_ble_eq_true rfl, Nat.le_of_ble_eq_true rfl⟩) rfl rfl rfl hl dX9_reads_261 ⟨Nat.zero_le _, Nat.zero_le _⟩) (fun σ H locs hwp hw => ?_)
    exact b_X9_reads_264 C hA hR hwp hw (lh_mask hl [true])
set_option maxRecDepth 100000 in
theorem c_X9_reads {l : Launch} {D : va_G} {cA : FieldType → ClassId} {h : Nat → Nat} {σ : St} {sz : Nat} {post : St → Prop} (hwp : wp_X9_reads σ post) : Met l yX9_reads wsX9_reads rm_X9_reads (va_Pc [.ref (h 0)] (preS D cA K_M h σ sz)) (QV D cA K_M h sz post) 0 0 (aA K_M.length h sz) := by
  refine mk_met (cc := cX9_reads) (nL := 1) (ret := none) (own := RX9) 0 (by decide) rfl rfl rfl rfl ?_
  intro p e s m args below meth c ls hsz C hw hl hA
  subst hsz
  exact b_X9_reads_0 C hA (rt_v C _) hwp hw hl
-- X9_areGood
theorem hi_X9_areGood_X9 : ∀ w ∈ u_ws RX9 TX9 20, w ∈ wsX9_areGood := by decide +kernel
theorem hf_X9_areGood_30 : Cond.fieldLink RX9 30 (TX9 12).1 (TX9 12).2.1 (TX9 12).2.2.1 ∈ wsX9_areGood := by decide +kernel
theorem hf_X9_areGood_33 : Cond.fieldLink RX9 33 (TX9 13).1 (TX9 13).2.1 (TX9 13).2.2.1 ∈ wsX9_areGood := by decide +kernel
theorem hf_X9_areGood_36 : Cond.fieldLink RX9 36 (TX9 15).1 (TX9 15).2.1 (TX9 15).2.2.1 ∈ wsX9_areGood := by decide +kernel
def rm_X9_areGood : Room := { frames := 2, cells := 0, slots := 0, locals := 43 }
set_option maxRecDepth 100000 in
theorem b_X9_areGood_2 {σ : St} {post : Int → Prop} (C : cx p s m args meth c wsX9_areGood RX9 cX9_areGood 4 (some .boolean) D cA) (hA : ∀ q, s.heap.size ≤ q → A q) (hR : RtI p l e rm_X9_areGood s m args below meth c Q cX9_areGood D cA K_M h A (fun x => x = 0 ∨ x = 1) (fun r σ' => σ' = σ ∧ post r)) : ∀ (n : Nat) {v1 v2 : Int} {H : Heap} {locs : List Loc} {ls : Array Slot}, wp_X9_areGood_2 post n v1 v2 σ → wd D cA K_M h σ A s.heap H locs → lh ls 4 [some (.ref (h 0)), some (iv v1), some (iv v2), none] → W p l e rm_X9_areGood s m args below meth c H locs 0 0 Q (F0 m 2 ls []) := by
  intro n; induction n with
  | zero => intros; rename_i hwp _ _; exact hwp.elim
  | succ n ih =>
    intro v1 v2 H locs ls hwp hw hl
    refine r_iload_n C dX9_areGood_2 hl rfl ?_
    refine r_aload_n C dX9_areGood_3 hl rfl ?_
    refine r_getr C hw clX9 0 rfl 13 8 rfl (Nat.le_of_ble_eq_true rfl) hi_X9_areGood_X9 hf_X9_areGood_33 dX9_areGood_4 ?_
    refine r_iload_n C dX9_areGood_7 hl rfl ?_
    obtain ⟨h0, h1, hwp⟩ := hwp
    refine r_iald C hw 8 rfl rfl h0 h1 dX9_areGood_8 ?_
    obtain ⟨ra, rb, hT, hF⟩ := hwp
    refine r_icmp_ge C (tgt := 50) dX9_areGood_9 rfl ra rb (fun hc => ?_) (fun hc => ?_)
    · have hwp := hT hc
      refine r_const C dX9_areGood_50 ?_
      exact hR _ _ _ _ _ _ dX9_areGood_51 (Or.inr rfl) ⟨rfl, hwp⟩ hw
    · have hwp := hF hc
      refine r_aload_n C dX9_areGood_12 hl rfl ?_
      refine r_getr C hw clX9 0 rfl 15 9 rfl (Nat.le_of_ble_eq_true rfl) hi_X9_areGood_X9 hf_X9_areGood_36 dX9_areGood_13 ?_
      refine r_aload_n C dX9_areGood_16 hl rfl ?_
      refine r_getr C hw clX9 0 rfl 12 7 rfl (Nat.le_of_ble_eq_true rfl) hi_X9_areGood_X9 hf_X9_areGood_30 dX9_areGood_17 ?_
      refine r_iload_n C dX9_areGood_20 hl rfl ?_
      obtain ⟨h0, h1, hwp⟩ := hwp
      refine r_iald C hw 7 rfl rfl h0 h1 dX9_areGood_21 ?_
      refine r_iload_n C dX9_areGood_22 hl rfl ?_
      refine r_iadd C dX9_areGood_23 ?_
      obtain ⟨h0, h1, hwp⟩ := hwp
      refine r_iald C hw 9 rfl rfl h0 h1 dX9_areGood_24 ?_
      refine r_istore_n C dX9_areGood_25 hl (Nat.le_of_ble_eq_true rfl) (Nat.le_of_ble_eq_true rfl) rfl (fun ls hl => ?_)
      refine r_aload_n C dX9_areGood_26 hl rfl ?_
      refine r_iload_n C dX9_areGood_27 hl rfl ?_
      refine r_cIr0 hA hw (run_v0 C hw clX9 rfl (c_X9_areKept hwp) (cwV 1 C.2.2.2.2.1 gX9_areGood_X9_areKept rfl rfl rfl hd_X9_areKept ⟨Nat.le_of_ble_eq_true rfl, Nat.le_of_ble_eq_true rfl⟩) rfl rfl rfl hl dX9_areGood_28 ⟨Nat.zero_le _, Nat.zero_le _⟩) (fun r H locs hwp hw => ?_)
      obtain ⟨ra, hT, hF⟩ := hwp
      refine r_if_eq C (tgt := 42) dX9_areGood_31 rfl ra (fun hc => ?_) (fun hc => ?_)
      · have hwp := hT hc
        refine r_const C dX9_areGood_42 ?_
        exact hR _ _ _ _ _ _ dX9_areGood_43 (Or.inl rfl) ⟨rfl, hwp⟩ hw
      · have hwp := hF hc
        refine r_aload_n C dX9_areGood_34 hl rfl ?_
        refine r_iload_n C dX9_areGood_35 hl rfl ?_
        refine r_cIr0 hA hw (run_v0 C hw clX9 rfl (c_X9_isGood hwp) (cwV 1 C.2.2.2.2.1 gX9_areGood_X9_isGood rfl rfl rfl hd_X9_isGood ⟨Nat.le_of_ble_eq_true rfl, Nat.le_of_ble_eq_true rfl⟩) rfl rfl rfl hl dX9_areGood_36 ⟨Nat.zero_le _, Nat.zero_le _⟩) (fun r H locs hwp hw => ?_)
        obtain ⟨ra, hT, hF⟩ := hwp
        refine r_if_ne C (tgt := 44) dX9_areGood_39 rfl ra (fun hc => ?_) (fun hc => ?_)
        · have hwp := hT hc
          refine r_iinc C dX9_areGood_44 hl rfl (Nat.le_of_ble_eq_true rfl) rfl (fun ls hl => ?_)
          refine r_goto C (tgt := 2) dX9_areGood_47 rfl ?_
          exact ih hwp hw (lh_mask hl [true, true, true, false])
        · have hwp := hF hc
          refine r_const C dX9_areGood_42 ?_
          exact hR _ _ _ _ _ _ dX9_areGood_43 (Or.inl rfl) ⟨rfl, hwp⟩ hw
set_option maxRecDepth 100000 in
theorem b_X9_areGood_0 {σ : St} {post : Int → Prop} (C : cx p s m args meth c wsX9_areGood RX9 cX9_areGood 4 (some .boolean) D cA) (hA : ∀ q, s.heap.size ≤ q → A q) (hR : RtI p l e rm_X9_areGood s m args below meth c Q cX9_areGood D cA K_M h A (fun x => x = 0 ∨ x = 1) (fun r σ' => σ' = σ ∧ post r)) : ∀ {v1 : Int} {H : Heap} {locs : List Loc} {ls : Array Slot}, wp_X9_areGood σ v1 post → wd D cA K_M h σ A s.heap H locs → lh ls 4 [some (.ref (h 0)), some (iv v1), none, none] → W p l e rm_X9_areGood s m args below meth c H locs 0 0 Q (F0 m 0 ls []) := by
  intro v1 H locs ls hwp hw hl
  refine r_const C dX9_areGood_0 ?_
  refine r_istore_n C dX9_areGood_1 hl (Nat.le_of_ble_eq_true rfl) (Nat.le_of_ble_eq_true rfl) rfl (fun ls hl => ?_)
  obtain ⟨n9, hwp⟩ := hwp
  exact b_X9_areGood_2 C hA hR n9 hwp hw (lh_mask hl [true, true, true, false])
set_option maxRecDepth 100000 in
theorem c_X9_areGood {l : Launch} {D : va_G} {cA : FieldType → ClassId} {h : Nat → Nat} {σ : St} {sz : Nat} {v1 : Int} {post : Int → Prop} (hwp : wp_X9_areGood σ v1 post) : Met l yX9_areGood wsX9_areGood rm_X9_areGood (va_Pc [.ref (h 0), iv v1] (preS D cA K_M h σ sz)) (QI D cA K_M h sz (fun r σ' => σ' = σ ∧ post r)) 0 0 (aA K_M.length h sz) := by
  refine mk_met (cc := cX9_areGood) (nL := 4) (ret := (some .boolean)) (own := RX9) 2 (by decide) rfl rfl rfl rfl ?_
  intro p e s m args below meth c ls hsz C hw hl hA
  subst hsz
  exact b_X9_areGood_0 C hA (rt_z C _) hwp hw hl
-- X9_does
theorem hi_X9_does_X9 : ∀ w ∈ u_ws RX9 TX9 20, w ∈ wsX9_does := by decide +kernel
theorem hf_X9_does_9 : Cond.fieldLink RX9 9 (TX9 0).1 (TX9 0).2.1 (TX9 0).2.2.1 ∈ wsX9_does := by decide +kernel
theorem hf_X9_does_27 : Cond.fieldLink RX9 27 (TX9 11).1 (TX9 11).2.1 (TX9 11).2.2.1 ∈ wsX9_does := by decide +kernel
theorem hf_X9_does_30 : Cond.fieldLink RX9 30 (TX9 12).1 (TX9 12).2.1 (TX9 12).2.2.1 ∈ wsX9_does := by decide +kernel
theorem hf_X9_does_33 : Cond.fieldLink RX9 33 (TX9 13).1 (TX9 13).2.1 (TX9 13).2.2.1 ∈ wsX9_does := by decide +kernel
theorem hf_X9_does_36 : Cond.fieldLink RX9 36 (TX9 15).1 (TX9 15).2.1 (TX9 15).2.2.1 ∈ wsX9_does := by decide +kernel
def rm_X9_does : Room := { frames := 3, cells := 0, slots := 0, locals := 66 }
set_option maxRecDepth 100000 in
theorem b_X9_does_118 {post : Int → St → Prop} (C : cx p s m args meth c wsX9_does RX9 cX9_does 4 (some .boolean) D cA) (hA : ∀ q, s.heap.size ≤ q → A q) (hR : RtI p l e rm_X9_does s m args below meth c Q cX9_does D cA K_M h A (fun x => x = 0 ∨ x = 1) post) : ∀ (n : Nat) {v1 v3 : Int} {σ : St} {H : Heap} {locs : List Loc} {ls : Array Slot}, wp_X9_does_118 post n v1 v3 σ → wd D cA K_M h σ A s.heap H locs → lh ls 4 [some (.ref (h 0)), some (iv v1), none, some (iv v3)] → W p l e rm_X9_does s m args below meth c H locs 0 0 Q (F0 m 118 ls []) := by
  intro n; induction n with
  | zero => intros; rename_i hwp _ _; exact hwp.elim
  | succ n ih =>
    intro v1 v3 σ H locs ls hwp hw hl
    refine r_iload_n C dX9_does_118 hl rfl ?_
    refine r_aload_n C dX9_does_119 hl rfl ?_
    refine r_getr C hw clX9 0 rfl 13 8 rfl (Nat.le_of_ble_eq_true rfl) hi_X9_does_X9 hf_X9_does_33 dX9_does_120 ?_
    refine r_iload_n C dX9_does_123 hl rfl ?_
    obtain ⟨h0, h1, hwp⟩ := hwp
    refine r_iald C hw 8 rfl rfl h0 h1 dX9_does_124 ?_
    obtain ⟨ra, rb, hT, hF⟩ := hwp
    refine r_icmp_ge C (tgt := 156) dX9_does_125 rfl ra rb (fun hc => ?_) (fun hc => ?_)
    · have hwp := hT hc
      refine r_const C dX9_does_156 ?_
      exact hR _ _ _ _ _ _ dX9_does_157 (Or.inr rfl) hwp hw
    · have hwp := hF hc
      refine r_aload_n C dX9_does_128 hl rfl ?_
      refine r_getr C hw clX9 0 rfl 0 1 rfl (Nat.le_of_ble_eq_true rfl) hi_X9_does_X9 hf_X9_does_9 dX9_does_129 ?_
      refine r_bipush C dX9_does_132 bpb_24 ?_
      refine r_iload_n C dX9_does_134 hl rfl ?_
      refine r_iadd C dX9_does_135 ?_
      refine r_aload_n C dX9_does_136 hl rfl ?_
      refine r_getr C hw clX9 0 rfl 15 9 rfl (Nat.le_of_ble_eq_true rfl) hi_X9_does_X9 hf_X9_does_36 dX9_does_137 ?_
      refine r_aload_n C dX9_does_140 hl rfl ?_
      refine r_getr C hw clX9 0 rfl 12 7 rfl (Nat.le_of_ble_eq_true rfl) hi_X9_does_X9 hf_X9_does_30 dX9_does_141 ?_
      refine r_iload_n C dX9_does_144 hl rfl ?_
      obtain ⟨h0, h1, hwp⟩ := hwp
      refine r_iald C hw 7 rfl rfl h0 h1 dX9_does_145 ?_
      refine r_iload_n C dX9_does_146 hl rfl ?_
      refine r_iadd C dX9_does_147 ?_
      obtain ⟨h0, h1, hwp⟩ := hwp
      refine r_iald C hw 9 rfl rfl h0 h1 dX9_does_148 ?_
      obtain ⟨h0, h1, hwp⟩ := hwp
      refine r_iast C hw 1 rfl rfl h0 h1 dX9_does_149 (fun H locs hw => ?_)
      have hwp := hwp _ rfl
      refine r_iinc C dX9_does_150 hl rfl (Nat.le_of_ble_eq_true rfl) rfl (fun ls hl => ?_)
      refine r_goto C (tgt := 118) dX9_does_153 rfl ?_
      exact ih hwp hw (lh_mask hl [true, true, false, true])
set_option maxRecDepth 100000 in
theorem b_X9_does_182 {post : Int → St → Prop} (C : cx p s m args meth c wsX9_does RX9 cX9_does 4 (some .boolean) D cA) (hA : ∀ q, s.heap.size ≤ q → A q) (hR : RtI p l e rm_X9_does s m args below meth c Q cX9_does D cA K_M h A (fun x => x = 0 ∨ x = 1) post) : ∀ (n : Nat) {v1 v3 : Int} {σ : St} {H : Heap} {locs : List Loc} {ls : Array Slot}, wp_X9_does_182 post n v1 v3 σ → wd D cA K_M h σ A s.heap H locs → lh ls 4 [some (.ref (h 0)), some (iv v1), none, some (iv v3)] → W p l e rm_X9_does s m args below meth c H locs 0 0 Q (F0 m 182 ls []) := by
  intro n; induction n with
  | zero => intros; rename_i hwp _ _; exact hwp.elim
  | succ n ih =>
    intro v1 v3 σ H locs ls hwp hw hl
    refine r_iload_n C dX9_does_182 hl rfl ?_
    refine r_aload_n C dX9_does_183 hl rfl ?_
    refine r_getr C hw clX9 0 rfl 13 8 rfl (Nat.le_of_ble_eq_true rfl) hi_X9_does_X9 hf_X9_does_33 dX9_does_184 ?_
    refine r_iload_n C dX9_does_187 hl rfl ?_
    obtain ⟨h0, h1, hwp⟩ := hwp
    refine r_iald C hw 8 rfl rfl h0 h1 dX9_does_188 ?_
    obtain ⟨ra, rb, hT, hF⟩ := hwp
    refine r_icmp_ge C (tgt := 220) dX9_does_189 rfl ra rb (fun hc => ?_) (fun hc => ?_)
    · have hwp := hT hc
      refine r_const C dX9_does_220 ?_
      exact hR _ _ _ _ _ _ dX9_does_221 (Or.inr rfl) hwp hw
    · have hwp := hF hc
      refine r_aload_n C dX9_does_192 hl rfl ?_
      refine r_getr C hw clX9 0 rfl 0 1 rfl (Nat.le_of_ble_eq_true rfl) hi_X9_does_X9 hf_X9_does_9 dX9_does_193 ?_
      refine r_bipush C dX9_does_196 bpb_8 ?_
      refine r_iload_n C dX9_does_198 hl rfl ?_
      refine r_iadd C dX9_does_199 ?_
      refine r_aload_n C dX9_does_200 hl rfl ?_
      refine r_getr C hw clX9 0 rfl 15 9 rfl (Nat.le_of_ble_eq_true rfl) hi_X9_does_X9 hf_X9_does_36 dX9_does_201 ?_
      refine r_aload_n C dX9_does_204 hl rfl ?_
      refine r_getr C hw clX9 0 rfl 12 7 rfl (Nat.le_of_ble_eq_true rfl) hi_X9_does_X9 hf_X9_does_30 dX9_does_205 ?_
      refine r_iload_n C dX9_does_208 hl rfl ?_
      obtain ⟨h0, h1, hwp⟩ := hwp
      refine r_iald C hw 7 rfl rfl h0 h1 dX9_does_209 ?_
      refine r_iload_n C dX9_does_210 hl rfl ?_
      refine r_iadd C dX9_does_211 ?_
      obtain ⟨h0, h1, hwp⟩ := hwp
      refine r_iald C hw 9 rfl rfl h0 h1 dX9_does_212 ?_
      obtain ⟨h0, h1, hwp⟩ := hwp
      refine r_iast C hw 1 rfl rfl h0 h1 dX9_does_213 (fun H locs hw => ?_)
      have hwp := hwp _ rfl
      refine r_iinc C dX9_does_214 hl rfl (Nat.le_of_ble_eq_true rfl) rfl (fun ls hl => ?_)
      refine r_goto C (tgt := 182) dX9_does_217 rfl ?_
      exact ih hwp hw (lh_mask hl [true, true, false, true])
set_option maxRecDepth 100000 in
theorem b_X9_does_0 {post : Int → St → Prop} (C : cx p s m args meth c wsX9_does RX9 cX9_does 4 (some .boolean) D cA) (hA : ∀ q, s.heap.size ≤ q → A q) (hR : RtI p l e rm_X9_does s m args below meth c Q cX9_does D cA K_M h A (fun x => x = 0 ∨ x = 1) post) : ∀ {v1 : Int} {σ : St} {H : Heap} {locs : List Loc} {ls : Array Slot}, wp_X9_does σ v1 post → wd D cA K_M h σ A s.heap H locs → lh ls 4 [some (.ref (h 0)), some (iv v1), none, none] → W p l e rm_X9_does s m args below meth c H locs 0 0 Q (F0 m 0 ls []) := by
  intro v1 σ H locs ls hwp hw hl
  refine r_aload_n C dX9_does_0 hl rfl ?_
  refine r_getr C hw clX9 0 rfl 15 9 rfl (Nat.le_of_ble_eq_true rfl) hi_X9_does_X9 hf_X9_does_36 dX9_does_1 ?_
  refine r_aload_n C dX9_does_4 hl rfl ?_
  refine r_getr C hw clX9 0 rfl 12 7 rfl (Nat.le_of_ble_eq_true rfl) hi_X9_does_X9 hf_X9_does_30 dX9_does_5 ?_
  refine r_iload_n C dX9_does_8 hl rfl ?_
  obtain ⟨h0, h1, hwp⟩ := hwp
  refine r_iald C hw 7 rfl rfl h0 h1 dX9_does_9 ?_
  obtain ⟨h0, h1, hwp⟩ := hwp
  refine r_iald C hw 9 rfl rfl h0 h1 dX9_does_10 ?_
  refine r_istore_n C dX9_does_11 hl (Nat.le_of_ble_eq_true rfl) (Nat.le_of_ble_eq_true rfl) rfl (fun ls hl => ?_)
  refine r_aload_n C dX9_does_12 hl rfl ?_
  refine r_getr C hw clX9 0 rfl 11 6 rfl (Nat.le_of_ble_eq_true rfl) hi_X9_does_X9 hf_X9_does_27 dX9_does_13 ?_
  refine r_iload_n C dX9_does_16 hl rfl ?_
  obtain ⟨h0, h1, hwp⟩ := hwp
  refine r_iald C hw 6 rfl rfl h0 h1 dX9_does_17 ?_
  obtain ⟨ra, hS0, hS1, hS2, hS3, hD⟩ := hwp
  rcases lk_98_99_110_115 ra with hc | hc | hc | hc | hc
  · have hwp := hS0 hc
    refine r_look C (tgt := 74) dX9_does_18 ra rfl (by rw [hc] <;> rfl) rfl ?_
    refine r_aload_n C dX9_does_74 hl rfl ?_
    refine r_const C dX9_does_75 ?_
    refine r_iload_n C dX9_does_76 hl rfl ?_
    refine r_cI0 hA hw (run_v0 C hw clX9 rfl (c_X9_calls hwp) (cwV 2 C.2.2.2.2.1 gX9_does_X9_calls rfl rfl rfl hd_X9_calls ⟨Nat.le_of_ble_eq_true rfl, Nat.le_of_ble_eq_true rfl⟩) rfl rfl rfl hl dX9_does_77 ⟨Nat.zero_le _, Nat.zero_le _⟩) (fun r σ H locs hwp hw => ?_)
    obtain ⟨ra, hT, hF⟩ := hwp
    refine r_if_lt C (tgt := 87) dX9_does_80 rfl ra (fun hc => ?_) (fun hc => ?_)
    · have hwp := hT hc
      refine r_const C dX9_does_87 ?_
      exact hR _ _ _ _ _ _ dX9_does_88 (Or.inl rfl) hwp hw
    · have hwp := hF hc
      refine r_const C dX9_does_83 ?_
      refine r_goto C (tgt := 88) dX9_does_84 rfl ?_
      exact hR _ _ _ _ _ _ dX9_does_88 (Or.inr rfl) hwp hw
  · have hwp := hS1 hc
    refine r_look C (tgt := 104) dX9_does_18 ra rfl (by rw [hc] <;> rfl) rfl ?_
    refine r_aload_n C dX9_does_104 hl rfl ?_
    refine r_getr C hw clX9 0 rfl 0 1 rfl (Nat.le_of_ble_eq_true rfl) hi_X9_does_X9 hf_X9_does_9 dX9_does_105 ?_
    refine r_const C dX9_does_108 ?_
    refine r_aload_n C dX9_does_109 hl rfl ?_
    refine r_getr C hw clX9 0 rfl 13 8 rfl (Nat.le_of_ble_eq_true rfl) hi_X9_does_X9 hf_X9_does_33 dX9_does_110 ?_
    refine r_iload_n C dX9_does_113 hl rfl ?_
    obtain ⟨h0, h1, hwp⟩ := hwp
    refine r_iald C hw 8 rfl rfl h0 h1 dX9_does_114 ?_
    refine r_iast C hw 1 rfl rfl (by decide) (by decide) dX9_does_115 (fun H locs hw => ?_)
    have hwp := hwp _ rfl
    refine r_const C dX9_does_116 ?_
    refine r_istore_n C dX9_does_117 hl (Nat.le_of_ble_eq_true rfl) (Nat.le_of_ble_eq_true rfl) rfl (fun ls hl => ?_)
    obtain ⟨n9, hwp⟩ := hwp
    exact b_X9_does_118 C hA hR n9 hwp hw (lh_mask hl [true, true, false, true])
  · have hwp := hS2 hc
    refine r_look C (tgt := 60) dX9_does_18 ra rfl (by rw [hc] <;> rfl) rfl ?_
    refine r_aload_n C dX9_does_60 hl rfl ?_
    refine r_iload_n C dX9_does_61 hl rfl ?_
    refine r_cI0 hA hw (run_v0 C hw clX9 rfl (c_X9_bells hwp) (cwV 1 C.2.2.2.2.1 gX9_does_X9_bells rfl rfl rfl hd_X9_bells ⟨Nat.le_of_ble_eq_true rfl, Nat.le_of_ble_eq_true rfl⟩) rfl rfl rfl hl dX9_does_62 ⟨Nat.zero_le _, Nat.zero_le _⟩) (fun r σ H locs hwp hw => ?_)
    obtain ⟨ra, hT, hF⟩ := hwp
    refine r_if_lt C (tgt := 72) dX9_does_65 rfl ra (fun hc => ?_) (fun hc => ?_)
    · have hwp := hT hc
      refine r_const C dX9_does_72 ?_
      exact hR _ _ _ _ _ _ dX9_does_73 (Or.inl rfl) hwp hw
    · have hwp := hF hc
      refine r_const C dX9_does_68 ?_
      refine r_goto C (tgt := 73) dX9_does_69 rfl ?_
      exact hR _ _ _ _ _ _ dX9_does_73 (Or.inr rfl) hwp hw
  · have hwp := hS3 hc
    refine r_look C (tgt := 89) dX9_does_18 ra rfl (by rw [hc] <;> rfl) rfl ?_
    refine r_aload_n C dX9_does_89 hl rfl ?_
    refine r_const C dX9_does_90 ?_
    refine r_iload_n C dX9_does_91 hl rfl ?_
    refine r_cI0 hA hw (run_v0 C hw clX9 rfl (c_X9_calls hwp) (cwV 2 C.2.2.2.2.1 gX9_does_X9_calls rfl rfl rfl hd_X9_calls ⟨Nat.le_of_ble_eq_true rfl, Nat.le_of_ble_eq_true rfl⟩) rfl rfl rfl hl dX9_does_92 ⟨Nat.zero_le _, Nat.zero_le _⟩) (fun r σ H locs hwp hw => ?_)
    obtain ⟨ra, hT, hF⟩ := hwp
    refine r_if_lt C (tgt := 102) dX9_does_95 rfl ra (fun hc => ?_) (fun hc => ?_)
    · have hwp := hT hc
      refine r_const C dX9_does_102 ?_
      exact hR _ _ _ _ _ _ dX9_does_103 (Or.inl rfl) hwp hw
    · have hwp := hF hc
      refine r_const C dX9_does_98 ?_
      refine r_goto C (tgt := 103) dX9_does_99 rfl ?_
      exact hR _ _ _ _ _ _ dX9_does_103 (Or.inr rfl) hwp hw
  · have hwp := hD hc
    refine r_look C (tgt := 158) dX9_does_18 ra rfl (lo_98_99_110_115 hc) rfl ?_
    refine r_aload_n C dX9_does_158 hl rfl ?_
    refine r_iload_n C dX9_does_159 hl rfl ?_
    refine r_cIr0 hA hw (run_v0 C hw clX9 rfl (c_X9_areGood hwp) (cwV 1 C.2.2.2.2.1 gX9_does_X9_areGood rfl rfl rfl hd_X9_areGood ⟨Nat.le_of_ble_eq_true rfl, Nat.le_of_ble_eq_true rfl⟩) rfl rfl rfl hl dX9_does_160 ⟨Nat.zero_le _, Nat.zero_le _⟩) (fun r H locs hwp hw => ?_)
    obtain ⟨ra, hT, hF⟩ := hwp
    refine r_if_ne C (tgt := 168) dX9_does_163 rfl ra (fun hc => ?_) (fun hc => ?_)
    · have hwp := hT hc
      refine r_aload_n C dX9_does_168 hl rfl ?_
      refine r_getr C hw clX9 0 rfl 0 1 rfl (Nat.le_of_ble_eq_true rfl) hi_X9_does_X9 hf_X9_does_9 dX9_does_169 ?_
      refine r_const C dX9_does_172 ?_
      refine r_aload_n C dX9_does_173 hl rfl ?_
      refine r_getr C hw clX9 0 rfl 13 8 rfl (Nat.le_of_ble_eq_true rfl) hi_X9_does_X9 hf_X9_does_33 dX9_does_174 ?_
      refine r_iload_n C dX9_does_177 hl rfl ?_
      obtain ⟨h0, h1, hwp⟩ := hwp
      refine r_iald C hw 8 rfl rfl h0 h1 dX9_does_178 ?_
      refine r_iast C hw 1 rfl rfl (by decide) (by decide) dX9_does_179 (fun H locs hw => ?_)
      have hwp := hwp _ rfl
      refine r_const C dX9_does_180 ?_
      refine r_istore_n C dX9_does_181 hl (Nat.le_of_ble_eq_true rfl) (Nat.le_of_ble_eq_true rfl) rfl (fun ls hl => ?_)
      obtain ⟨n9, hwp⟩ := hwp
      exact b_X9_does_182 C hA hR n9 hwp hw (lh_mask hl [true, true, false, true])
    · have hwp := hF hc
      refine r_const C dX9_does_166 ?_
      exact hR _ _ _ _ _ _ dX9_does_167 (Or.inl rfl) hwp hw
set_option maxRecDepth 100000 in
theorem c_X9_does {l : Launch} {D : va_G} {cA : FieldType → ClassId} {h : Nat → Nat} {σ : St} {sz : Nat} {v1 : Int} {post : Int → St → Prop} (hwp : wp_X9_does σ v1 post) : Met l yX9_does wsX9_does rm_X9_does (va_Pc [.ref (h 0), iv v1] (preS D cA K_M h σ sz)) (QI D cA K_M h sz post) 0 0 (aA K_M.length h sz) := by
  refine mk_met (cc := cX9_does) (nL := 4) (ret := (some .boolean)) (own := RX9) 2 (by decide) rfl rfl rfl rfl ?_
  intro p e s m args below meth c ls hsz C hw hl hA
  subst hsz
  exact b_X9_does_0 C hA (rt_z C _) hwp hw hl
-- X9_read
theorem hi_X9_read_X9 : ∀ w ∈ u_ws RX9 TX9 20, w ∈ wsX9_read := by decide +kernel
theorem hf_X9_read_71 : Cond.fieldLink RX9 71 (TX9 6).1 (TX9 6).2.1 (TX9 6).2.2.1 ∈ wsX9_read := by decide +kernel
theorem hf_X9_read_75 : Cond.fieldLink RX9 75 (TX9 8).1 (TX9 8).2.1 (TX9 8).2.2.1 ∈ wsX9_read := by decide +kernel
theorem hf_X9_read_78 : Cond.fieldLink RX9 78 (TX9 9).1 (TX9 9).2.1 (TX9 9).2.2.1 ∈ wsX9_read := by decide +kernel
theorem hf_X9_read_84 : Cond.fieldLink RX9 84 (TX9 10).1 (TX9 10).2.1 (TX9 10).2.2.1 ∈ wsX9_read := by decide +kernel
theorem hf_X9_read_81 : Cond.fieldLink RX9 81 (TX9 14).1 (TX9 14).2.1 (TX9 14).2.2.1 ∈ wsX9_read := by decide +kernel
def rm_X9_read : Room := { frames := 5, cells := 0, slots := 0, locals := 107 }
set_option maxRecDepth 100000 in
theorem b_X9_read_146 {post : Int → St → Prop} (C : cx p s m args meth c wsX9_read RX9 cX9_read 4 (some .int) D cA) (hA : ∀ q, s.heap.size ≤ q → A q) (hR : RtI p l e rm_X9_read s m args below meth c Q cX9_read D cA K_M h A (fun _ => True) post) {k127 : Int → Int → St → Prop} (hk127 : ∀ {v2 v3 : Int} {σ : St} {H : Heap} {locs : List Loc} {ls : Array Slot}, k127 v2 v3 σ → wd D cA K_M h σ A s.heap H locs → lh ls 4 [some (.ref (h 0)), none, some (iv v2), some (iv v3)] → W p l e rm_X9_read s m args below meth c H locs 0 0 Q (F0 m 127 ls [])) : ∀ {v2 v3 : Int} {σ : St} {H : Heap} {locs : List Loc} {ls : Array Slot}, wp_X9_read_146 k127 post v2 v3 σ → wd D cA K_M h σ A s.heap H locs → lh ls 4 [some (.ref (h 0)), none, some (iv v2), some (iv v3)] → W p l e rm_X9_read s m args below meth c H locs 0 0 Q (F0 m 146 ls []) := by
  intro v2 v3 σ H locs ls hwp hw hl
  refine r_iinc C dX9_read_146 hl rfl (Nat.le_of_ble_eq_true rfl) rfl (fun ls hl => ?_)
  refine r_goto C (tgt := 127) dX9_read_149 rfl ?_
  exact hk127 hwp hw (lh_mask hl [true, false, true, true])
set_option maxRecDepth 100000 in
theorem b_X9_read_127 {post : Int → St → Prop} (C : cx p s m args meth c wsX9_read RX9 cX9_read 4 (some .int) D cA) (hA : ∀ q, s.heap.size ≤ q → A q) (hR : RtI p l e rm_X9_read s m args below meth c Q cX9_read D cA K_M h A (fun _ => True) post) : ∀ (n : Nat) {v2 v3 : Int} {σ : St} {H : Heap} {locs : List Loc} {ls : Array Slot}, wp_X9_read_127 post n v2 v3 σ → wd D cA K_M h σ A s.heap H locs → lh ls 4 [some (.ref (h 0)), none, some (iv v2), some (iv v3)] → W p l e rm_X9_read s m args below meth c H locs 0 0 Q (F0 m 127 ls []) := by
  intro n; induction n with
  | zero => intros; rename_i hwp _ _; exact hwp.elim
  | succ n ih =>
    intro v2 v3 σ H locs ls hwp hw hl
    refine r_iload_n C dX9_read_127 hl rfl ?_
    refine r_aload_n C dX9_read_128 hl rfl ?_
    refine r_get C hw clX9 0 rfl 10 10 rfl rfl (Nat.le_of_ble_eq_true rfl) hi_X9_read_X9 hf_X9_read_84 dX9_read_129 ?_
    obtain ⟨ra, rb, hT, hF⟩ := hwp
    refine r_icmp_ge C (tgt := 152) dX9_read_132 rfl ra rb (fun hc => ?_) (fun hc => ?_)
    · have hwp := hT hc
      refine r_iload_n C dX9_read_152 hl rfl ?_
      exact hR _ _ _ _ _ _ dX9_read_153 trivial hwp hw
    · have hwp := hF hc
      refine r_aload_n C dX9_read_135 hl rfl ?_
      refine r_iload_n C dX9_read_136 hl rfl ?_
      refine r_cI0 hA hw (run_v0 C hw clX9 rfl (c_X9_does hwp) (cwV 1 C.2.2.2.2.1 gX9_read_X9_does rfl rfl rfl hd_X9_does ⟨Nat.le_of_ble_eq_true rfl, Nat.le_of_ble_eq_true rfl⟩) rfl rfl rfl hl dX9_read_137 ⟨Nat.zero_le _, Nat.zero_le _⟩) (fun r σ H locs hwp hw => ?_)
      obtain ⟨ra, hT, hF⟩ := hwp
      refine r_if_eq C (tgt := 146) dX9_read_140 rfl ra (fun hc => ?_) (fun hc => ?_)
      · have hwp := hT hc
        exact b_X9_read_146 C hA hR ih hwp hw (lh_mask hl [true, false, true, true])
      · have hwp := hF hc
        refine r_iinc C dX9_read_143 hl rfl (Nat.le_of_ble_eq_true rfl) rfl (fun ls hl => ?_)
        exact b_X9_read_146 C hA hR ih hwp hw (lh_mask hl [true, false, true, true])
set_option maxRecDepth 100000 in
theorem b_X9_read_103 {post : Int → St → Prop} (C : cx p s m args meth c wsX9_read RX9 cX9_read 4 (some .int) D cA) (hA : ∀ q, s.heap.size ≤ q → A q) (hR : RtI p l e rm_X9_read s m args below meth c Q cX9_read D cA K_M h A (fun _ => True) post) : ∀ {σ : St} {H : Heap} {locs : List Loc} {ls : Array Slot}, wp_X9_read_103 post σ → wd D cA K_M h σ A s.heap H locs → lh ls 4 [some (.ref (h 0)), none, none, none] → W p l e rm_X9_read s m args below meth c H locs 0 0 Q (F0 m 103 ls []) := by
  intro σ H locs ls hwp hw hl
  refine r_aload_n C dX9_read_103 hl rfl ?_
  refine r_const C dX9_read_104 ?_
  refine r_put C hw clX9 0 rfl 6 6 rfl rfl (Nat.le_of_ble_eq_true rfl) hi_X9_read_X9 hf_X9_read_71 rfl ⟨nar_i _, fit_i _⟩ dX9_read_105 (fun H locs hw => ?_)
  have hwp := hwp _ rfl
  refine r_aload_n C dX9_read_108 hl rfl ?_
  refine r_get C hw clX9 0 rfl 9 9 rfl rfl (Nat.le_of_ble_eq_true rfl) hi_X9_read_X9 hf_X9_read_78 dX9_read_109 ?_
  obtain ⟨ra, hT, hF⟩ := hwp
  refine r_if_lt C (tgt := 123) dX9_read_112 rfl ra (fun hc => ?_) (fun hc => ?_)
  · have hwp := hT hc
    refine r_const C dX9_read_123 ?_
    refine r_istore_n C dX9_read_124 hl (Nat.le_of_ble_eq_true rfl) (Nat.le_of_ble_eq_true rfl) rfl (fun ls hl => ?_)
    refine r_const C dX9_read_125 ?_
    refine r_istore_n C dX9_read_126 hl (Nat.le_of_ble_eq_true rfl) (Nat.le_of_ble_eq_true rfl) rfl (fun ls hl => ?_)
    obtain ⟨n9, hwp⟩ := hwp
    exact b_X9_read_127 C hA hR n9 hwp hw (lh_mask hl [true, false, true, true])
  · have hwp := hF hc
    refine r_bipush C dX9_read_115 bpb_m10 ?_
    refine r_aload_n C dX9_read_117 hl rfl ?_
    refine r_get C hw clX9 0 rfl 9 9 rfl rfl (Nat.le_of_ble_eq_true rfl) hi_X9_read_X9 hf_X9_read_78 dX9_read_118 ?_
    refine r_isub C dX9_read_121 ?_
    exact hR _ _ _ _ _ _ dX9_read_122 trivial hwp hw
set_option maxRecDepth 100000 in
theorem b_X9_read_90 {post : Int → St → Prop} (C : cx p s m args meth c wsX9_read RX9 cX9_read 4 (some .int) D cA) (hA : ∀ q, s.heap.size ≤ q → A q) (hR : RtI p l e rm_X9_read s m args below meth c Q cX9_read D cA K_M h A (fun _ => True) post) {k22 : Int → St → Prop} (hk22 : ∀ {v1 : Int} {σ : St} {H : Heap} {locs : List Loc} {ls : Array Slot}, k22 v1 σ → wd D cA K_M h σ A s.heap H locs → lh ls 4 [some (.ref (h 0)), some (iv v1), none, none] → W p l e rm_X9_read s m args below meth c H locs 0 0 Q (F0 m 22 ls [])) : ∀ {v1 : Int} {σ : St} {H : Heap} {locs : List Loc} {ls : Array Slot}, wp_X9_read_90 k22 post v1 σ → wd D cA K_M h σ A s.heap H locs → lh ls 4 [some (.ref (h 0)), some (iv v1), none, none] → W p l e rm_X9_read s m args below meth c H locs 0 0 Q (F0 m 90 ls []) := by
  intro v1 σ H locs ls hwp hw hl
  refine r_aload_n C dX9_read_90 hl rfl ?_
  refine r_dup C dX9_read_91 rfl ?_
  refine r_get C hw clX9 0 rfl 8 8 rfl rfl (Nat.le_of_ble_eq_true rfl) hi_X9_read_X9 hf_X9_read_75 dX9_read_92 ?_
  refine r_const C dX9_read_95 ?_
  refine r_iadd C dX9_read_96 ?_
  refine r_put C hw clX9 0 rfl 8 8 rfl rfl (Nat.le_of_ble_eq_true rfl) hi_X9_read_X9 hf_X9_read_75 rfl ⟨nar_i _, fit_i _⟩ dX9_read_97 (fun H locs hw => ?_)
  have hwp := hwp _ rfl
  refine r_goto C (tgt := 22) dX9_read_100 rfl ?_
  exact hk22 hwp hw (lh_mask hl [true, true, false, false])
set_option maxRecDepth 100000 in
theorem b_X9_read_86 {post : Int → St → Prop} (C : cx p s m args meth c wsX9_read RX9 cX9_read 4 (some .int) D cA) (hA : ∀ q, s.heap.size ≤ q → A q) (hR : RtI p l e rm_X9_read s m args below meth c Q cX9_read D cA K_M h A (fun _ => True) post) {k22 : Int → St → Prop} (hk22 : ∀ {v1 : Int} {σ : St} {H : Heap} {locs : List Loc} {ls : Array Slot}, k22 v1 σ → wd D cA K_M h σ A s.heap H locs → lh ls 4 [some (.ref (h 0)), some (iv v1), none, none] → W p l e rm_X9_read s m args below meth c H locs 0 0 Q (F0 m 22 ls [])) : ∀ {v1 : Int} {σ : St} {H : Heap} {locs : List Loc} {ls : Array Slot}, wp_X9_read_86 k22 post v1 σ → wd D cA K_M h σ A s.heap H locs → lh ls 4 [some (.ref (h 0)), some (iv v1), none, none] → W p l e rm_X9_read s m args below meth c H locs 0 0 Q (F0 m 86 ls []) := by
  intro v1 σ H locs ls hwp hw hl
  refine r_aload_n C dX9_read_86 hl rfl ?_
  refine r_cV0 hA hw (run_v0 C hw clX9 rfl (c_X9_wrong hwp) (cwV 0 C.2.2.2.2.1 gX9_read_X9_wrong rfl rfl rfl hd_X9_wrong ⟨Nat.le_of_ble_eq_true rfl, Nat.le_of_ble_eq_true rfl⟩) rfl rfl rfl hl dX9_read_87 ⟨Nat.zero_le _, Nat.zero_le _⟩) (fun σ H locs hwp hw => ?_)
  exact b_X9_read_90 C hA hR hk22 hwp hw (lh_mask hl [true, true, false, false])
set_option maxRecDepth 100000 in
theorem b_X9_read_63 {post : Int → St → Prop} (C : cx p s m args meth c wsX9_read RX9 cX9_read 4 (some .int) D cA) (hA : ∀ q, s.heap.size ≤ q → A q) (hR : RtI p l e rm_X9_read s m args below meth c Q cX9_read D cA K_M h A (fun _ => True) post) {k22 : Int → St → Prop} (hk22 : ∀ {v1 : Int} {σ : St} {H : Heap} {locs : List Loc} {ls : Array Slot}, k22 v1 σ → wd D cA K_M h σ A s.heap H locs → lh ls 4 [some (.ref (h 0)), some (iv v1), none, none] → W p l e rm_X9_read s m args below meth c H locs 0 0 Q (F0 m 22 ls [])) : ∀ {s0 : Int} {σ : St} {H : Heap} {locs : List Loc} {ls : Array Slot}, wp_X9_read_63 k22 post s0 σ → wd D cA K_M h σ A s.heap H locs → lh ls 4 [some (.ref (h 0)), none, none, none] → W p l e rm_X9_read s m args below meth c H locs 0 0 Q (F0 m 63 ls [iv s0]) := by
  intro s0 σ H locs ls hwp hw hl
  refine r_istore_n C dX9_read_63 hl (Nat.le_of_ble_eq_true rfl) (Nat.le_of_ble_eq_true rfl) rfl (fun ls hl => ?_)
  refine r_iload_n C dX9_read_64 hl rfl ?_
  obtain ⟨ra, hT, hF⟩ := hwp
  refine r_if_eq C (tgt := 90) dX9_read_65 rfl ra (fun hc => ?_) (fun hc => ?_)
  · have hwp := hT hc
    exact b_X9_read_90 C hA hR hk22 hwp hw (lh_mask hl [true, true, false, false])
  · have hwp := hF hc
    refine r_aload_n C dX9_read_68 hl rfl ?_
    refine r_cIr0 hA hw (run_v0 C hw clX9 rfl (c_X9_sign hwp) (cwV 0 C.2.2.2.2.1 gX9_read_X9_sign rfl rfl rfl hd_X9_sign ⟨Nat.le_of_ble_eq_true rfl, Nat.le_of_ble_eq_true rfl⟩) rfl rfl rfl hl dX9_read_69 ⟨Nat.zero_le _, Nat.zero_le _⟩) (fun r H locs hwp hw => ?_)
    refine r_bipush C dX9_read_72 bpb_59 ?_
    obtain ⟨ra, hT, hF⟩ := hwp
    refine r_icmp_ne C (tgt := 86) dX9_read_74 rfl ra (by decide) (fun hc => ?_) (fun hc => ?_)
    · have hwp := hT hc
      exact b_X9_read_86 C hA hR hk22 hwp hw (lh_mask hl [true, true, false, false])
    · have hwp := hF hc
      refine r_aload_n C dX9_read_77 hl rfl ?_
      refine r_get C hw clX9 0 rfl 10 10 rfl rfl (Nat.le_of_ble_eq_true rfl) hi_X9_read_X9 hf_X9_read_84 dX9_read_78 ?_
      refine r_bipush C dX9_read_81 bpb_10 ?_
      obtain ⟨ra, hT, hF⟩ := hwp
      refine r_icmp_ne C (tgt := 90) dX9_read_83 rfl ra (by decide) (fun hc => ?_) (fun hc => ?_)
      · have hwp := hT hc
        exact b_X9_read_90 C hA hR hk22 hwp hw (lh_mask hl [true, true, false, false])
      · have hwp := hF hc
        exact b_X9_read_86 C hA hR hk22 hwp hw (lh_mask hl [true, true, false, false])
set_option maxRecDepth 100000 in
theorem b_X9_read_22 {post : Int → St → Prop} (C : cx p s m args meth c wsX9_read RX9 cX9_read 4 (some .int) D cA) (hA : ∀ q, s.heap.size ≤ q → A q) (hR : RtI p l e rm_X9_read s m args below meth c Q cX9_read D cA K_M h A (fun _ => True) post) : ∀ (n : Nat) {v1 : Int} {σ : St} {H : Heap} {locs : List Loc} {ls : Array Slot}, wp_X9_read_22 post n v1 σ → wd D cA K_M h σ A s.heap H locs → lh ls 4 [some (.ref (h 0)), some (iv v1), none, none] → W p l e rm_X9_read s m args below meth c H locs 0 0 Q (F0 m 22 ls []) := by
  intro n; induction n with
  | zero => intros; rename_i hwp _ _; exact hwp.elim
  | succ n ih =>
    intro v1 σ H locs ls hwp hw hl
    refine r_iload_n C dX9_read_22 hl rfl ?_
    obtain ⟨ra, hT, hF⟩ := hwp
    refine r_if_eq C (tgt := 103) dX9_read_23 rfl ra (fun hc => ?_) (fun hc => ?_)
    · have hwp := hT hc
      exact b_X9_read_103 C hA hR hwp hw (lh_mask hl [true, false, false, false])
    · have hwp := hF hc
      refine r_aload_n C dX9_read_26 hl rfl ?_
      refine r_get C hw clX9 0 rfl 9 9 rfl rfl (Nat.le_of_ble_eq_true rfl) hi_X9_read_X9 hf_X9_read_78 dX9_read_27 ?_
      obtain ⟨ra, hT, hF⟩ := hwp
      refine r_if_ge C (tgt := 103) dX9_read_30 rfl ra (fun hc => ?_) (fun hc => ?_)
      · have hwp := hT hc
        exact b_X9_read_103 C hA hR hwp hw (lh_mask hl [true, false, false, false])
      · have hwp := hF hc
        refine r_aload_n C dX9_read_33 hl rfl ?_
        refine r_cV0 hA hw (run_v0 C hw clX9 rfl (c_X9_reads hwp) (cwV 0 C.2.2.2.2.1 gX9_read_X9_reads rfl rfl rfl hd_X9_reads ⟨Nat.le_of_ble_eq_true rfl, Nat.le_of_ble_eq_true rfl⟩) rfl rfl rfl hl dX9_read_34 ⟨Nat.zero_le _, Nat.zero_le _⟩) (fun σ H locs hwp hw => ?_)
        refine r_aload_n C dX9_read_37 hl rfl ?_
        refine r_get C hw clX9 0 rfl 9 9 rfl rfl (Nat.le_of_ble_eq_true rfl) hi_X9_read_X9 hf_X9_read_78 dX9_read_38 ?_
        obtain ⟨ra, hT, hF⟩ := hwp
        refine r_if_lt C (tgt := 47) dX9_read_41 rfl ra (fun hc => ?_) (fun hc => ?_)
        · have hwp := hT hc
          refine r_aload_n C dX9_read_47 hl rfl ?_
          refine r_get C hw clX9 0 rfl 8 8 rfl rfl (Nat.le_of_ble_eq_true rfl) hi_X9_read_X9 hf_X9_read_75 dX9_read_48 ?_
          refine r_aload_n C dX9_read_51 hl rfl ?_
          refine r_get C hw clX9 0 rfl 6 6 rfl rfl (Nat.le_of_ble_eq_true rfl) hi_X9_read_X9 hf_X9_read_71 dX9_read_52 ?_
          obtain ⟨ra, rb, hT, hF⟩ := hwp
          refine r_icmp_ge C (tgt := 62) dX9_read_55 rfl ra rb (fun hc => ?_) (fun hc => ?_)
          · have hwp := hT hc
            refine r_const C dX9_read_62 ?_
            exact b_X9_read_63 C hA hR ih hwp hw (lh_mask hl [true, false, false, false])
          · have hwp := hF hc
            refine r_const C dX9_read_58 ?_
            refine r_goto C (tgt := 63) dX9_read_59 rfl ?_
            exact b_X9_read_63 C hA hR ih hwp hw (lh_mask hl [true, false, false, false])
        · have hwp := hF hc
          refine r_goto C (tgt := 103) dX9_read_44 rfl ?_
          exact b_X9_read_103 C hA hR hwp hw (lh_mask hl [true, false, false, false])
set_option maxRecDepth 100000 in
theorem b_X9_read_0 {post : Int → St → Prop} (C : cx p s m args meth c wsX9_read RX9 cX9_read 4 (some .int) D cA) (hA : ∀ q, s.heap.size ≤ q → A q) (hR : RtI p l e rm_X9_read s m args below meth c Q cX9_read D cA K_M h A (fun _ => True) post) : ∀ {σ : St} {H : Heap} {locs : List Loc} {ls : Array Slot}, wp_X9_read σ post → wd D cA K_M h σ A s.heap H locs → lh ls 4 [some (.ref (h 0)), none, none, none] → W p l e rm_X9_read s m args below meth c H locs 0 0 Q (F0 m 0 ls []) := by
  intro σ H locs ls hwp hw hl
  refine r_aload_n C dX9_read_0 hl rfl ?_
  refine r_const C dX9_read_1 ?_
  refine r_put C hw clX9 0 rfl 8 8 rfl rfl (Nat.le_of_ble_eq_true rfl) hi_X9_read_X9 hf_X9_read_75 rfl ⟨nar_i _, fit_i _⟩ dX9_read_2 (fun H locs hw => ?_)
  have hwp := hwp _ rfl
  refine r_aload_n C dX9_read_5 hl rfl ?_
  refine r_const C dX9_read_6 ?_
  refine r_put C hw clX9 0 rfl 9 9 rfl rfl (Nat.le_of_ble_eq_true rfl) hi_X9_read_X9 hf_X9_read_78 rfl ⟨nar_i _, fit_i _⟩ dX9_read_7 (fun H locs hw => ?_)
  have hwp := hwp _ rfl
  refine r_aload_n C dX9_read_10 hl rfl ?_
  refine r_const C dX9_read_11 ?_
  refine r_put C hw clX9 0 rfl 10 10 rfl rfl (Nat.le_of_ble_eq_true rfl) hi_X9_read_X9 hf_X9_read_84 rfl ⟨nar_i _, fit_i _⟩ dX9_read_12 (fun H locs hw => ?_)
  have hwp := hwp _ rfl
  refine r_aload_n C dX9_read_15 hl rfl ?_
  refine r_const C dX9_read_16 ?_
  refine r_put C hw clX9 0 rfl 14 14 rfl rfl (Nat.le_of_ble_eq_true rfl) hi_X9_read_X9 hf_X9_read_81 rfl ⟨nar_i _, fit_i _⟩ dX9_read_17 (fun H locs hw => ?_)
  have hwp := hwp _ rfl
  refine r_const C dX9_read_20 ?_
  refine r_istore_n C dX9_read_21 hl (Nat.le_of_ble_eq_true rfl) (Nat.le_of_ble_eq_true rfl) rfl (fun ls hl => ?_)
  obtain ⟨n9, hwp⟩ := hwp
  exact b_X9_read_22 C hA hR n9 hwp hw (lh_mask hl [true, true, false, false])
set_option maxRecDepth 100000 in
theorem c_X9_read {l : Launch} {D : va_G} {cA : FieldType → ClassId} {h : Nat → Nat} {σ : St} {sz : Nat} {post : Int → St → Prop} (hwp : wp_X9_read σ post) : Met l yX9_read wsX9_read rm_X9_read (va_Pc [.ref (h 0)] (preS D cA K_M h σ sz)) (QI D cA K_M h sz post) 0 0 (aA K_M.length h sz) := by
  refine mk_met (cc := cX9_read) (nL := 4) (ret := (some .int)) (own := RX9) 3 (by decide) rfl rfl rfl rfl ?_
  intro p e s m args below meth c ls hsz C hw hl hA
  subst hsz
  exact b_X9_read_0 C hA (rt_i C _) hwp hw hl
-- X9_keys
theorem hi_X9_keys_X9 : ∀ w ∈ u_ws RX9 TX9 20, w ∈ wsX9_keys := by decide +kernel
theorem hf_X9_keys_9 : Cond.fieldLink RX9 9 (TX9 0).1 (TX9 0).2.1 (TX9 0).2.2.1 ∈ wsX9_keys := by decide +kernel
theorem hf_X9_keys_18 : Cond.fieldLink RX9 18 (TX9 4).1 (TX9 4).2.1 (TX9 4).2.2.1 ∈ wsX9_keys := by decide +kernel
theorem hf_X9_keys_21 : Cond.fieldLink RX9 21 (TX9 5).1 (TX9 5).2.1 (TX9 5).2.2.1 ∈ wsX9_keys := by decide +kernel
def rm_X9_keys : Room := { frames := 0, cells := 0, slots := 0, locals := 0 }
set_option maxRecDepth 100000 in
theorem b_X9_keys_4 {post : St → Prop} (C : cx p s m args meth c wsX9_keys RX9 cX9_keys 4 none D cA) (hA : ∀ q, s.heap.size ≤ q → A q) (hR : RtV p l e rm_X9_keys s m args below meth c Q cX9_keys D cA K_M h A post) : ∀ (n : Nat) {v1 v2 v3 : Int} {σ : St} {H : Heap} {locs : List Loc} {ls : Array Slot}, wp_X9_keys_4 post n v1 v2 v3 σ → wd D cA K_M h σ A s.heap H locs → lh ls 4 [some (.ref (h 0)), some (iv v1), some (iv v2), some (iv v3)] → W p l e rm_X9_keys s m args below meth c H locs 0 0 Q (F0 m 4 ls []) := by
  intro n; induction n with
  | zero => intros; rename_i hwp _ _; exact hwp.elim
  | succ n ih =>
    intro v1 v2 v3 σ H locs ls hwp hw hl
    refine r_iload_n C dX9_keys_4 hl rfl ?_
    refine r_aload_n C dX9_keys_5 hl rfl ?_
    refine r_getr C hw clX9 0 rfl 0 1 rfl (Nat.le_of_ble_eq_true rfl) hi_X9_keys_X9 hf_X9_keys_9 dX9_keys_6 ?_
    refine r_const C dX9_keys_9 ?_
    refine r_iald C hw 1 rfl rfl (by decide) (by decide) dX9_keys_10 ?_
    obtain ⟨ra, rb, hT, hF⟩ := hwp
    refine r_icmp_ge C (tgt := 39) dX9_keys_11 rfl ra rb (fun hc => ?_) (fun hc => ?_)
    · have hwp := hT hc
      refine r_aload_n C dX9_keys_39 hl rfl ?_
      refine r_getr C hw clX9 0 rfl 5 4 rfl (Nat.le_of_ble_eq_true rfl) hi_X9_keys_X9 hf_X9_keys_21 dX9_keys_40 ?_
      refine r_iload_n C dX9_keys_43 hl rfl ?_
      refine r_iload_n C dX9_keys_44 hl rfl ?_
      obtain ⟨h0, h1, hwp⟩ := hwp
      refine r_iast C hw 4 rfl rfl h0 h1 dX9_keys_45 (fun H locs hw => ?_)
      have hwp := hwp _ rfl
      exact hR _ _ _ _ _ dX9_keys_46 hwp hw
    · have hwp := hF hc
      refine r_bipush C dX9_keys_14 bpb_8 ?_
      refine r_iload_n C dX9_keys_16 hl rfl ?_
      refine r_imul C dX9_keys_17 ?_
      refine r_aload_n C dX9_keys_18 hl rfl ?_
      refine r_getr C hw clX9 0 rfl 4 3 rfl (Nat.le_of_ble_eq_true rfl) hi_X9_keys_X9 hf_X9_keys_18 dX9_keys_19 ?_
      refine r_bipush C dX9_keys_22 bpb_8 ?_
      refine r_iload_n C dX9_keys_24 hl rfl ?_
      refine r_imul C dX9_keys_25 ?_
      refine r_iload_n C dX9_keys_26 hl rfl ?_
      refine r_iadd C dX9_keys_27 ?_
      obtain ⟨h0, h1, hwp⟩ := hwp
      refine r_iald C hw 3 rfl rfl h0 h1 dX9_keys_28 ?_
      refine r_iadd C dX9_keys_29 ?_
      refine r_const C dX9_keys_30 ?_
      refine r_isub C dX9_keys_31 ?_
      refine r_istore_n C dX9_keys_32 hl (Nat.le_of_ble_eq_true rfl) (Nat.le_of_ble_eq_true rfl) rfl (fun ls hl => ?_)
      refine r_iinc C dX9_keys_33 hl rfl (Nat.le_of_ble_eq_true rfl) rfl (fun ls hl => ?_)
      refine r_goto C (tgt := 4) dX9_keys_36 rfl ?_
      exact ih hwp hw (lh_mask hl [true, true, true, true])
set_option maxRecDepth 100000 in
theorem b_X9_keys_0 {post : St → Prop} (C : cx p s m args meth c wsX9_keys RX9 cX9_keys 4 none D cA) (hA : ∀ q, s.heap.size ≤ q → A q) (hR : RtV p l e rm_X9_keys s m args below meth c Q cX9_keys D cA K_M h A post) : ∀ {v1 : Int} {σ : St} {H : Heap} {locs : List Loc} {ls : Array Slot}, wp_X9_keys σ v1 post → wd D cA K_M h σ A s.heap H locs → lh ls 4 [some (.ref (h 0)), some (iv v1), none, none] → W p l e rm_X9_keys s m args below meth c H locs 0 0 Q (F0 m 0 ls []) := by
  intro v1 σ H locs ls hwp hw hl
  refine r_const C dX9_keys_0 ?_
  refine r_istore_n C dX9_keys_1 hl (Nat.le_of_ble_eq_true rfl) (Nat.le_of_ble_eq_true rfl) rfl (fun ls hl => ?_)
  refine r_const C dX9_keys_2 ?_
  refine r_istore_n C dX9_keys_3 hl (Nat.le_of_ble_eq_true rfl) (Nat.le_of_ble_eq_true rfl) rfl (fun ls hl => ?_)
  obtain ⟨n9, hwp⟩ := hwp
  exact b_X9_keys_4 C hA hR n9 hwp hw (lh_mask hl [true, true, true, true])
set_option maxRecDepth 100000 in
theorem c_X9_keys {l : Launch} {D : va_G} {cA : FieldType → ClassId} {h : Nat → Nat} {σ : St} {sz : Nat} {v1 : Int} {post : St → Prop} (hwp : wp_X9_keys σ v1 post) : Met l yX9_keys wsX9_keys rm_X9_keys (va_Pc [.ref (h 0), iv v1] (preS D cA K_M h σ sz)) (QV D cA K_M h sz post) 0 0 (aA K_M.length h sz) := by
  refine mk_met (cc := cX9_keys) (nL := 4) (ret := none) (own := RX9) 2 (by decide) rfl rfl rfl rfl ?_
  intro p e s m args below meth c ls hsz C hw hl hA
  subst hsz
  exact b_X9_keys_0 C hA (rt_v C _) hwp hw hl
-- X9_goes
theorem hi_X9_goes_X9 : ∀ w ∈ u_ws RX9 TX9 20, w ∈ wsX9_goes := by decide +kernel
theorem hf_X9_goes_9 : Cond.fieldLink RX9 9 (TX9 0).1 (TX9 0).2.1 (TX9 0).2.2.1 ∈ wsX9_goes := by decide +kernel
theorem hf_X9_goes_18 : Cond.fieldLink RX9 18 (TX9 4).1 (TX9 4).2.1 (TX9 4).2.2.1 ∈ wsX9_goes := by decide +kernel
def rm_X9_goes : Room := { frames := 1, cells := 0, slots := 0, locals := 23 }
set_option maxRecDepth 100000 in
theorem b_X9_goes_10 {post : St → Prop} (C : cx p s m args meth c wsX9_goes RX9 cX9_goes 5 none D cA) (hA : ∀ q, s.heap.size ≤ q → A q) (hR : RtV p l e rm_X9_goes s m args below meth c Q cX9_goes D cA K_M h A post) : ∀ (n : Nat) {v1 v2 v3 v4 : Int} {σ : St} {H : Heap} {locs : List Loc} {ls : Array Slot}, wp_X9_goes_10 post n v1 v2 v3 v4 σ → wd D cA K_M h σ A s.heap H locs → lh ls 5 [some (.ref (h 0)), some (iv v1), some (iv v2), some (iv v3), some (iv v4)] → W p l e rm_X9_goes s m args below meth c H locs 0 0 Q (F0 m 10 ls []) := by
  intro n; induction n with
  | zero => intros; rename_i hwp _ _; exact hwp.elim
  | succ n ih =>
    intro v1 v2 v3 v4 σ H locs ls hwp hw hl
    refine r_iload C dX9_goes_10 hl rfl ?_
    refine r_iload_n C dX9_goes_12 hl rfl ?_
    obtain ⟨ra, rb, hT, hF⟩ := hwp
    refine r_icmp_ge C (tgt := 121) dX9_goes_13 rfl ra rb (fun hc => ?_) (fun hc => ?_)
    · have hwp := hT hc
      refine r_aload_n C dX9_goes_121 hl rfl ?_
      refine r_iload_n C dX9_goes_122 hl rfl ?_
      refine r_const C dX9_goes_123 ?_
      refine r_iadd C dX9_goes_124 ?_
      refine r_cV0 hA hw (run_v0 C hw clX9 rfl (c_X9_keys hwp) (cwV 1 C.2.2.2.2.1 gX9_goes_X9_keys rfl rfl rfl hd_X9_keys ⟨Nat.le_of_ble_eq_true rfl, Nat.le_of_ble_eq_true rfl⟩) rfl rfl rfl hl dX9_goes_125 ⟨Nat.zero_le _, Nat.zero_le _⟩) (fun σ H locs hwp hw => ?_)
      exact hR _ _ _ _ _ dX9_goes_128 hwp hw
    · have hwp := hF hc
      refine r_iload_n C dX9_goes_16 hl rfl ?_
      refine r_iload C dX9_goes_17 hl rfl ?_
      refine r_ishr C dX9_goes_19 ?_
      refine r_const C dX9_goes_20 ?_
      refine r_iand C dX9_goes_21 ?_
      refine r_const C dX9_goes_22 ?_
      obtain ⟨ra, hT, hF⟩ := hwp
      refine r_icmp_ne C (tgt := 59) dX9_goes_23 rfl ra (by decide) (fun hc => ?_) (fun hc => ?_)
      · have hwp := hT hc
        refine r_aload_n C dX9_goes_59 hl rfl ?_
        refine r_getr C hw clX9 0 rfl 4 3 rfl (Nat.le_of_ble_eq_true rfl) hi_X9_goes_X9 hf_X9_goes_18 dX9_goes_60 ?_
        refine r_bipush C dX9_goes_63 bpb_8 ?_
        refine r_iload_n C dX9_goes_65 hl rfl ?_
        refine r_imul C dX9_goes_66 ?_
        refine r_bipush C dX9_goes_67 bpb_8 ?_
        refine r_iadd C dX9_goes_69 ?_
        refine r_iload C dX9_goes_70 hl rfl ?_
        refine r_iadd C dX9_goes_72 ?_
        refine r_aload_n C dX9_goes_73 hl rfl ?_
        refine r_getr C hw clX9 0 rfl 4 3 rfl (Nat.le_of_ble_eq_true rfl) hi_X9_goes_X9 hf_X9_goes_18 dX9_goes_74 ?_
        refine r_bipush C dX9_goes_77 bpb_8 ?_
        refine r_iload_n C dX9_goes_79 hl rfl ?_
        refine r_imul C dX9_goes_80 ?_
        refine r_iload C dX9_goes_81 hl rfl ?_
        refine r_iadd C dX9_goes_83 ?_
        refine r_const C dX9_goes_84 ?_
        refine r_iadd C dX9_goes_85 ?_
        obtain ⟨h0, h1, hwp⟩ := hwp
        refine r_iald C hw 3 rfl rfl h0 h1 dX9_goes_86 ?_
        obtain ⟨h0, h1, hwp⟩ := hwp
        refine r_iast C hw 3 rfl rfl h0 h1 dX9_goes_87 (fun H locs hw => ?_)
        have hwp := hwp _ rfl
        refine r_aload_n C dX9_goes_88 hl rfl ?_
        refine r_getr C hw clX9 0 rfl 4 3 rfl (Nat.le_of_ble_eq_true rfl) hi_X9_goes_X9 hf_X9_goes_18 dX9_goes_89 ?_
        refine r_bipush C dX9_goes_92 bpb_8 ?_
        refine r_iload_n C dX9_goes_94 hl rfl ?_
        refine r_imul C dX9_goes_95 ?_
        refine r_bipush C dX9_goes_96 bpb_9 ?_
        refine r_iadd C dX9_goes_98 ?_
        refine r_iload C dX9_goes_99 hl rfl ?_
        refine r_iadd C dX9_goes_101 ?_
        refine r_aload_n C dX9_goes_102 hl rfl ?_
        refine r_getr C hw clX9 0 rfl 4 3 rfl (Nat.le_of_ble_eq_true rfl) hi_X9_goes_X9 hf_X9_goes_18 dX9_goes_103 ?_
        refine r_bipush C dX9_goes_106 bpb_8 ?_
        refine r_iload_n C dX9_goes_108 hl rfl ?_
        refine r_imul C dX9_goes_109 ?_
        refine r_iload C dX9_goes_110 hl rfl ?_
        refine r_iadd C dX9_goes_112 ?_
        obtain ⟨h0, h1, hwp⟩ := hwp
        refine r_iald C hw 3 rfl rfl h0 h1 dX9_goes_113 ?_
        obtain ⟨h0, h1, hwp⟩ := hwp
        refine r_iast C hw 3 rfl rfl h0 h1 dX9_goes_114 (fun H locs hw => ?_)
        have hwp := hwp _ rfl
        refine r_iinc C dX9_goes_115 hl rfl (Nat.le_of_ble_eq_true rfl) rfl (fun ls hl => ?_)
        refine r_goto C (tgt := 10) dX9_goes_118 rfl ?_
        exact ih hwp hw (lh_mask hl [true, true, true, true, true])
      · have hwp := hF hc
        refine r_aload_n C dX9_goes_26 hl rfl ?_
        refine r_getr C hw clX9 0 rfl 4 3 rfl (Nat.le_of_ble_eq_true rfl) hi_X9_goes_X9 hf_X9_goes_18 dX9_goes_27 ?_
        refine r_bipush C dX9_goes_30 bpb_8 ?_
        refine r_iload_n C dX9_goes_32 hl rfl ?_
        refine r_imul C dX9_goes_33 ?_
        refine r_bipush C dX9_goes_34 bpb_8 ?_
        refine r_iadd C dX9_goes_36 ?_
        refine r_iload C dX9_goes_37 hl rfl ?_
        refine r_iadd C dX9_goes_39 ?_
        refine r_aload_n C dX9_goes_40 hl rfl ?_
        refine r_getr C hw clX9 0 rfl 4 3 rfl (Nat.le_of_ble_eq_true rfl) hi_X9_goes_X9 hf_X9_goes_18 dX9_goes_41 ?_
        refine r_bipush C dX9_goes_44 bpb_8 ?_
        refine r_iload_n C dX9_goes_46 hl rfl ?_
        refine r_imul C dX9_goes_47 ?_
        refine r_iload C dX9_goes_48 hl rfl ?_
        refine r_iadd C dX9_goes_50 ?_
        obtain ⟨h0, h1, hwp⟩ := hwp
        refine r_iald C hw 3 rfl rfl h0 h1 dX9_goes_51 ?_
        obtain ⟨h0, h1, hwp⟩ := hwp
        refine r_iast C hw 3 rfl rfl h0 h1 dX9_goes_52 (fun H locs hw => ?_)
        have hwp := hwp _ rfl
        refine r_iinc C dX9_goes_53 hl rfl (Nat.le_of_ble_eq_true rfl) rfl (fun ls hl => ?_)
        refine r_goto C (tgt := 10) dX9_goes_56 rfl ?_
        exact ih hwp hw (lh_mask hl [true, true, true, true, true])
set_option maxRecDepth 100000 in
theorem b_X9_goes_0 {post : St → Prop} (C : cx p s m args meth c wsX9_goes RX9 cX9_goes 5 none D cA) (hA : ∀ q, s.heap.size ≤ q → A q) (hR : RtV p l e rm_X9_goes s m args below meth c Q cX9_goes D cA K_M h A post) : ∀ {v1 v2 : Int} {σ : St} {H : Heap} {locs : List Loc} {ls : Array Slot}, wp_X9_goes σ v1 v2 post → wd D cA K_M h σ A s.heap H locs → lh ls 5 [some (.ref (h 0)), some (iv v1), some (iv v2), none, none] → W p l e rm_X9_goes s m args below meth c H locs 0 0 Q (F0 m 0 ls []) := by
  intro v1 v2 σ H locs ls hwp hw hl
  refine r_aload_n C dX9_goes_0 hl rfl ?_
  refine r_getr C hw clX9 0 rfl 0 1 rfl (Nat.le_of_ble_eq_true rfl) hi_X9_goes_X9 hf_X9_goes_9 dX9_goes_1 ?_
  refine r_const C dX9_goes_4 ?_
  refine r_iald C hw 1 rfl rfl (by decide) (by decide) dX9_goes_5 ?_
  refine r_istore_n C dX9_goes_6 hl (Nat.le_of_ble_eq_true rfl) (Nat.le_of_ble_eq_true rfl) rfl (fun ls hl => ?_)
  refine r_const C dX9_goes_7 ?_
  refine r_istore C dX9_goes_8 hl (Nat.le_of_ble_eq_true rfl) (Nat.le_of_ble_eq_true rfl) rfl (fun ls hl => ?_)
  obtain ⟨n9, hwp⟩ := hwp
  exact b_X9_goes_10 C hA hR n9 hwp hw (lh_mask hl [true, true, true, true, true])
set_option maxRecDepth 100000 in
theorem c_X9_goes {l : Launch} {D : va_G} {cA : FieldType → ClassId} {h : Nat → Nat} {σ : St} {sz : Nat} {v1 v2 : Int} {post : St → Prop} (hwp : wp_X9_goes σ v1 v2 post) : Met l yX9_goes wsX9_goes rm_X9_goes (va_Pc [.ref (h 0), iv v1, iv v2] (preS D cA K_M h σ sz)) (QV D cA K_M h sz post) 0 0 (aA K_M.length h sz) := by
  refine mk_met (cc := cX9_goes) (nL := 5) (ret := none) (own := RX9) 2 (by decide) rfl rfl rfl rfl ?_
  intro p e s m args below meth c ls hsz C hw hl hA
  subst hsz
  exact b_X9_goes_0 C hA (rt_v C _) hwp hw hl
-- X9_rings
theorem hi_X9_rings_X9 : ∀ w ∈ u_ws RX9 TX9 20, w ∈ wsX9_rings := by decide +kernel
theorem hf_X9_rings_9 : Cond.fieldLink RX9 9 (TX9 0).1 (TX9 0).2.1 (TX9 0).2.2.1 ∈ wsX9_rings := by decide +kernel
theorem hf_X9_rings_129 : Cond.fieldLink RX9 129 (TX9 3).1 (TX9 3).2.1 (TX9 3).2.2.1 ∈ wsX9_rings := by decide +kernel
theorem hf_X9_rings_18 : Cond.fieldLink RX9 18 (TX9 4).1 (TX9 4).2.1 (TX9 4).2.2.1 ∈ wsX9_rings := by decide +kernel
def rm_X9_rings : Room := { frames := 2, cells := 0, slots := 0, locals := 47 }
set_option maxRecDepth 100000 in
theorem b_X9_rings_123 {post : St → Prop} (C : cx p s m args meth c wsX9_rings RX9 cX9_rings 5 none D cA) (hA : ∀ q, s.heap.size ≤ q → A q) (hR : RtV p l e rm_X9_rings s m args below meth c Q cX9_rings D cA K_M h A post) {k53 : Int → Int → St → Prop} (hk53 : ∀ {v1 v2 : Int} {σ : St} {H : Heap} {locs : List Loc} {ls : Array Slot}, k53 v1 v2 σ → wd D cA K_M h σ A s.heap H locs → lh ls 5 [some (.ref (h 0)), some (iv v1), some (iv v2), none, none] → W p l e rm_X9_rings s m args below meth c H locs 0 0 Q (F0 m 53 ls [])) : ∀ {v1 v2 v3 : Int} {σ : St} {H : Heap} {locs : List Loc} {ls : Array Slot}, wp_X9_rings_123 k53 post v1 v2 v3 σ → wd D cA K_M h σ A s.heap H locs → lh ls 5 [some (.ref (h 0)), some (iv v1), some (iv v2), some (iv v3), none] → W p l e rm_X9_rings s m args below meth c H locs 0 0 Q (F0 m 123 ls []) := by
  intro v1 v2 v3 σ H locs ls hwp hw hl
  refine r_aload_n C dX9_rings_123 hl rfl ?_
  refine r_iload_n C dX9_rings_124 hl rfl ?_
  refine r_iload_n C dX9_rings_125 hl rfl ?_
  refine r_cV0 hA hw (run_v0 C hw clX9 rfl (c_X9_goes hwp) (cwV 2 C.2.2.2.2.1 gX9_rings_X9_goes rfl rfl rfl hd_X9_goes ⟨Nat.le_of_ble_eq_true rfl, Nat.le_of_ble_eq_true rfl⟩) rfl rfl rfl hl dX9_rings_126 ⟨Nat.zero_le _, Nat.zero_le _⟩) (fun σ H locs hwp hw => ?_)
  refine r_iinc C dX9_rings_129 hl rfl (Nat.le_of_ble_eq_true rfl) rfl (fun ls hl => ?_)
  refine r_goto C (tgt := 53) dX9_rings_132 rfl ?_
  exact hk53 hwp hw (lh_mask hl [true, true, true, false, false])
set_option maxRecDepth 100000 in
theorem b_X9_rings_53 {post : St → Prop} (C : cx p s m args meth c wsX9_rings RX9 cX9_rings 5 none D cA) (hA : ∀ q, s.heap.size ≤ q → A q) (hR : RtV p l e rm_X9_rings s m args below meth c Q cX9_rings D cA K_M h A post) : ∀ (n : Nat) {v1 v2 : Int} {σ : St} {H : Heap} {locs : List Loc} {ls : Array Slot}, wp_X9_rings_53 post n v1 v2 σ → wd D cA K_M h σ A s.heap H locs → lh ls 5 [some (.ref (h 0)), some (iv v1), some (iv v2), none, none] → W p l e rm_X9_rings s m args below meth c H locs 0 0 Q (F0 m 53 ls []) := by
  intro n; induction n with
  | zero => intros; rename_i hwp _ _; exact hwp.elim
  | succ n ih =>
    intro v1 v2 σ H locs ls hwp hw hl
    refine r_iload_n C dX9_rings_53 hl rfl ?_
    refine r_aload_n C dX9_rings_54 hl rfl ?_
    refine r_get C hw clX9 0 rfl 3 3 rfl rfl (Nat.le_of_ble_eq_true rfl) hi_X9_rings_X9 hf_X9_rings_129 dX9_rings_55 ?_
    obtain ⟨ra, rb, hT, hF⟩ := hwp
    refine r_icmp_ge C (tgt := 135) dX9_rings_58 rfl ra rb (fun hc => ?_) (fun hc => ?_)
    · have hwp := hT hc
      exact hR _ _ _ _ _ dX9_rings_135 hwp hw
    · have hwp := hF hc
      refine r_aload_n C dX9_rings_61 hl rfl ?_
      refine r_getr C hw clX9 0 rfl 0 1 rfl (Nat.le_of_ble_eq_true rfl) hi_X9_rings_X9 hf_X9_rings_9 dX9_rings_62 ?_
      refine r_bipush C dX9_rings_65 bpb_8 ?_
      refine r_iload_n C dX9_rings_67 hl rfl ?_
      refine r_iload_n C dX9_rings_68 hl rfl ?_
      obtain ⟨ra, rb, r0, hwp⟩ := hwp
      refine r_irem C dX9_rings_69 ra rb r0 ?_
      refine r_iadd C dX9_rings_70 ?_
      obtain ⟨h0, h1, hwp⟩ := hwp
      refine r_iald C hw 1 rfl rfl h0 h1 dX9_rings_71 ?_
      refine r_istore_n C dX9_rings_72 hl (Nat.le_of_ble_eq_true rfl) (Nat.le_of_ble_eq_true rfl) rfl (fun ls hl => ?_)
      refine r_aload_n C dX9_rings_73 hl rfl ?_
      refine r_getr C hw clX9 0 rfl 0 1 rfl (Nat.le_of_ble_eq_true rfl) hi_X9_rings_X9 hf_X9_rings_9 dX9_rings_74 ?_
      refine r_bipush C dX9_rings_77 bpb_24 ?_
      refine r_iload_n C dX9_rings_79 hl rfl ?_
      refine r_iload_n C dX9_rings_80 hl rfl ?_
      obtain ⟨ra, rb, r0, hwp⟩ := hwp
      refine r_idiv C dX9_rings_81 ra rb r0 ?_
      refine r_iadd C dX9_rings_82 ?_
      obtain ⟨h0, h1, hwp⟩ := hwp
      refine r_iald C hw 1 rfl rfl h0 h1 dX9_rings_83 ?_
      refine r_istore C dX9_rings_84 hl (Nat.le_of_ble_eq_true rfl) (Nat.le_of_ble_eq_true rfl) rfl (fun ls hl => ?_)
      refine r_iload_n C dX9_rings_86 hl rfl ?_
      refine r_iload_n C dX9_rings_87 hl rfl ?_
      obtain ⟨ra, rb, r0, hwp⟩ := hwp
      refine r_irem C dX9_rings_88 ra rb r0 ?_
      refine r_iload_n C dX9_rings_89 hl rfl ?_
      refine r_const C dX9_rings_90 ?_
      refine r_isub C dX9_rings_91 ?_
      obtain ⟨ra, rb, hT, hF⟩ := hwp
      refine r_icmp_ne C (tgt := 123) dX9_rings_92 rfl ra rb (fun hc => ?_) (fun hc => ?_)
      · have hwp := hT hc
        exact b_X9_rings_123 C hA hR ih hwp hw (lh_mask hl [true, true, true, true, false])
      · have hwp := hF hc
        refine r_iload C dX9_rings_95 hl rfl ?_
        obtain ⟨ra, hT, hF⟩ := hwp
        refine r_if_eq C (tgt := 123) dX9_rings_97 rfl ra (fun hc => ?_) (fun hc => ?_)
        · have hwp := hT hc
          exact b_X9_rings_123 C hA hR ih hwp hw (lh_mask hl [true, true, true, true, false])
        · have hwp := hF hc
          refine r_aload_n C dX9_rings_100 hl rfl ?_
          refine r_getr C hw clX9 0 rfl 0 1 rfl (Nat.le_of_ble_eq_true rfl) hi_X9_rings_X9 hf_X9_rings_9 dX9_rings_101 ?_
          refine r_const C dX9_rings_104 ?_
          refine r_iload C dX9_rings_105 hl rfl ?_
          refine r_iadd C dX9_rings_107 ?_
          obtain ⟨h0, h1, hwp⟩ := hwp
          refine r_iald C hw 1 rfl rfl h0 h1 dX9_rings_108 ?_
          refine r_const C dX9_rings_109 ?_
          obtain ⟨ra, hT, hF⟩ := hwp
          refine r_icmp_eq C (tgt := 123) dX9_rings_110 rfl ra (by decide) (fun hc => ?_) (fun hc => ?_)
          · have hwp := hT hc
            exact b_X9_rings_123 C hA hR ih hwp hw (lh_mask hl [true, true, true, true, false])
          · have hwp := hF hc
            refine r_aload_n C dX9_rings_113 hl rfl ?_
            refine r_getr C hw clX9 0 rfl 0 1 rfl (Nat.le_of_ble_eq_true rfl) hi_X9_rings_X9 hf_X9_rings_9 dX9_rings_114 ?_
            refine r_const C dX9_rings_117 ?_
            refine r_iload C dX9_rings_118 hl rfl ?_
            refine r_iadd C dX9_rings_120 ?_
            obtain ⟨h0, h1, hwp⟩ := hwp
            refine r_iald C hw 1 rfl rfl h0 h1 dX9_rings_121 ?_
            refine r_istore_n C dX9_rings_122 hl (Nat.le_of_ble_eq_true rfl) (Nat.le_of_ble_eq_true rfl) rfl (fun ls hl => ?_)
            exact b_X9_rings_123 C hA hR ih hwp hw (lh_mask hl [true, true, true, true, false])
set_option maxRecDepth 100000 in
theorem b_X9_rings_2 {post : St → Prop} (C : cx p s m args meth c wsX9_rings RX9 cX9_rings 5 none D cA) (hA : ∀ q, s.heap.size ≤ q → A q) (hR : RtV p l e rm_X9_rings s m args below meth c Q cX9_rings D cA K_M h A post) : ∀ (n : Nat) {v1 : Int} {σ : St} {H : Heap} {locs : List Loc} {ls : Array Slot}, wp_X9_rings_2 post n v1 σ → wd D cA K_M h σ A s.heap H locs → lh ls 5 [some (.ref (h 0)), some (iv v1), none, none, none] → W p l e rm_X9_rings s m args below meth c H locs 0 0 Q (F0 m 2 ls []) := by
  intro n; induction n with
  | zero => intros; rename_i hwp _ _; exact hwp.elim
  | succ n ih =>
    intro v1 σ H locs ls hwp hw hl
    refine r_iload_n C dX9_rings_2 hl rfl ?_
    refine r_aload_n C dX9_rings_3 hl rfl ?_
    refine r_getr C hw clX9 0 rfl 0 1 rfl (Nat.le_of_ble_eq_true rfl) hi_X9_rings_X9 hf_X9_rings_9 dX9_rings_4 ?_
    refine r_const C dX9_rings_7 ?_
    refine r_iald C hw 1 rfl rfl (by decide) (by decide) dX9_rings_8 ?_
    obtain ⟨ra, rb, hT, hF⟩ := hwp
    refine r_icmp_ge C (tgt := 27) dX9_rings_9 rfl ra rb (fun hc => ?_) (fun hc => ?_)
    · have hwp := hT hc
      refine r_aload_n C dX9_rings_27 hl rfl ?_
      refine r_const C dX9_rings_28 ?_
      refine r_cV0 hA hw (run_v0 C hw clX9 rfl (c_X9_keys hwp) (cwV 1 C.2.2.2.2.1 gX9_rings_X9_keys rfl rfl rfl hd_X9_keys ⟨Nat.le_of_ble_eq_true rfl, Nat.le_of_ble_eq_true rfl⟩) rfl rfl rfl hl dX9_rings_29 ⟨Nat.zero_le _, Nat.zero_le _⟩) (fun σ H locs hwp hw => ?_)
      refine r_aload_n C dX9_rings_32 hl rfl ?_
      refine r_getr C hw clX9 0 rfl 0 1 rfl (Nat.le_of_ble_eq_true rfl) hi_X9_rings_X9 hf_X9_rings_9 dX9_rings_33 ?_
      refine r_const C dX9_rings_36 ?_
      refine r_iald C hw 1 rfl rfl (by decide) (by decide) dX9_rings_37 ?_
      refine r_istore_n C dX9_rings_38 hl (Nat.le_of_ble_eq_true rfl) (Nat.le_of_ble_eq_true rfl) rfl (fun ls hl => ?_)
      refine r_aload_n C dX9_rings_39 hl rfl ?_
      refine r_iload_n C dX9_rings_40 hl rfl ?_
      refine r_aload_n C dX9_rings_41 hl rfl ?_
      refine r_getr C hw clX9 0 rfl 0 1 rfl (Nat.le_of_ble_eq_true rfl) hi_X9_rings_X9 hf_X9_rings_9 dX9_rings_42 ?_
      refine r_const C dX9_rings_45 ?_
      refine r_iald C hw 1 rfl rfl (by decide) (by decide) dX9_rings_46 ?_
      refine r_imul C dX9_rings_47 ?_
      refine r_put C hw clX9 0 rfl 3 3 rfl rfl (Nat.le_of_ble_eq_true rfl) hi_X9_rings_X9 hf_X9_rings_129 rfl ⟨nar_i _, fit_i _⟩ dX9_rings_48 (fun H locs hw => ?_)
      have hwp := hwp _ rfl
      refine r_const C dX9_rings_51 ?_
      refine r_istore_n C dX9_rings_52 hl (Nat.le_of_ble_eq_true rfl) (Nat.le_of_ble_eq_true rfl) rfl (fun ls hl => ?_)
      obtain ⟨n9, hwp⟩ := hwp
      exact b_X9_rings_53 C hA hR n9 hwp hw (lh_mask hl [true, true, true, false, false])
    · have hwp := hF hc
      refine r_aload_n C dX9_rings_12 hl rfl ?_
      refine r_getr C hw clX9 0 rfl 4 3 rfl (Nat.le_of_ble_eq_true rfl) hi_X9_rings_X9 hf_X9_rings_18 dX9_rings_13 ?_
      refine r_iload_n C dX9_rings_16 hl rfl ?_
      refine r_iload_n C dX9_rings_17 hl rfl ?_
      refine r_const C dX9_rings_18 ?_
      refine r_iadd C dX9_rings_19 ?_
      obtain ⟨h0, h1, hwp⟩ := hwp
      refine r_iast C hw 3 rfl rfl h0 h1 dX9_rings_20 (fun H locs hw => ?_)
      have hwp := hwp _ rfl
      refine r_iinc C dX9_rings_21 hl rfl (Nat.le_of_ble_eq_true rfl) rfl (fun ls hl => ?_)
      refine r_goto C (tgt := 2) dX9_rings_24 rfl ?_
      exact ih hwp hw (lh_mask hl [true, true, false, false, false])
set_option maxRecDepth 100000 in
theorem b_X9_rings_0 {post : St → Prop} (C : cx p s m args meth c wsX9_rings RX9 cX9_rings 5 none D cA) (hA : ∀ q, s.heap.size ≤ q → A q) (hR : RtV p l e rm_X9_rings s m args below meth c Q cX9_rings D cA K_M h A post) : ∀ {σ : St} {H : Heap} {locs : List Loc} {ls : Array Slot}, wp_X9_rings σ post → wd D cA K_M h σ A s.heap H locs → lh ls 5 [some (.ref (h 0)), none, none, none, none] → W p l e rm_X9_rings s m args below meth c H locs 0 0 Q (F0 m 0 ls []) := by
  intro σ H locs ls hwp hw hl
  refine r_const C dX9_rings_0 ?_
  refine r_istore_n C dX9_rings_1 hl (Nat.le_of_ble_eq_true rfl) (Nat.le_of_ble_eq_true rfl) rfl (fun ls hl => ?_)
  obtain ⟨n9, hwp⟩ := hwp
  exact b_X9_rings_2 C hA hR n9 hwp hw (lh_mask hl [true, true, false, false, false])
set_option maxRecDepth 100000 in
theorem c_X9_rings {l : Launch} {D : va_G} {cA : FieldType → ClassId} {h : Nat → Nat} {σ : St} {sz : Nat} {post : St → Prop} (hwp : wp_X9_rings σ post) : Met l yX9_rings wsX9_rings rm_X9_rings (va_Pc [.ref (h 0)] (preS D cA K_M h σ sz)) (QV D cA K_M h sz post) 0 0 (aA K_M.length h sz) := by
  refine mk_met (cc := cX9_rings) (nL := 5) (ret := none) (own := RX9) 4 (by decide) rfl rfl rfl rfl ?_
  intro p e s m args below meth c ls hsz C hw hl hA
  subst hsz
  exact b_X9_rings_0 C hA (rt_v C _) hwp hw hl
-- X9_round
theorem hi_X9_round_X9 : ∀ w ∈ u_ws RX9 TX9 20, w ∈ wsX9_round := by decide +kernel
theorem hf_X9_round_129 : Cond.fieldLink RX9 129 (TX9 3).1 (TX9 3).2.1 (TX9 3).2.2.1 ∈ wsX9_round := by decide +kernel
theorem hf_X9_round_21 : Cond.fieldLink RX9 21 (TX9 5).1 (TX9 5).2.1 (TX9 5).2.2.1 ∈ wsX9_round := by decide +kernel
def rm_X9_round : Room := { frames := 0, cells := 0, slots := 0, locals := 0 }
set_option maxRecDepth 100000 in
theorem b_X9_round_2 {σ : St} {post : Int → Prop} (C : cx p s m args meth c wsX9_round RX9 cX9_round 2 (some .int) D cA) (hA : ∀ q, s.heap.size ≤ q → A q) (hR : RtI p l e rm_X9_round s m args below meth c Q cX9_round D cA K_M h A (fun _ => True) (fun r σ' => σ' = σ ∧ post r)) : ∀ (n : Nat) {v1 : Int} {H : Heap} {locs : List Loc} {ls : Array Slot}, wp_X9_round_2 post n v1 σ → wd D cA K_M h σ A s.heap H locs → lh ls 2 [some (.ref (h 0)), some (iv v1)] → W p l e rm_X9_round s m args below meth c H locs 0 0 Q (F0 m 2 ls []) := by
  intro n; induction n with
  | zero => intros; rename_i hwp _ _; exact hwp.elim
  | succ n ih =>
    intro v1 H locs ls hwp hw hl
    refine r_iload_n C dX9_round_2 hl rfl ?_
    refine r_aload_n C dX9_round_3 hl rfl ?_
    refine r_get C hw clX9 0 rfl 3 3 rfl rfl (Nat.le_of_ble_eq_true rfl) hi_X9_round_X9 hf_X9_round_129 dX9_round_4 ?_
    obtain ⟨ra, rb, hT, hF⟩ := hwp
    refine r_icmp_gt C (tgt := 33) dX9_round_7 rfl ra rb (fun hc => ?_) (fun hc => ?_)
    · have hwp := hT hc
      refine r_bipush C dX9_round_33 bpb_m5 ?_
      exact hR _ _ _ _ _ _ dX9_round_35 trivial ⟨rfl, hwp⟩ hw
    · have hwp := hF hc
      refine r_aload_n C dX9_round_10 hl rfl ?_
      refine r_getr C hw clX9 0 rfl 5 4 rfl (Nat.le_of_ble_eq_true rfl) hi_X9_round_X9 hf_X9_round_21 dX9_round_11 ?_
      refine r_iload_n C dX9_round_14 hl rfl ?_
      obtain ⟨h0, h1, hwp⟩ := hwp
      refine r_iald C hw 4 rfl rfl h0 h1 dX9_round_15 ?_
      refine r_aload_n C dX9_round_16 hl rfl ?_
      refine r_getr C hw clX9 0 rfl 5 4 rfl (Nat.le_of_ble_eq_true rfl) hi_X9_round_X9 hf_X9_round_21 dX9_round_17 ?_
      refine r_const C dX9_round_20 ?_
      refine r_iald C hw 4 rfl rfl (by decide) (by decide) dX9_round_21 ?_
      obtain ⟨ra, rb, hT, hF⟩ := hwp
      refine r_icmp_ne C (tgt := 27) dX9_round_22 rfl ra rb (fun hc => ?_) (fun hc => ?_)
      · have hwp := hT hc
        refine r_iinc C dX9_round_27 hl rfl (Nat.le_of_ble_eq_true rfl) rfl (fun ls hl => ?_)
        refine r_goto C (tgt := 2) dX9_round_30 rfl ?_
        exact ih hwp hw (lh_mask hl [true, true])
      · have hwp := hF hc
        refine r_iload_n C dX9_round_25 hl rfl ?_
        exact hR _ _ _ _ _ _ dX9_round_26 trivial ⟨rfl, hwp⟩ hw
set_option maxRecDepth 100000 in
theorem b_X9_round_0 {σ : St} {post : Int → Prop} (C : cx p s m args meth c wsX9_round RX9 cX9_round 2 (some .int) D cA) (hA : ∀ q, s.heap.size ≤ q → A q) (hR : RtI p l e rm_X9_round s m args below meth c Q cX9_round D cA K_M h A (fun _ => True) (fun r σ' => σ' = σ ∧ post r)) : ∀ {H : Heap} {locs : List Loc} {ls : Array Slot}, wp_X9_round σ post → wd D cA K_M h σ A s.heap H locs → lh ls 2 [some (.ref (h 0)), none] → W p l e rm_X9_round s m args below meth c H locs 0 0 Q (F0 m 0 ls []) := by
  intro H locs ls hwp hw hl
  refine r_const C dX9_round_0 ?_
  refine r_istore_n C dX9_round_1 hl (Nat.le_of_ble_eq_true rfl) (Nat.le_of_ble_eq_true rfl) rfl (fun ls hl => ?_)
  obtain ⟨n9, hwp⟩ := hwp
  exact b_X9_round_2 C hA hR n9 hwp hw (lh_mask hl [true, true])
set_option maxRecDepth 100000 in
theorem c_X9_round {l : Launch} {D : va_G} {cA : FieldType → ClassId} {h : Nat → Nat} {σ : St} {sz : Nat} {post : Int → Prop} (hwp : wp_X9_round σ post) : Met l yX9_round wsX9_round rm_X9_round (va_Pc [.ref (h 0)] (preS D cA K_M h σ sz)) (QI D cA K_M h sz (fun r σ' => σ' = σ ∧ post r)) 0 0 (aA K_M.length h sz) := by
  refine mk_met (cc := cX9_round) (nL := 2) (ret := (some .int)) (own := RX9) 1 (by decide) rfl rfl rfl rfl ?_
  intro p e s m args below meth c ls hsz C hw hl hA
  subst hsz
  exact b_X9_round_0 C hA (rt_i C _) hwp hw hl
-- X9_first
theorem hi_X9_first_X9 : ∀ w ∈ u_ws RX9 TX9 20, w ∈ wsX9_first := by decide +kernel
theorem hf_X9_first_21 : Cond.fieldLink RX9 21 (TX9 5).1 (TX9 5).2.1 (TX9 5).2.2.1 ∈ wsX9_first := by decide +kernel
def rm_X9_first : Room := { frames := 0, cells := 0, slots := 0, locals := 0 }
set_option maxRecDepth 100000 in
theorem b_X9_first_2 {σ : St} {post : Int → Prop} (C : cx p s m args meth c wsX9_first RX9 cX9_first 3 (some .int) D cA) (hA : ∀ q, s.heap.size ≤ q → A q) (hR : RtI p l e rm_X9_first s m args below meth c Q cX9_first D cA K_M h A (fun _ => True) (fun r σ' => σ' = σ ∧ post r)) : ∀ (n : Nat) {v1 v2 : Int} {H : Heap} {locs : List Loc} {ls : Array Slot}, wp_X9_first_2 post n v1 v2 σ → wd D cA K_M h σ A s.heap H locs → lh ls 3 [some (.ref (h 0)), some (iv v1), some (iv v2)] → W p l e rm_X9_first s m args below meth c H locs 0 0 Q (F0 m 2 ls []) := by
  intro n; induction n with
  | zero => intros; rename_i hwp _ _; exact hwp.elim
  | succ n ih =>
    intro v1 v2 H locs ls hwp hw hl
    refine r_aload_n C dX9_first_2 hl rfl ?_
    refine r_getr C hw clX9 0 rfl 5 4 rfl (Nat.le_of_ble_eq_true rfl) hi_X9_first_X9 hf_X9_first_21 dX9_first_3 ?_
    refine r_iload_n C dX9_first_6 hl rfl ?_
    obtain ⟨h0, h1, hwp⟩ := hwp
    refine r_iald C hw 4 rfl rfl h0 h1 dX9_first_7 ?_
    refine r_aload_n C dX9_first_8 hl rfl ?_
    refine r_getr C hw clX9 0 rfl 5 4 rfl (Nat.le_of_ble_eq_true rfl) hi_X9_first_X9 hf_X9_first_21 dX9_first_9 ?_
    refine r_iload_n C dX9_first_12 hl rfl ?_
    obtain ⟨h0, h1, hwp⟩ := hwp
    refine r_iald C hw 4 rfl rfl h0 h1 dX9_first_13 ?_
    obtain ⟨ra, rb, hT, hF⟩ := hwp
    refine r_icmp_eq C (tgt := 23) dX9_first_14 rfl ra rb (fun hc => ?_) (fun hc => ?_)
    · have hwp := hT hc
      refine r_iload_n C dX9_first_23 hl rfl ?_
      exact hR _ _ _ _ _ _ dX9_first_24 trivial ⟨rfl, hwp⟩ hw
    · have hwp := hF hc
      refine r_iinc C dX9_first_17 hl rfl (Nat.le_of_ble_eq_true rfl) rfl (fun ls hl => ?_)
      refine r_goto C (tgt := 2) dX9_first_20 rfl ?_
      exact ih hwp hw (lh_mask hl [true, true, true])
set_option maxRecDepth 100000 in
theorem b_X9_first_0 {σ : St} {post : Int → Prop} (C : cx p s m args meth c wsX9_first RX9 cX9_first 3 (some .int) D cA) (hA : ∀ q, s.heap.size ≤ q → A q) (hR : RtI p l e rm_X9_first s m args below meth c Q cX9_first D cA K_M h A (fun _ => True) (fun r σ' => σ' = σ ∧ post r)) : ∀ {v1 : Int} {H : Heap} {locs : List Loc} {ls : Array Slot}, wp_X9_first σ v1 post → wd D cA K_M h σ A s.heap H locs → lh ls 3 [some (.ref (h 0)), some (iv v1), none] → W p l e rm_X9_first s m args below meth c H locs 0 0 Q (F0 m 0 ls []) := by
  intro v1 H locs ls hwp hw hl
  refine r_const C dX9_first_0 ?_
  refine r_istore_n C dX9_first_1 hl (Nat.le_of_ble_eq_true rfl) (Nat.le_of_ble_eq_true rfl) rfl (fun ls hl => ?_)
  obtain ⟨n9, hwp⟩ := hwp
  exact b_X9_first_2 C hA hR n9 hwp hw (lh_mask hl [true, true, true])
set_option maxRecDepth 100000 in
theorem c_X9_first {l : Launch} {D : va_G} {cA : FieldType → ClassId} {h : Nat → Nat} {σ : St} {sz : Nat} {v1 : Int} {post : Int → Prop} (hwp : wp_X9_first σ v1 post) : Met l yX9_first wsX9_first rm_X9_first (va_Pc [.ref (h 0), iv v1] (preS D cA K_M h σ sz)) (QI D cA K_M h sz (fun r σ' => σ' = σ ∧ post r)) 0 0 (aA K_M.length h sz) := by
  refine mk_met (cc := cX9_first) (nL := 3) (ret := (some .int)) (own := RX9) 1 (by decide) rfl rfl rfl rfl ?_
  intro p e s m args below meth c ls hsz C hw hl hA
  subst hsz
  exact b_X9_first_0 C hA (rt_i C _) hwp hw hl
-- X9_wrongRow
theorem hi_X9_wrongRow_X9 : ∀ w ∈ u_ws RX9 TX9 20, w ∈ wsX9_wrongRow := by decide +kernel
theorem hf_X9_wrongRow_129 : Cond.fieldLink RX9 129 (TX9 3).1 (TX9 3).2.1 (TX9 3).2.2.1 ∈ wsX9_wrongRow := by decide +kernel
def rm_X9_wrongRow : Room := { frames := 1, cells := 0, slots := 0, locals := 22 }
set_option maxRecDepth 100000 in
theorem b_X9_wrongRow_35 {σ : St} {post : Int → Prop} (C : cx p s m args meth c wsX9_wrongRow RX9 cX9_wrongRow 3 (some .int) D cA) (hA : ∀ q, s.heap.size ≤ q → A q) (hR : RtI p l e rm_X9_wrongRow s m args below meth c Q cX9_wrongRow D cA K_M h A (fun _ => True) (fun r σ' => σ' = σ ∧ post r)) {k2 : Int → St → Prop} (hk2 : ∀ {v1 : Int} {H : Heap} {locs : List Loc} {ls : Array Slot}, k2 v1 σ → wd D cA K_M h σ A s.heap H locs → lh ls 3 [some (.ref (h 0)), some (iv v1), none] → W p l e rm_X9_wrongRow s m args below meth c H locs 0 0 Q (F0 m 2 ls [])) : ∀ {v1 : Int} {H : Heap} {locs : List Loc} {ls : Array Slot}, wp_X9_wrongRow_35 k2 post v1 σ → wd D cA K_M h σ A s.heap H locs → lh ls 3 [some (.ref (h 0)), some (iv v1), none] → W p l e rm_X9_wrongRow s m args below meth c H locs 0 0 Q (F0 m 35 ls []) := by
  intro v1 H locs ls hwp hw hl
  refine r_iinc C dX9_wrongRow_35 hl rfl (Nat.le_of_ble_eq_true rfl) rfl (fun ls hl => ?_)
  refine r_goto C (tgt := 2) dX9_wrongRow_38 rfl ?_
  exact hk2 hwp hw (lh_mask hl [true, true, false])
set_option maxRecDepth 100000 in
theorem b_X9_wrongRow_33 {σ : St} {post : Int → Prop} (C : cx p s m args meth c wsX9_wrongRow RX9 cX9_wrongRow 3 (some .int) D cA) (hA : ∀ q, s.heap.size ≤ q → A q) (hR : RtI p l e rm_X9_wrongRow s m args below meth c Q cX9_wrongRow D cA K_M h A (fun _ => True) (fun r σ' => σ' = σ ∧ post r)) : ∀ {v1 : Int} {H : Heap} {locs : List Loc} {ls : Array Slot}, wp_X9_wrongRow_33 post v1 σ → wd D cA K_M h σ A s.heap H locs → lh ls 3 [none, some (iv v1), none] → W p l e rm_X9_wrongRow s m args below meth c H locs 0 0 Q (F0 m 33 ls []) := by
  intro v1 H locs ls hwp hw hl
  refine r_iload_n C dX9_wrongRow_33 hl rfl ?_
  exact hR _ _ _ _ _ _ dX9_wrongRow_34 trivial ⟨rfl, hwp⟩ hw
set_option maxRecDepth 100000 in
theorem b_X9_wrongRow_2 {σ : St} {post : Int → Prop} (C : cx p s m args meth c wsX9_wrongRow RX9 cX9_wrongRow 3 (some .int) D cA) (hA : ∀ q, s.heap.size ≤ q → A q) (hR : RtI p l e rm_X9_wrongRow s m args below meth c Q cX9_wrongRow D cA K_M h A (fun _ => True) (fun r σ' => σ' = σ ∧ post r)) : ∀ (n : Nat) {v1 : Int} {H : Heap} {locs : List Loc} {ls : Array Slot}, wp_X9_wrongRow_2 post n v1 σ → wd D cA K_M h σ A s.heap H locs → lh ls 3 [some (.ref (h 0)), some (iv v1), none] → W p l e rm_X9_wrongRow s m args below meth c H locs 0 0 Q (F0 m 2 ls []) := by
  intro n; induction n with
  | zero => intros; rename_i hwp _ _; exact hwp.elim
  | succ n ih =>
    intro v1 H locs ls hwp hw hl
    refine r_iload_n C dX9_wrongRow_2 hl rfl ?_
    refine r_aload_n C dX9_wrongRow_3 hl rfl ?_
    refine r_get C hw clX9 0 rfl 3 3 rfl rfl (Nat.le_of_ble_eq_true rfl) hi_X9_wrongRow_X9 hf_X9_wrongRow_129 dX9_wrongRow_4 ?_
    obtain ⟨ra, rb, hT, hF⟩ := hwp
    refine r_icmp_gt C (tgt := 41) dX9_wrongRow_7 rfl ra rb (fun hc => ?_) (fun hc => ?_)
    · have hwp := hT hc
      refine r_bipush C dX9_wrongRow_41 bpb_m5 ?_
      exact hR _ _ _ _ _ _ dX9_wrongRow_43 trivial ⟨rfl, hwp⟩ hw
    · have hwp := hF hc
      refine r_aload_n C dX9_wrongRow_10 hl rfl ?_
      refine r_iload_n C dX9_wrongRow_11 hl rfl ?_
      refine r_cIr0 hA hw (run_v0 C hw clX9 rfl (c_X9_first hwp) (cwV 1 C.2.2.2.2.1 gX9_wrongRow_X9_first rfl rfl rfl hd_X9_first ⟨Nat.le_of_ble_eq_true rfl, Nat.le_of_ble_eq_true rfl⟩) rfl rfl rfl hl dX9_wrongRow_12 ⟨Nat.zero_le _, Nat.zero_le _⟩) (fun r H locs hwp hw => ?_)
      refine r_istore_n C dX9_wrongRow_15 hl (Nat.le_of_ble_eq_true rfl) (Nat.le_of_ble_eq_true rfl) rfl (fun ls hl => ?_)
      refine r_iload_n C dX9_wrongRow_16 hl rfl ?_
      refine r_iload_n C dX9_wrongRow_17 hl rfl ?_
      obtain ⟨ra, rb, hT, hF⟩ := hwp
      refine r_icmp_ge C (tgt := 35) dX9_wrongRow_18 rfl ra rb (fun hc => ?_) (fun hc => ?_)
      · have hwp := hT hc
        exact b_X9_wrongRow_35 C hA hR ih hwp hw (lh_mask hl [true, true, false])
      · have hwp := hF hc
        refine r_iload_n C dX9_wrongRow_21 hl rfl ?_
        refine r_aload_n C dX9_wrongRow_22 hl rfl ?_
        refine r_get C hw clX9 0 rfl 3 3 rfl rfl (Nat.le_of_ble_eq_true rfl) hi_X9_wrongRow_X9 hf_X9_wrongRow_129 dX9_wrongRow_23 ?_
        obtain ⟨ra, rb, hT, hF⟩ := hwp
        refine r_icmp_lt C (tgt := 33) dX9_wrongRow_26 rfl ra rb (fun hc => ?_) (fun hc => ?_)
        · have hwp := hT hc
          exact b_X9_wrongRow_33 C hA hR hwp hw (lh_mask hl [false, true, false])
        · have hwp := hF hc
          refine r_iload_n C dX9_wrongRow_29 hl rfl ?_
          obtain ⟨ra, hT, hF⟩ := hwp
          refine r_if_le C (tgt := 35) dX9_wrongRow_30 rfl ra (fun hc => ?_) (fun hc => ?_)
          · have hwp := hT hc
            exact b_X9_wrongRow_35 C hA hR ih hwp hw (lh_mask hl [true, true, false])
          · have hwp := hF hc
            exact b_X9_wrongRow_33 C hA hR hwp hw (lh_mask hl [false, true, false])
set_option maxRecDepth 100000 in
theorem b_X9_wrongRow_0 {σ : St} {post : Int → Prop} (C : cx p s m args meth c wsX9_wrongRow RX9 cX9_wrongRow 3 (some .int) D cA) (hA : ∀ q, s.heap.size ≤ q → A q) (hR : RtI p l e rm_X9_wrongRow s m args below meth c Q cX9_wrongRow D cA K_M h A (fun _ => True) (fun r σ' => σ' = σ ∧ post r)) : ∀ {H : Heap} {locs : List Loc} {ls : Array Slot}, wp_X9_wrongRow σ post → wd D cA K_M h σ A s.heap H locs → lh ls 3 [some (.ref (h 0)), none, none] → W p l e rm_X9_wrongRow s m args below meth c H locs 0 0 Q (F0 m 0 ls []) := by
  intro H locs ls hwp hw hl
  refine r_const C dX9_wrongRow_0 ?_
  refine r_istore_n C dX9_wrongRow_1 hl (Nat.le_of_ble_eq_true rfl) (Nat.le_of_ble_eq_true rfl) rfl (fun ls hl => ?_)
  obtain ⟨n9, hwp⟩ := hwp
  exact b_X9_wrongRow_2 C hA hR n9 hwp hw (lh_mask hl [true, true, false])
set_option maxRecDepth 100000 in
theorem c_X9_wrongRow {l : Launch} {D : va_G} {cA : FieldType → ClassId} {h : Nat → Nat} {σ : St} {sz : Nat} {post : Int → Prop} (hwp : wp_X9_wrongRow σ post) : Met l yX9_wrongRow wsX9_wrongRow rm_X9_wrongRow (va_Pc [.ref (h 0)] (preS D cA K_M h σ sz)) (QI D cA K_M h sz (fun r σ' => σ' = σ ∧ post r)) 0 0 (aA K_M.length h sz) := by
  refine mk_met (cc := cX9_wrongRow) (nL := 3) (ret := (some .int)) (own := RX9) 2 (by decide) rfl rfl rfl rfl ?_
  intro p e s m args below meth c ls hsz C hw hl hA
  subst hsz
  exact b_X9_wrongRow_0 C hA (rt_i C _) hwp hw hl
-- X9_isTrue
theorem hi_X9_isTrue_X9 : ∀ w ∈ u_ws RX9 TX9 20, w ∈ wsX9_isTrue := by decide +kernel
theorem hf_X9_isTrue_129 : Cond.fieldLink RX9 129 (TX9 3).1 (TX9 3).2.1 (TX9 3).2.2.1 ∈ wsX9_isTrue := by decide +kernel
theorem hf_X9_isTrue_21 : Cond.fieldLink RX9 21 (TX9 5).1 (TX9 5).2.1 (TX9 5).2.2.1 ∈ wsX9_isTrue := by decide +kernel
def rm_X9_isTrue : Room := { frames := 2, cells := 0, slots := 0, locals := 44 }
set_option maxRecDepth 100000 in
theorem b_X9_isTrue_0 {σ : St} {post : Int → Prop} (C : cx p s m args meth c wsX9_isTrue RX9 cX9_isTrue 1 (some .int) D cA) (hA : ∀ q, s.heap.size ≤ q → A q) (hR : RtI p l e rm_X9_isTrue s m args below meth c Q cX9_isTrue D cA K_M h A (fun _ => True) (fun r σ' => σ' = σ ∧ post r)) : ∀ {H : Heap} {locs : List Loc} {ls : Array Slot}, wp_X9_isTrue σ post → wd D cA K_M h σ A s.heap H locs → lh ls 1 [some (.ref (h 0))] → W p l e rm_X9_isTrue s m args below meth c H locs 0 0 Q (F0 m 0 ls []) := by
  intro H locs ls hwp hw hl
  refine r_aload_n C dX9_isTrue_0 hl rfl ?_
  refine r_get C hw clX9 0 rfl 3 3 rfl rfl (Nat.le_of_ble_eq_true rfl) hi_X9_isTrue_X9 hf_X9_isTrue_129 dX9_isTrue_1 ?_
  obtain ⟨ra, hT, hF⟩ := hwp
  refine r_if_le C (tgt := 38) dX9_isTrue_4 rfl ra (fun hc => ?_) (fun hc => ?_)
  · have hwp := hT hc
    refine r_const C dX9_isTrue_38 ?_
    exact hR _ _ _ _ _ _ dX9_isTrue_39 trivial ⟨rfl, hwp⟩ hw
  · have hwp := hF hc
    refine r_aload_n C dX9_isTrue_7 hl rfl ?_
    refine r_getr C hw clX9 0 rfl 5 4 rfl (Nat.le_of_ble_eq_true rfl) hi_X9_isTrue_X9 hf_X9_isTrue_21 dX9_isTrue_8 ?_
    refine r_aload_n C dX9_isTrue_11 hl rfl ?_
    refine r_get C hw clX9 0 rfl 3 3 rfl rfl (Nat.le_of_ble_eq_true rfl) hi_X9_isTrue_X9 hf_X9_isTrue_129 dX9_isTrue_12 ?_
    obtain ⟨h0, h1, hwp⟩ := hwp
    refine r_iald C hw 4 rfl rfl h0 h1 dX9_isTrue_15 ?_
    refine r_aload_n C dX9_isTrue_16 hl rfl ?_
    refine r_getr C hw clX9 0 rfl 5 4 rfl (Nat.le_of_ble_eq_true rfl) hi_X9_isTrue_X9 hf_X9_isTrue_21 dX9_isTrue_17 ?_
    refine r_const C dX9_isTrue_20 ?_
    refine r_iald C hw 4 rfl rfl (by decide) (by decide) dX9_isTrue_21 ?_
    obtain ⟨ra, rb, hT, hF⟩ := hwp
    refine r_icmp_ne C (tgt := 38) dX9_isTrue_22 rfl ra rb (fun hc => ?_) (fun hc => ?_)
    · have hwp := hT hc
      refine r_const C dX9_isTrue_38 ?_
      exact hR _ _ _ _ _ _ dX9_isTrue_39 trivial ⟨rfl, hwp⟩ hw
    · have hwp := hF hc
      refine r_aload_n C dX9_isTrue_25 hl rfl ?_
      refine r_cIr0 hA hw (run_v0 C hw clX9 rfl (c_X9_wrongRow hwp) (cwV 0 C.2.2.2.2.1 gX9_isTrue_X9_wrongRow rfl rfl rfl hd_X9_wrongRow ⟨Nat.le_of_ble_eq_true rfl, Nat.le_of_ble_eq_true rfl⟩) rfl rfl rfl hl dX9_isTrue_26 ⟨Nat.zero_le _, Nat.zero_le _⟩) (fun r H locs hwp hw => ?_)
      refine r_bipush C dX9_isTrue_29 bpb_m5 ?_
      obtain ⟨ra, hT, hF⟩ := hwp
      refine r_icmp_ne C (tgt := 38) dX9_isTrue_31 rfl ra (by decide) (fun hc => ?_) (fun hc => ?_)
      · have hwp := hT hc
        refine r_const C dX9_isTrue_38 ?_
        exact hR _ _ _ _ _ _ dX9_isTrue_39 trivial ⟨rfl, hwp⟩ hw
      · have hwp := hF hc
        refine r_const C dX9_isTrue_34 ?_
        refine r_goto C (tgt := 39) dX9_isTrue_35 rfl ?_
        exact hR _ _ _ _ _ _ dX9_isTrue_39 trivial ⟨rfl, hwp⟩ hw
set_option maxRecDepth 100000 in
theorem c_X9_isTrue {l : Launch} {D : va_G} {cA : FieldType → ClassId} {h : Nat → Nat} {σ : St} {sz : Nat} {post : Int → Prop} (hwp : wp_X9_isTrue σ post) : Met l yX9_isTrue wsX9_isTrue rm_X9_isTrue (va_Pc [.ref (h 0)] (preS D cA K_M h σ sz)) (QI D cA K_M h sz (fun r σ' => σ' = σ ∧ post r)) 0 0 (aA K_M.length h sz) := by
  refine mk_met (cc := cX9_isTrue) (nL := 1) (ret := (some .int)) (own := RX9) 0 (by decide) rfl rfl rfl rfl ?_
  intro p e s m args below meth c ls hsz C hw hl hA
  subst hsz
  exact b_X9_isTrue_0 C hA (rt_i C _) hwp hw hl
-- X9_course
theorem hi_X9_course_X9 : ∀ w ∈ u_ws RX9 TX9 20, w ∈ wsX9_course := by decide +kernel
theorem hf_X9_course_9 : Cond.fieldLink RX9 9 (TX9 0).1 (TX9 0).2.1 (TX9 0).2.2.1 ∈ wsX9_course := by decide +kernel
theorem hf_X9_course_18 : Cond.fieldLink RX9 18 (TX9 4).1 (TX9 4).2.1 (TX9 4).2.2.1 ∈ wsX9_course := by decide +kernel
theorem hf_X9_course_21 : Cond.fieldLink RX9 21 (TX9 5).1 (TX9 5).2.1 (TX9 5).2.2.1 ∈ wsX9_course := by decide +kernel
def rm_X9_course : Room := { frames := 2, cells := 0, slots := 0, locals := 47 }
set_option maxRecDepth 100000 in
theorem b_X9_course_116 {post : Int → St → Prop} (C : cx p s m args meth c wsX9_course RX9 cX9_course 6 (some .int) D cA) (hA : ∀ q, s.heap.size ≤ q → A q) (hR : RtI p l e rm_X9_course s m args below meth c Q cX9_course D cA K_M h A (fun _ => True) post) {k57 : Int → Int → Int → Int → St → Prop} (hk57 : ∀ {v1 v2 v3 v4 : Int} {σ : St} {H : Heap} {locs : List Loc} {ls : Array Slot}, k57 v1 v2 v3 v4 σ → wd D cA K_M h σ A s.heap H locs → lh ls 6 [some (.ref (h 0)), some (iv v1), some (iv v2), some (iv v3), some (iv v4), none] → W p l e rm_X9_course s m args below meth c H locs 0 0 Q (F0 m 57 ls [])) : ∀ (n : Nat) {v1 v2 v3 v4 v5 : Int} {σ : St} {H : Heap} {locs : List Loc} {ls : Array Slot}, wp_X9_course_116 k57 post n v1 v2 v3 v4 v5 σ → wd D cA K_M h σ A s.heap H locs → lh ls 6 [some (.ref (h 0)), some (iv v1), some (iv v2), some (iv v3), some (iv v4), some (iv v5)] → W p l e rm_X9_course s m args below meth c H locs 0 0 Q (F0 m 116 ls []) := by
  intro n; induction n with
  | zero => intros; rename_i hwp _ _; exact hwp.elim
  | succ n ih =>
    intro v1 v2 v3 v4 v5 σ H locs ls hwp hw hl
    refine r_iload C dX9_course_116 hl rfl ?_
    refine r_aload_n C dX9_course_118 hl rfl ?_
    refine r_getr C hw clX9 0 rfl 0 1 rfl (Nat.le_of_ble_eq_true rfl) hi_X9_course_X9 hf_X9_course_9 dX9_course_119 ?_
    refine r_const C dX9_course_122 ?_
    refine r_iald C hw 1 rfl rfl (by decide) (by decide) dX9_course_123 ?_
    obtain ⟨ra, rb, hT, hF⟩ := hwp
    refine r_icmp_ge C (tgt := 152) dX9_course_124 rfl ra rb (fun hc => ?_) (fun hc => ?_)
    · have hwp := hT hc
      refine r_goto C (tgt := 57) dX9_course_152 rfl ?_
      exact hk57 hwp hw (lh_mask hl [true, true, true, true, true, false])
    · have hwp := hF hc
      refine r_aload_n C dX9_course_127 hl rfl ?_
      refine r_getr C hw clX9 0 rfl 4 3 rfl (Nat.le_of_ble_eq_true rfl) hi_X9_course_X9 hf_X9_course_18 dX9_course_128 ?_
      refine r_iload C dX9_course_131 hl rfl ?_
      refine r_aload_n C dX9_course_133 hl rfl ?_
      refine r_getr C hw clX9 0 rfl 4 3 rfl (Nat.le_of_ble_eq_true rfl) hi_X9_course_X9 hf_X9_course_18 dX9_course_134 ?_
      refine r_bipush C dX9_course_137 bpb_8 ?_
      refine r_iload_n C dX9_course_139 hl rfl ?_
      refine r_imul C dX9_course_140 ?_
      refine r_iload C dX9_course_141 hl rfl ?_
      refine r_iadd C dX9_course_143 ?_
      obtain ⟨h0, h1, hwp⟩ := hwp
      refine r_iald C hw 3 rfl rfl h0 h1 dX9_course_144 ?_
      obtain ⟨h0, h1, hwp⟩ := hwp
      refine r_iast C hw 3 rfl rfl h0 h1 dX9_course_145 (fun H locs hw => ?_)
      have hwp := hwp _ rfl
      refine r_iinc C dX9_course_146 hl rfl (Nat.le_of_ble_eq_true rfl) rfl (fun ls hl => ?_)
      refine r_goto C (tgt := 116) dX9_course_149 rfl ?_
      exact ih hwp hw (lh_mask hl [true, true, true, true, true, true])
set_option maxRecDepth 100000 in
theorem b_X9_course_111 {post : Int → St → Prop} (C : cx p s m args meth c wsX9_course RX9 cX9_course 6 (some .int) D cA) (hA : ∀ q, s.heap.size ≤ q → A q) (hR : RtI p l e rm_X9_course s m args below meth c Q cX9_course D cA K_M h A (fun _ => True) post) {k57 : Int → Int → Int → Int → St → Prop} (hk57 : ∀ {v1 v2 v3 v4 : Int} {σ : St} {H : Heap} {locs : List Loc} {ls : Array Slot}, k57 v1 v2 v3 v4 σ → wd D cA K_M h σ A s.heap H locs → lh ls 6 [some (.ref (h 0)), some (iv v1), some (iv v2), some (iv v3), some (iv v4), none] → W p l e rm_X9_course s m args below meth c H locs 0 0 Q (F0 m 57 ls [])) : ∀ {v1 v2 v3 s0 : Int} {σ : St} {H : Heap} {locs : List Loc} {ls : Array Slot}, wp_X9_course_111 k57 post v1 v2 v3 s0 σ → wd D cA K_M h σ A s.heap H locs → lh ls 6 [some (.ref (h 0)), some (iv v1), some (iv v2), some (iv v3), none, none] → W p l e rm_X9_course s m args below meth c H locs 0 0 Q (F0 m 111 ls [iv s0]) := by
  intro v1 v2 v3 s0 σ H locs ls hwp hw hl
  refine r_istore C dX9_course_111 hl (Nat.le_of_ble_eq_true rfl) (Nat.le_of_ble_eq_true rfl) rfl (fun ls hl => ?_)
  refine r_const C dX9_course_113 ?_
  refine r_istore C dX9_course_114 hl (Nat.le_of_ble_eq_true rfl) (Nat.le_of_ble_eq_true rfl) rfl (fun ls hl => ?_)
  obtain ⟨n9, hwp⟩ := hwp
  exact b_X9_course_116 C hA hR hk57 n9 hwp hw (lh_mask hl [true, true, true, true, true, true])
set_option maxRecDepth 100000 in
theorem b_X9_course_65 {post : Int → St → Prop} (C : cx p s m args meth c wsX9_course RX9 cX9_course 6 (some .int) D cA) (hA : ∀ q, s.heap.size ≤ q → A q) (hR : RtI p l e rm_X9_course s m args below meth c Q cX9_course D cA K_M h A (fun _ => True) post) {k57 : Int → Int → Int → Int → St → Prop} (hk57 : ∀ {v1 v2 v3 v4 : Int} {σ : St} {H : Heap} {locs : List Loc} {ls : Array Slot}, k57 v1 v2 v3 v4 σ → wd D cA K_M h σ A s.heap H locs → lh ls 6 [some (.ref (h 0)), some (iv v1), some (iv v2), some (iv v3), some (iv v4), none] → W p l e rm_X9_course s m args below meth c H locs 0 0 Q (F0 m 57 ls [])) : ∀ (n : Nat) {v1 v2 v3 v5 : Int} {σ : St} {H : Heap} {locs : List Loc} {ls : Array Slot}, wp_X9_course_65 k57 post n v1 v2 v3 v5 σ → wd D cA K_M h σ A s.heap H locs → lh ls 6 [some (.ref (h 0)), some (iv v1), some (iv v2), some (iv v3), none, some (iv v5)] → W p l e rm_X9_course s m args below meth c H locs 0 0 Q (F0 m 65 ls []) := by
  intro n; induction n with
  | zero => intros; rename_i hwp _ _; exact hwp.elim
  | succ n ih =>
    intro v1 v2 v3 v5 σ H locs ls hwp hw hl
    refine r_iload C dX9_course_65 hl rfl ?_
    refine r_iload_n C dX9_course_67 hl rfl ?_
    obtain ⟨ra, rb, hT, hF⟩ := hwp
    refine r_icmp_ge C (tgt := 93) dX9_course_68 rfl ra rb (fun hc => ?_) (fun hc => ?_)
    · have hwp := hT hc
      refine r_iinc C dX9_course_93 hl rfl (Nat.le_of_ble_eq_true rfl) rfl (fun ls hl => ?_)
      refine r_aload_n C dX9_course_96 hl rfl ?_
      refine r_getr C hw clX9 0 rfl 5 4 rfl (Nat.le_of_ble_eq_true rfl) hi_X9_course_X9 hf_X9_course_21 dX9_course_97 ?_
      refine r_iload_n C dX9_course_100 hl rfl ?_
      obtain ⟨h0, h1, hwp⟩ := hwp
      refine r_iald C hw 4 rfl rfl h0 h1 dX9_course_101 ?_
      refine r_iload_n C dX9_course_102 hl rfl ?_
      obtain ⟨ra, rb, hT, hF⟩ := hwp
      refine r_icmp_eq C (tgt := 110) dX9_course_103 rfl ra rb (fun hc => ?_) (fun hc => ?_)
      · have hwp := hT hc
        refine r_const C dX9_course_110 ?_
        exact b_X9_course_111 C hA hR hk57 hwp hw (lh_mask hl [true, true, true, true, false, false])
      · have hwp := hF hc
        refine r_const C dX9_course_106 ?_
        refine r_goto C (tgt := 111) dX9_course_107 rfl ?_
        exact b_X9_course_111 C hA hR hk57 hwp hw (lh_mask hl [true, true, true, true, false, false])
    · have hwp := hF hc
      refine r_aload_n C dX9_course_71 hl rfl ?_
      refine r_iload C dX9_course_72 hl rfl ?_
      refine r_aload_n C dX9_course_74 hl rfl ?_
      refine r_getr C hw clX9 0 rfl 0 1 rfl (Nat.le_of_ble_eq_true rfl) hi_X9_course_X9 hf_X9_course_9 dX9_course_75 ?_
      refine r_bipush C dX9_course_78 bpb_8 ?_
      refine r_iload C dX9_course_80 hl rfl ?_
      refine r_iadd C dX9_course_82 ?_
      obtain ⟨h0, h1, hwp⟩ := hwp
      refine r_iald C hw 1 rfl rfl h0 h1 dX9_course_83 ?_
      refine r_cV0 hA hw (run_v0 C hw clX9 rfl (c_X9_goes hwp) (cwV 2 C.2.2.2.2.1 gX9_course_X9_goes rfl rfl rfl hd_X9_goes ⟨Nat.le_of_ble_eq_true rfl, Nat.le_of_ble_eq_true rfl⟩) rfl rfl rfl hl dX9_course_84 ⟨Nat.zero_le _, Nat.zero_le _⟩) (fun σ H locs hwp hw => ?_)
      refine r_iinc C dX9_course_87 hl rfl (Nat.le_of_ble_eq_true rfl) rfl (fun ls hl => ?_)
      refine r_goto C (tgt := 65) dX9_course_90 rfl ?_
      exact ih hwp hw (lh_mask hl [true, true, true, true, false, true])
set_option maxRecDepth 100000 in
theorem b_X9_course_57 {post : Int → St → Prop} (C : cx p s m args meth c wsX9_course RX9 cX9_course 6 (some .int) D cA) (hA : ∀ q, s.heap.size ≤ q → A q) (hR : RtI p l e rm_X9_course s m args below meth c Q cX9_course D cA K_M h A (fun _ => True) post) : ∀ (n : Nat) {v1 v2 v3 v4 : Int} {σ : St} {H : Heap} {locs : List Loc} {ls : Array Slot}, wp_X9_course_57 post n v1 v2 v3 v4 σ → wd D cA K_M h σ A s.heap H locs → lh ls 6 [some (.ref (h 0)), some (iv v1), some (iv v2), some (iv v3), some (iv v4), none] → W p l e rm_X9_course s m args below meth c H locs 0 0 Q (F0 m 57 ls []) := by
  intro n; induction n with
  | zero => intros; rename_i hwp _ _; exact hwp.elim
  | succ n ih =>
    intro v1 v2 v3 v4 σ H locs ls hwp hw hl
    refine r_iload C dX9_course_57 hl rfl ?_
    obtain ⟨ra, hT, hF⟩ := hwp
    refine r_if_eq C (tgt := 155) dX9_course_59 rfl ra (fun hc => ?_) (fun hc => ?_)
    · have hwp := hT hc
      refine r_iload_n C dX9_course_155 hl rfl ?_
      exact hR _ _ _ _ _ _ dX9_course_156 trivial hwp hw
    · have hwp := hF hc
      refine r_const C dX9_course_62 ?_
      refine r_istore C dX9_course_63 hl (Nat.le_of_ble_eq_true rfl) (Nat.le_of_ble_eq_true rfl) rfl (fun ls hl => ?_)
      obtain ⟨n9, hwp⟩ := hwp
      exact b_X9_course_65 C hA hR ih n9 hwp hw (lh_mask hl [true, true, true, true, false, true])
set_option maxRecDepth 100000 in
theorem b_X9_course_15 {post : Int → St → Prop} (C : cx p s m args meth c wsX9_course RX9 cX9_course 6 (some .int) D cA) (hA : ∀ q, s.heap.size ≤ q → A q) (hR : RtI p l e rm_X9_course s m args below meth c Q cX9_course D cA K_M h A (fun _ => True) post) : ∀ (n : Nat) {v1 v2 : Int} {σ : St} {H : Heap} {locs : List Loc} {ls : Array Slot}, wp_X9_course_15 post n v1 v2 σ → wd D cA K_M h σ A s.heap H locs → lh ls 6 [some (.ref (h 0)), some (iv v1), some (iv v2), none, none, none] → W p l e rm_X9_course s m args below meth c H locs 0 0 Q (F0 m 15 ls []) := by
  intro n; induction n with
  | zero => intros; rename_i hwp _ _; exact hwp.elim
  | succ n ih =>
    intro v1 v2 σ H locs ls hwp hw hl
    refine r_iload_n C dX9_course_15 hl rfl ?_
    refine r_aload_n C dX9_course_16 hl rfl ?_
    refine r_getr C hw clX9 0 rfl 0 1 rfl (Nat.le_of_ble_eq_true rfl) hi_X9_course_X9 hf_X9_course_9 dX9_course_17 ?_
    refine r_const C dX9_course_20 ?_
    refine r_iald C hw 1 rfl rfl (by decide) (by decide) dX9_course_21 ?_
    obtain ⟨ra, rb, hT, hF⟩ := hwp
    refine r_icmp_ge C (tgt := 40) dX9_course_22 rfl ra rb (fun hc => ?_) (fun hc => ?_)
    · have hwp := hT hc
      refine r_aload_n C dX9_course_40 hl rfl ?_
      refine r_const C dX9_course_41 ?_
      refine r_cV0 hA hw (run_v0 C hw clX9 rfl (c_X9_keys hwp) (cwV 1 C.2.2.2.2.1 gX9_course_X9_keys rfl rfl rfl hd_X9_keys ⟨Nat.le_of_ble_eq_true rfl, Nat.le_of_ble_eq_true rfl⟩) rfl rfl rfl hl dX9_course_42 ⟨Nat.zero_le _, Nat.zero_le _⟩) (fun σ H locs hwp hw => ?_)
      refine r_aload_n C dX9_course_45 hl rfl ?_
      refine r_getr C hw clX9 0 rfl 5 4 rfl (Nat.le_of_ble_eq_true rfl) hi_X9_course_X9 hf_X9_course_21 dX9_course_46 ?_
      refine r_const C dX9_course_49 ?_
      refine r_iald C hw 4 rfl rfl (by decide) (by decide) dX9_course_50 ?_
      refine r_istore_n C dX9_course_51 hl (Nat.le_of_ble_eq_true rfl) (Nat.le_of_ble_eq_true rfl) rfl (fun ls hl => ?_)
      refine r_const C dX9_course_52 ?_
      refine r_istore_n C dX9_course_53 hl (Nat.le_of_ble_eq_true rfl) (Nat.le_of_ble_eq_true rfl) rfl (fun ls hl => ?_)
      refine r_const C dX9_course_54 ?_
      refine r_istore C dX9_course_55 hl (Nat.le_of_ble_eq_true rfl) (Nat.le_of_ble_eq_true rfl) rfl (fun ls hl => ?_)
      obtain ⟨n9, hwp⟩ := hwp
      exact b_X9_course_57 C hA hR n9 hwp hw (lh_mask hl [true, true, true, true, true, false])
    · have hwp := hF hc
      refine r_aload_n C dX9_course_25 hl rfl ?_
      refine r_getr C hw clX9 0 rfl 4 3 rfl (Nat.le_of_ble_eq_true rfl) hi_X9_course_X9 hf_X9_course_18 dX9_course_26 ?_
      refine r_iload_n C dX9_course_29 hl rfl ?_
      refine r_iload_n C dX9_course_30 hl rfl ?_
      refine r_const C dX9_course_31 ?_
      refine r_iadd C dX9_course_32 ?_
      obtain ⟨h0, h1, hwp⟩ := hwp
      refine r_iast C hw 3 rfl rfl h0 h1 dX9_course_33 (fun H locs hw => ?_)
      have hwp := hwp _ rfl
      refine r_iinc C dX9_course_34 hl rfl (Nat.le_of_ble_eq_true rfl) rfl (fun ls hl => ?_)
      refine r_goto C (tgt := 15) dX9_course_37 rfl ?_
      exact ih hwp hw (lh_mask hl [true, true, true, false, false, false])
set_option maxRecDepth 100000 in
theorem b_X9_course_0 {post : Int → St → Prop} (C : cx p s m args meth c wsX9_course RX9 cX9_course 6 (some .int) D cA) (hA : ∀ q, s.heap.size ≤ q → A q) (hR : RtI p l e rm_X9_course s m args below meth c Q cX9_course D cA K_M h A (fun _ => True) post) : ∀ {σ : St} {H : Heap} {locs : List Loc} {ls : Array Slot}, wp_X9_course σ post → wd D cA K_M h σ A s.heap H locs → lh ls 6 [some (.ref (h 0)), none, none, none, none, none] → W p l e rm_X9_course s m args below meth c H locs 0 0 Q (F0 m 0 ls []) := by
  intro σ H locs ls hwp hw hl
  refine r_aload_n C dX9_course_0 hl rfl ?_
  refine r_getr C hw clX9 0 rfl 0 1 rfl (Nat.le_of_ble_eq_true rfl) hi_X9_course_X9 hf_X9_course_9 dX9_course_1 ?_
  refine r_const C dX9_course_4 ?_
  refine r_iald C hw 1 rfl rfl (by decide) (by decide) dX9_course_5 ?_
  refine r_istore_n C dX9_course_6 hl (Nat.le_of_ble_eq_true rfl) (Nat.le_of_ble_eq_true rfl) rfl (fun ls hl => ?_)
  refine r_iload_n C dX9_course_7 hl rfl ?_
  obtain ⟨ra, hT, hF⟩ := hwp
  refine r_if_ne C (tgt := 13) dX9_course_8 rfl ra (fun hc => ?_) (fun hc => ?_)
  · have hwp := hT hc
    refine r_const C dX9_course_13 ?_
    refine r_istore_n C dX9_course_14 hl (Nat.le_of_ble_eq_true rfl) (Nat.le_of_ble_eq_true rfl) rfl (fun ls hl => ?_)
    obtain ⟨n9, hwp⟩ := hwp
    exact b_X9_course_15 C hA hR n9 hwp hw (lh_mask hl [true, true, true, false, false, false])
  · have hwp := hF hc
    refine r_const C dX9_course_11 ?_
    exact hR _ _ _ _ _ _ dX9_course_12 trivial hwp hw
set_option maxRecDepth 100000 in
theorem c_X9_course {l : Launch} {D : va_G} {cA : FieldType → ClassId} {h : Nat → Nat} {σ : St} {sz : Nat} {post : Int → St → Prop} (hwp : wp_X9_course σ post) : Met l yX9_course wsX9_course rm_X9_course (va_Pc [.ref (h 0)] (preS D cA K_M h σ sz)) (QI D cA K_M h sz post) 0 0 (aA K_M.length h sz) := by
  refine mk_met (cc := cX9_course) (nL := 6) (ret := (some .int)) (own := RX9) 5 (by decide) rfl rfl rfl rfl ?_
  intro p e s m args below meth c ls hsz C hw hl hA
  subst hsz
  exact b_X9_course_0 C hA (rt_i C _) hwp hw hl
-- X9_of
theorem hi_X9_of_X9 : ∀ w ∈ u_ws RX9 TX9 20, w ∈ wsX9_of := by decide +kernel
theorem hf_X9_of_9 : Cond.fieldLink RX9 9 (TX9 0).1 (TX9 0).2.1 (TX9 0).2.2.1 ∈ wsX9_of := by decide +kernel
def rm_X9_of : Room := { frames := 1, cells := 0, slots := 0, locals := 22 }
set_option maxRecDepth 100000 in
theorem b_X9_of_0 {σ : St} {post : Int → Prop} (C : cx p s m args meth c wsX9_of RX9 cX9_of 3 (some .int) D cA) (hA : ∀ q, s.heap.size ≤ q → A q) (hR : RtI p l e rm_X9_of s m args below meth c Q cX9_of D cA K_M h A (fun _ => True) (fun r σ' => σ' = σ ∧ post r)) : ∀ {v1 v2 : Int} {H : Heap} {locs : List Loc} {ls : Array Slot}, wp_X9_of σ v1 v2 post → wd D cA K_M h σ A s.heap H locs → lh ls 3 [some (.ref (h 0)), some (iv v1), some (iv v2)] → W p l e rm_X9_of s m args below meth c H locs 0 0 Q (F0 m 0 ls []) := by
  intro v1 v2 H locs ls hwp hw hl
  refine r_iload_n C dX9_of_0 hl rfl ?_
  obtain ⟨ra, hS0, hS1, hS2, hS3, hD⟩ := hwp
  rcases sw_0_3 ra with hc | hc | hc | hc | hc
  · have hwp := hS0 hc
    refine r_tin C (tgt := 32) dX9_of_1 ra 0 hc (by decide) (by decide) rfl rfl ?_
    refine r_iload_n C dX9_of_32 hl rfl ?_
    refine r_const C dX9_of_33 ?_
    refine r_aload_n C dX9_of_34 hl rfl ?_
    refine r_getr C hw clX9 0 rfl 0 1 rfl (Nat.le_of_ble_eq_true rfl) hi_X9_of_X9 hf_X9_of_9 dX9_of_35 ?_
    refine r_const C dX9_of_38 ?_
    refine r_iald C hw 1 rfl rfl (by decide) (by decide) dX9_of_39 ?_
    refine r_const C dX9_of_40 ?_
    refine r_isub C dX9_of_41 ?_
    refine r_cIr hA hw sb_M_0_0_36 (run_s C hw sb_M_0_0_36 (c_X9_within hwp) (va_cwS 3 C.2.2.2.2.1 gX9_of_X9_within rfl rfl rfl hd_X9_within ⟨Nat.le_of_ble_eq_true rfl, Nat.le_of_ble_eq_true rfl⟩) rfl rfl rfl hl dX9_of_42 ⟨Nat.zero_le _, Nat.zero_le _⟩) (fun r H locs hwp hw => ?_)
    obtain ⟨ra, hT, hF⟩ := hwp
    refine r_if_eq C (tgt := 60) dX9_of_45 rfl ra (fun hc => ?_) (fun hc => ?_)
    · have hwp := hT hc
      refine r_const C dX9_of_60 ?_
      exact hR _ _ _ _ _ _ dX9_of_61 trivial ⟨rfl, hwp⟩ hw
    · have hwp := hF hc
      refine r_aload_n C dX9_of_48 hl rfl ?_
      refine r_getr C hw clX9 0 rfl 0 1 rfl (Nat.le_of_ble_eq_true rfl) hi_X9_of_X9 hf_X9_of_9 dX9_of_49 ?_
      refine r_bipush C dX9_of_52 bpb_8 ?_
      refine r_iload_n C dX9_of_54 hl rfl ?_
      refine r_iadd C dX9_of_55 ?_
      obtain ⟨h0, h1, hwp⟩ := hwp
      refine r_iald C hw 1 rfl rfl h0 h1 dX9_of_56 ?_
      refine r_goto C (tgt := 61) dX9_of_57 rfl ?_
      exact hR _ _ _ _ _ _ dX9_of_61 trivial ⟨rfl, hwp⟩ hw
  · have hwp := hS1 hc
    refine r_tin C (tgt := 62) dX9_of_1 ra 1 hc (by decide) (by decide) rfl rfl ?_
    refine r_aload_n C dX9_of_62 hl rfl ?_
    refine r_getr C hw clX9 0 rfl 0 1 rfl (Nat.le_of_ble_eq_true rfl) hi_X9_of_X9 hf_X9_of_9 dX9_of_63 ?_
    refine r_const C dX9_of_66 ?_
    refine r_iload_n C dX9_of_67 hl rfl ?_
    refine r_iadd C dX9_of_68 ?_
    obtain ⟨h0, h1, hwp⟩ := hwp
    refine r_iald C hw 1 rfl rfl h0 h1 dX9_of_69 ?_
    refine r_const C dX9_of_70 ?_
    obtain ⟨ra, hT, hF⟩ := hwp
    refine r_icmp_ne C (tgt := 79) dX9_of_71 rfl ra (by decide) (fun hc => ?_) (fun hc => ?_)
    · have hwp := hT hc
      refine r_aload_n C dX9_of_79 hl rfl ?_
      refine r_getr C hw clX9 0 rfl 0 1 rfl (Nat.le_of_ble_eq_true rfl) hi_X9_of_X9 hf_X9_of_9 dX9_of_80 ?_
      refine r_const C dX9_of_83 ?_
      refine r_iload_n C dX9_of_84 hl rfl ?_
      refine r_iadd C dX9_of_85 ?_
      obtain ⟨h0, h1, hwp⟩ := hwp
      refine r_iald C hw 1 rfl rfl h0 h1 dX9_of_86 ?_
      exact hR _ _ _ _ _ _ dX9_of_87 trivial ⟨rfl, hwp⟩ hw
    · have hwp := hF hc
      refine r_bipush C dX9_of_74 bpb_m5 ?_
      refine r_goto C (tgt := 87) dX9_of_76 rfl ?_
      exact hR _ _ _ _ _ _ dX9_of_87 trivial ⟨rfl, hwp⟩ hw
  · have hwp := hS2 hc
    refine r_tin C (tgt := 62) dX9_of_1 ra 2 hc (by decide) (by decide) rfl rfl ?_
    refine r_aload_n C dX9_of_62 hl rfl ?_
    refine r_getr C hw clX9 0 rfl 0 1 rfl (Nat.le_of_ble_eq_true rfl) hi_X9_of_X9 hf_X9_of_9 dX9_of_63 ?_
    refine r_const C dX9_of_66 ?_
    refine r_iload_n C dX9_of_67 hl rfl ?_
    refine r_iadd C dX9_of_68 ?_
    obtain ⟨h0, h1, hwp⟩ := hwp
    refine r_iald C hw 1 rfl rfl h0 h1 dX9_of_69 ?_
    refine r_const C dX9_of_70 ?_
    obtain ⟨ra, hT, hF⟩ := hwp
    refine r_icmp_ne C (tgt := 79) dX9_of_71 rfl ra (by decide) (fun hc => ?_) (fun hc => ?_)
    · have hwp := hT hc
      refine r_aload_n C dX9_of_79 hl rfl ?_
      refine r_getr C hw clX9 0 rfl 0 1 rfl (Nat.le_of_ble_eq_true rfl) hi_X9_of_X9 hf_X9_of_9 dX9_of_80 ?_
      refine r_const C dX9_of_83 ?_
      refine r_iload_n C dX9_of_84 hl rfl ?_
      refine r_iadd C dX9_of_85 ?_
      obtain ⟨h0, h1, hwp⟩ := hwp
      refine r_iald C hw 1 rfl rfl h0 h1 dX9_of_86 ?_
      exact hR _ _ _ _ _ _ dX9_of_87 trivial ⟨rfl, hwp⟩ hw
    · have hwp := hF hc
      refine r_bipush C dX9_of_74 bpb_m5 ?_
      refine r_goto C (tgt := 87) dX9_of_76 rfl ?_
      exact hR _ _ _ _ _ _ dX9_of_87 trivial ⟨rfl, hwp⟩ hw
  · have hwp := hS3 hc
    refine r_tin C (tgt := 88) dX9_of_1 ra 3 hc (by decide) (by decide) rfl rfl ?_
    refine r_iload_n C dX9_of_88 hl rfl ?_
    refine r_const C dX9_of_89 ?_
    refine r_bipush C dX9_of_90 bpb_11 ?_
    refine r_cIr hA hw sb_M_0_0_36 (run_s C hw sb_M_0_0_36 (c_X9_within hwp) (va_cwS 3 C.2.2.2.2.1 gX9_of_X9_within rfl rfl rfl hd_X9_within ⟨Nat.le_of_ble_eq_true rfl, Nat.le_of_ble_eq_true rfl⟩) rfl rfl rfl hl dX9_of_92 ⟨Nat.zero_le _, Nat.zero_le _⟩) (fun r H locs hwp hw => ?_)
    obtain ⟨ra, hT, hF⟩ := hwp
    refine r_if_eq C (tgt := 110) dX9_of_95 rfl ra (fun hc => ?_) (fun hc => ?_)
    · have hwp := hT hc
      refine r_const C dX9_of_110 ?_
      exact hR _ _ _ _ _ _ dX9_of_111 trivial ⟨rfl, hwp⟩ hw
    · have hwp := hF hc
      refine r_aload_n C dX9_of_98 hl rfl ?_
      refine r_getr C hw clX9 0 rfl 0 1 rfl (Nat.le_of_ble_eq_true rfl) hi_X9_of_X9 hf_X9_of_9 dX9_of_99 ?_
      refine r_bipush C dX9_of_102 bpb_24 ?_
      refine r_iload_n C dX9_of_104 hl rfl ?_
      refine r_iadd C dX9_of_105 ?_
      obtain ⟨h0, h1, hwp⟩ := hwp
      refine r_iald C hw 1 rfl rfl h0 h1 dX9_of_106 ?_
      refine r_goto C (tgt := 111) dX9_of_107 rfl ?_
      exact hR _ _ _ _ _ _ dX9_of_111 trivial ⟨rfl, hwp⟩ hw
  · have hwp := hD hc
    refine r_tout C (tgt := 112) dX9_of_1 ra hc rfl ?_
    refine r_const C dX9_of_112 ?_
    exact hR _ _ _ _ _ _ dX9_of_113 trivial ⟨rfl, hwp⟩ hw
set_option maxRecDepth 100000 in
theorem c_X9_of {l : Launch} {D : va_G} {cA : FieldType → ClassId} {h : Nat → Nat} {σ : St} {sz : Nat} {v1 v2 : Int} {post : Int → Prop} (hwp : wp_X9_of σ v1 v2 post) : Met l yX9_of wsX9_of rm_X9_of (va_Pc [.ref (h 0), iv v1, iv v2] (preS D cA K_M h σ sz)) (QI D cA K_M h sz (fun r σ' => σ' = σ ∧ post r)) 0 0 (aA K_M.length h sz) := by
  refine mk_met (cc := cX9_of) (nL := 3) (ret := (some .int)) (own := RX9) 0 (by decide) rfl rfl rfl rfl ?_
  intro p e s m args below meth c ls hsz C hw hl hA
  subst hsz
  exact b_X9_of_0 C hA (rt_i C _) hwp hw hl
-- X9_told
theorem hi_X9_told_X9 : ∀ w ∈ u_ws RX9 TX9 20, w ∈ wsX9_told := by decide +kernel
theorem hf_X9_told_9 : Cond.fieldLink RX9 9 (TX9 0).1 (TX9 0).2.1 (TX9 0).2.2.1 ∈ wsX9_told := by decide +kernel
theorem hf_X9_told_129 : Cond.fieldLink RX9 129 (TX9 3).1 (TX9 3).2.1 (TX9 3).2.2.1 ∈ wsX9_told := by decide +kernel
def rm_X9_told : Room := { frames := 3, cells := 0, slots := 0, locals := 72 }
set_option maxRecDepth 100000 in
theorem b_X9_told_0 {post : Int → St → Prop} (C : cx p s m args meth c wsX9_told RX9 cX9_told 2 (some .int) D cA) (hA : ∀ q, s.heap.size ≤ q → A q) (hR : RtI p l e rm_X9_told s m args below meth c Q cX9_told D cA K_M h A (fun _ => True) post) : ∀ {v1 : Int} {σ : St} {H : Heap} {locs : List Loc} {ls : Array Slot}, wp_X9_told σ v1 post → wd D cA K_M h σ A s.heap H locs → lh ls 2 [some (.ref (h 0)), some (iv v1)] → W p l e rm_X9_told s m args below meth c H locs 0 0 Q (F0 m 0 ls []) := by
  intro v1 σ H locs ls hwp hw hl
  refine r_iload_n C dX9_told_0 hl rfl ?_
  refine r_bipush C dX9_told_1 bpb_7 ?_
  obtain ⟨ra, hT, hF⟩ := hwp
  refine r_icmp_ne C (tgt := 11) dX9_told_3 rfl ra (by decide) (fun hc => ?_) (fun hc => ?_)
  · have hwp := hT hc
    refine r_aload_n C dX9_told_11 hl rfl ?_
    refine r_cV0 hA hw (run_v0 C hw clX9 rfl (c_X9_rings hwp) (cwV 0 C.2.2.2.2.1 gX9_told_X9_rings rfl rfl rfl hd_X9_rings ⟨Nat.le_of_ble_eq_true rfl, Nat.le_of_ble_eq_true rfl⟩) rfl rfl rfl hl dX9_told_12 ⟨Nat.zero_le _, Nat.zero_le _⟩) (fun σ H locs hwp hw => ?_)
    refine r_iload_n C dX9_told_15 hl rfl ?_
    obtain ⟨ra, hS0, hS1, hS2, hS3, hS4, hS5, hS6, hD⟩ := hwp
    rcases sw_0_6 ra with hc | hc | hc | hc | hc | hc | hc | hc
    · have hwp := hS0 hc
      refine r_tin C (tgt := 60) dX9_told_16 ra 0 hc (by decide) (by decide) rfl rfl ?_
      refine r_aload_n C dX9_told_60 hl rfl ?_
      refine r_getr C hw clX9 0 rfl 0 1 rfl (Nat.le_of_ble_eq_true rfl) hi_X9_told_X9 hf_X9_told_9 dX9_told_61 ?_
      refine r_const C dX9_told_64 ?_
      refine r_iald C hw 1 rfl rfl (by decide) (by decide) dX9_told_65 ?_
      exact hR _ _ _ _ _ _ dX9_told_66 trivial hwp hw
    · have hwp := hS1 hc
      refine r_tin C (tgt := 67) dX9_told_16 ra 1 hc (by decide) (by decide) rfl rfl ?_
      refine r_aload_n C dX9_told_67 hl rfl ?_
      refine r_getr C hw clX9 0 rfl 0 1 rfl (Nat.le_of_ble_eq_true rfl) hi_X9_told_X9 hf_X9_told_9 dX9_told_68 ?_
      refine r_const C dX9_told_71 ?_
      refine r_iald C hw 1 rfl rfl (by decide) (by decide) dX9_told_72 ?_
      exact hR _ _ _ _ _ _ dX9_told_73 trivial hwp hw
    · have hwp := hS2 hc
      refine r_tin C (tgt := 74) dX9_told_16 ra 2 hc (by decide) (by decide) rfl rfl ?_
      refine r_aload_n C dX9_told_74 hl rfl ?_
      refine r_getr C hw clX9 0 rfl 0 1 rfl (Nat.le_of_ble_eq_true rfl) hi_X9_told_X9 hf_X9_told_9 dX9_told_75 ?_
      refine r_const C dX9_told_78 ?_
      refine r_iald C hw 1 rfl rfl (by decide) (by decide) dX9_told_79 ?_
      exact hR _ _ _ _ _ _ dX9_told_80 trivial hwp hw
    · have hwp := hS3 hc
      refine r_tin C (tgt := 81) dX9_told_16 ra 3 hc (by decide) (by decide) rfl rfl ?_
      refine r_aload_n C dX9_told_81 hl rfl ?_
      refine r_get C hw clX9 0 rfl 3 3 rfl rfl (Nat.le_of_ble_eq_true rfl) hi_X9_told_X9 hf_X9_told_129 dX9_told_82 ?_
      exact hR _ _ _ _ _ _ dX9_told_85 trivial hwp hw
    · have hwp := hS4 hc
      refine r_tin C (tgt := 86) dX9_told_16 ra 4 hc (by decide) (by decide) rfl rfl ?_
      refine r_aload_n C dX9_told_86 hl rfl ?_
      refine r_cIr0 hA hw (run_v0 C hw clX9 rfl (c_X9_round hwp) (cwV 0 C.2.2.2.2.1 gX9_told_X9_round rfl rfl rfl hd_X9_round ⟨Nat.le_of_ble_eq_true rfl, Nat.le_of_ble_eq_true rfl⟩) rfl rfl rfl hl dX9_told_87 ⟨Nat.zero_le _, Nat.zero_le _⟩) (fun r H locs hwp hw => ?_)
      exact hR _ _ _ _ _ _ dX9_told_90 trivial hwp hw
    · have hwp := hS5 hc
      refine r_tin C (tgt := 91) dX9_told_16 ra 5 hc (by decide) (by decide) rfl rfl ?_
      refine r_aload_n C dX9_told_91 hl rfl ?_
      refine r_cIr0 hA hw (run_v0 C hw clX9 rfl (c_X9_wrongRow hwp) (cwV 0 C.2.2.2.2.1 gX9_told_X9_wrongRow rfl rfl rfl hd_X9_wrongRow ⟨Nat.le_of_ble_eq_true rfl, Nat.le_of_ble_eq_true rfl⟩) rfl rfl rfl hl dX9_told_92 ⟨Nat.zero_le _, Nat.zero_le _⟩) (fun r H locs hwp hw => ?_)
      exact hR _ _ _ _ _ _ dX9_told_95 trivial hwp hw
    · have hwp := hS6 hc
      refine r_tin C (tgt := 96) dX9_told_16 ra 6 hc (by decide) (by decide) rfl rfl ?_
      refine r_aload_n C dX9_told_96 hl rfl ?_
      refine r_cIr0 hA hw (run_v0 C hw clX9 rfl (c_X9_isTrue hwp) (cwV 0 C.2.2.2.2.1 gX9_told_X9_isTrue rfl rfl rfl hd_X9_isTrue ⟨Nat.le_of_ble_eq_true rfl, Nat.le_of_ble_eq_true rfl⟩) rfl rfl rfl hl dX9_told_97 ⟨Nat.zero_le _, Nat.zero_le _⟩) (fun r H locs hwp hw => ?_)
      exact hR _ _ _ _ _ _ dX9_told_100 trivial hwp hw
    · have hwp := hD hc
      refine r_tout C (tgt := 101) dX9_told_16 ra hc rfl ?_
      refine r_const C dX9_told_101 ?_
      exact hR _ _ _ _ _ _ dX9_told_102 trivial hwp hw
  · have hwp := hF hc
    refine r_aload_n C dX9_told_6 hl rfl ?_
    refine r_cI0 hA hw (run_v0 C hw clX9 rfl (c_X9_course hwp) (cwV 0 C.2.2.2.2.1 gX9_told_X9_course rfl rfl rfl hd_X9_course ⟨Nat.le_of_ble_eq_true rfl, Nat.le_of_ble_eq_true rfl⟩) rfl rfl rfl hl dX9_told_7 ⟨Nat.zero_le _, Nat.zero_le _⟩) (fun r σ H locs hwp hw => ?_)
    exact hR _ _ _ _ _ _ dX9_told_10 trivial hwp hw
set_option maxRecDepth 100000 in
theorem c_X9_told {l : Launch} {D : va_G} {cA : FieldType → ClassId} {h : Nat → Nat} {σ : St} {sz : Nat} {v1 : Int} {post : Int → St → Prop} (hwp : wp_X9_told σ v1 post) : Met l yX9_told wsX9_told rm_X9_told (va_Pc [.ref (h 0), iv v1] (preS D cA K_M h σ sz)) (QI D cA K_M h sz post) 0 0 (aA K_M.length h sz) := by
  refine mk_met (cc := cX9_told) (nL := 2) (ret := (some .int)) (own := RX9) 0 (by decide) rfl rfl rfl rfl ?_
  intro p e s m args below meth c ls hsz C hw hl hA
  subst hsz
  exact b_X9_told_0 C hA (rt_i C _) hwp hw hl
-- X9_isPlace
theorem hi_X9_isPlace_X9 : ∀ w ∈ u_ws RX9 TX9 20, w ∈ wsX9_isPlace := by decide +kernel
theorem hf_X9_isPlace_9 : Cond.fieldLink RX9 9 (TX9 0).1 (TX9 0).2.1 (TX9 0).2.2.1 ∈ wsX9_isPlace := by decide +kernel
def rm_X9_isPlace : Room := { frames := 1, cells := 0, slots := 0, locals := 22 }
set_option maxRecDepth 100000 in
theorem b_X9_isPlace_0 {σ : St} {post : Int → Prop} (C : cx p s m args meth c wsX9_isPlace RX9 cX9_isPlace 2 (some .boolean) D cA) (hA : ∀ q, s.heap.size ≤ q → A q) (hR : RtI p l e rm_X9_isPlace s m args below meth c Q cX9_isPlace D cA K_M h A (fun x => x = 0 ∨ x = 1) (fun r σ' => σ' = σ ∧ post r)) : ∀ {v1 : Int} {H : Heap} {locs : List Loc} {ls : Array Slot}, wp_X9_isPlace σ v1 post → wd D cA K_M h σ A s.heap H locs → lh ls 2 [some (.ref (h 0)), some (iv v1)] → W p l e rm_X9_isPlace s m args below meth c H locs 0 0 Q (F0 m 0 ls []) := by
  intro v1 H locs ls hwp hw hl
  refine r_iload_n C dX9_isPlace_0 hl rfl ?_
  refine r_const C dX9_isPlace_1 ?_
  refine r_aload_n C dX9_isPlace_2 hl rfl ?_
  refine r_getr C hw clX9 0 rfl 0 1 rfl (Nat.le_of_ble_eq_true rfl) hi_X9_isPlace_X9 hf_X9_isPlace_9 dX9_isPlace_3 ?_
  refine r_const C dX9_isPlace_6 ?_
  refine r_iald C hw 1 rfl rfl (by decide) (by decide) dX9_isPlace_7 ?_
  refine r_cIr hA hw sb_M_0_0_36 (run_s C hw sb_M_0_0_36 (c_X9_within hwp) (va_cwS 3 C.2.2.2.2.1 gX9_isPlace_X9_within rfl rfl rfl hd_X9_within ⟨Nat.le_of_ble_eq_true rfl, Nat.le_of_ble_eq_true rfl⟩) rfl rfl rfl hl dX9_isPlace_8 ⟨Nat.zero_le _, Nat.zero_le _⟩) (fun r H locs hwp hw => ?_)
  obtain ⟨hz, hwp⟩ := hwp
  exact hR _ _ _ _ _ _ dX9_isPlace_11 hz ⟨rfl, hwp⟩ hw
set_option maxRecDepth 100000 in
theorem c_X9_isPlace {l : Launch} {D : va_G} {cA : FieldType → ClassId} {h : Nat → Nat} {σ : St} {sz : Nat} {v1 : Int} {post : Int → Prop} (hwp : wp_X9_isPlace σ v1 post) : Met l yX9_isPlace wsX9_isPlace rm_X9_isPlace (va_Pc [.ref (h 0), iv v1] (preS D cA K_M h σ sz)) (QI D cA K_M h sz (fun r σ' => σ' = σ ∧ post r)) 0 0 (aA K_M.length h sz) := by
  refine mk_met (cc := cX9_isPlace) (nL := 2) (ret := (some .boolean)) (own := RX9) 0 (by decide) rfl rfl rfl rfl ?_
  intro p e s m args below meth c ls hsz C hw hl hA
  subst hsz
  exact b_X9_isPlace_0 C hA (rt_z C _) hwp hw hl
-- X9_place
theorem hi_X9_place_X9 : ∀ w ∈ u_ws RX9 TX9 20, w ∈ wsX9_place := by decide +kernel
theorem hf_X9_place_18 : Cond.fieldLink RX9 18 (TX9 4).1 (TX9 4).2.1 (TX9 4).2.2.1 ∈ wsX9_place := by decide +kernel
def rm_X9_place : Room := { frames := 0, cells := 0, slots := 0, locals := 0 }
set_option maxRecDepth 100000 in
theorem b_X9_place_2 {σ : St} {post : Int → Prop} (C : cx p s m args meth c wsX9_place RX9 cX9_place 4 (some .int) D cA) (hA : ∀ q, s.heap.size ≤ q → A q) (hR : RtI p l e rm_X9_place s m args below meth c Q cX9_place D cA K_M h A (fun _ => True) (fun r σ' => σ' = σ ∧ post r)) : ∀ (n : Nat) {v1 v2 v3 : Int} {H : Heap} {locs : List Loc} {ls : Array Slot}, wp_X9_place_2 post n v1 v2 v3 σ → wd D cA K_M h σ A s.heap H locs → lh ls 4 [some (.ref (h 0)), some (iv v1), some (iv v2), some (iv v3)] → W p l e rm_X9_place s m args below meth c H locs 0 0 Q (F0 m 2 ls []) := by
  intro n; induction n with
  | zero => intros; rename_i hwp _ _; exact hwp.elim
  | succ n ih =>
    intro v1 v2 v3 H locs ls hwp hw hl
    refine r_aload_n C dX9_place_2 hl rfl ?_
    refine r_getr C hw clX9 0 rfl 4 3 rfl (Nat.le_of_ble_eq_true rfl) hi_X9_place_X9 hf_X9_place_18 dX9_place_3 ?_
    refine r_bipush C dX9_place_6 bpb_8 ?_
    refine r_iload_n C dX9_place_8 hl rfl ?_
    refine r_imul C dX9_place_9 ?_
    refine r_iload_n C dX9_place_10 hl rfl ?_
    refine r_iadd C dX9_place_11 ?_
    obtain ⟨h0, h1, hwp⟩ := hwp
    refine r_iald C hw 3 rfl rfl h0 h1 dX9_place_12 ?_
    refine r_iload_n C dX9_place_13 hl rfl ?_
    obtain ⟨ra, rb, hT, hF⟩ := hwp
    refine r_icmp_eq C (tgt := 23) dX9_place_14 rfl ra rb (fun hc => ?_) (fun hc => ?_)
    · have hwp := hT hc
      refine r_iload_n C dX9_place_23 hl rfl ?_
      refine r_const C dX9_place_24 ?_
      refine r_iadd C dX9_place_25 ?_
      exact hR _ _ _ _ _ _ dX9_place_26 trivial ⟨rfl, hwp⟩ hw
    · have hwp := hF hc
      refine r_iinc C dX9_place_17 hl rfl (Nat.le_of_ble_eq_true rfl) rfl (fun ls hl => ?_)
      refine r_goto C (tgt := 2) dX9_place_20 rfl ?_
      exact ih hwp hw (lh_mask hl [true, true, true, true])
set_option maxRecDepth 100000 in
theorem b_X9_place_0 {σ : St} {post : Int → Prop} (C : cx p s m args meth c wsX9_place RX9 cX9_place 4 (some .int) D cA) (hA : ∀ q, s.heap.size ≤ q → A q) (hR : RtI p l e rm_X9_place s m args below meth c Q cX9_place D cA K_M h A (fun _ => True) (fun r σ' => σ' = σ ∧ post r)) : ∀ {v1 v2 : Int} {H : Heap} {locs : List Loc} {ls : Array Slot}, wp_X9_place σ v1 v2 post → wd D cA K_M h σ A s.heap H locs → lh ls 4 [some (.ref (h 0)), some (iv v1), some (iv v2), none] → W p l e rm_X9_place s m args below meth c H locs 0 0 Q (F0 m 0 ls []) := by
  intro v1 v2 H locs ls hwp hw hl
  refine r_const C dX9_place_0 ?_
  refine r_istore_n C dX9_place_1 hl (Nat.le_of_ble_eq_true rfl) (Nat.le_of_ble_eq_true rfl) rfl (fun ls hl => ?_)
  obtain ⟨n9, hwp⟩ := hwp
  exact b_X9_place_2 C hA hR n9 hwp hw (lh_mask hl [true, true, true, true])
set_option maxRecDepth 100000 in
theorem c_X9_place {l : Launch} {D : va_G} {cA : FieldType → ClassId} {h : Nat → Nat} {σ : St} {sz : Nat} {v1 v2 : Int} {post : Int → Prop} (hwp : wp_X9_place σ v1 v2 post) : Met l yX9_place wsX9_place rm_X9_place (va_Pc [.ref (h 0), iv v1, iv v2] (preS D cA K_M h σ sz)) (QI D cA K_M h sz (fun r σ' => σ' = σ ∧ post r)) 0 0 (aA K_M.length h sz) := by
  refine mk_met (cc := cX9_place) (nL := 4) (ret := (some .int)) (own := RX9) 1 (by decide) rfl rfl rfl rfl ?_
  intro p e s m args below meth c ls hsz C hw hl hA
  subst hsz
  exact b_X9_place_0 C hA (rt_i C _) hwp hw hl
-- X9_at
theorem hi_X9_at_X9 : ∀ w ∈ u_ws RX9 TX9 20, w ∈ wsX9_at := by decide +kernel
theorem hf_X9_at_129 : Cond.fieldLink RX9 129 (TX9 3).1 (TX9 3).2.1 (TX9 3).2.2.1 ∈ wsX9_at := by decide +kernel
theorem hf_X9_at_18 : Cond.fieldLink RX9 18 (TX9 4).1 (TX9 4).2.1 (TX9 4).2.2.1 ∈ wsX9_at := by decide +kernel
def rm_X9_at : Room := { frames := 3, cells := 0, slots := 0, locals := 71 }
set_option maxRecDepth 100000 in
theorem b_X9_at_0 {post : Int → St → Prop} (C : cx p s m args meth c wsX9_at RX9 cX9_at 3 (some .int) D cA) (hA : ∀ q, s.heap.size ≤ q → A q) (hR : RtI p l e rm_X9_at s m args below meth c Q cX9_at D cA K_M h A (fun _ => True) post) : ∀ {v1 v2 : Int} {σ : St} {H : Heap} {locs : List Loc} {ls : Array Slot}, wp_X9_at σ v1 v2 post → wd D cA K_M h σ A s.heap H locs → lh ls 3 [some (.ref (h 0)), some (iv v1), some (iv v2)] → W p l e rm_X9_at s m args below meth c H locs 0 0 Q (F0 m 0 ls []) := by
  intro v1 v2 σ H locs ls hwp hw hl
  refine r_aload_n C dX9_at_0 hl rfl ?_
  refine r_cV0 hA hw (run_v0 C hw clX9 rfl (c_X9_rings hwp) (cwV 0 C.2.2.2.2.1 gX9_at_X9_rings rfl rfl rfl hd_X9_rings ⟨Nat.le_of_ble_eq_true rfl, Nat.le_of_ble_eq_true rfl⟩) rfl rfl rfl hl dX9_at_1 ⟨Nat.zero_le _, Nat.zero_le _⟩) (fun σ H locs hwp hw => ?_)
  refine r_iload_n C dX9_at_4 hl rfl ?_
  refine r_const C dX9_at_5 ?_
  refine r_aload_n C dX9_at_6 hl rfl ?_
  refine r_get C hw clX9 0 rfl 3 3 rfl rfl (Nat.le_of_ble_eq_true rfl) hi_X9_at_X9 hf_X9_at_129 dX9_at_7 ?_
  refine r_cIr hA hw sb_M_0_0_36 (run_s C hw sb_M_0_0_36 (c_X9_within hwp) (va_cwS 3 C.2.2.2.2.1 gX9_at_X9_within rfl rfl rfl hd_X9_within ⟨Nat.le_of_ble_eq_true rfl, Nat.le_of_ble_eq_true rfl⟩) rfl rfl rfl hl dX9_at_10 ⟨Nat.zero_le _, Nat.zero_le _⟩) (fun r H locs hwp hw => ?_)
  obtain ⟨ra, hT, hF⟩ := hwp
  refine r_if_eq C (tgt := 40) dX9_at_13 rfl ra (fun hc => ?_) (fun hc => ?_)
  · have hwp := hT hc
    refine r_const C dX9_at_40 ?_
    exact hR _ _ _ _ _ _ dX9_at_41 trivial hwp hw
  · have hwp := hF hc
    refine r_aload_n C dX9_at_16 hl rfl ?_
    refine r_iload_n C dX9_at_17 hl rfl ?_
    refine r_cIr0 hA hw (run_v0 C hw clX9 rfl (c_X9_isPlace hwp) (cwV 1 C.2.2.2.2.1 gX9_at_X9_isPlace rfl rfl rfl hd_X9_isPlace ⟨Nat.le_of_ble_eq_true rfl, Nat.le_of_ble_eq_true rfl⟩) rfl rfl rfl hl dX9_at_18 ⟨Nat.zero_le _, Nat.zero_le _⟩) (fun r H locs hwp hw => ?_)
    obtain ⟨ra, hT, hF⟩ := hwp
    refine r_if_eq C (tgt := 40) dX9_at_21 rfl ra (fun hc => ?_) (fun hc => ?_)
    · have hwp := hT hc
      refine r_const C dX9_at_40 ?_
      exact hR _ _ _ _ _ _ dX9_at_41 trivial hwp hw
    · have hwp := hF hc
      refine r_aload_n C dX9_at_24 hl rfl ?_
      refine r_getr C hw clX9 0 rfl 4 3 rfl (Nat.le_of_ble_eq_true rfl) hi_X9_at_X9 hf_X9_at_18 dX9_at_25 ?_
      refine r_bipush C dX9_at_28 bpb_8 ?_
      refine r_iload_n C dX9_at_30 hl rfl ?_
      refine r_imul C dX9_at_31 ?_
      refine r_iload_n C dX9_at_32 hl rfl ?_
      refine r_iadd C dX9_at_33 ?_
      refine r_const C dX9_at_34 ?_
      refine r_isub C dX9_at_35 ?_
      obtain ⟨h0, h1, hwp⟩ := hwp
      refine r_iald C hw 3 rfl rfl h0 h1 dX9_at_36 ?_
      refine r_goto C (tgt := 41) dX9_at_37 rfl ?_
      exact hR _ _ _ _ _ _ dX9_at_41 trivial hwp hw
set_option maxRecDepth 100000 in
theorem c_X9_at {l : Launch} {D : va_G} {cA : FieldType → ClassId} {h : Nat → Nat} {σ : St} {sz : Nat} {v1 v2 : Int} {post : Int → St → Prop} (hwp : wp_X9_at σ v1 v2 post) : Met l yX9_at wsX9_at rm_X9_at (va_Pc [.ref (h 0), iv v1, iv v2] (preS D cA K_M h σ sz)) (QI D cA K_M h sz post) 0 0 (aA K_M.length h sz) := by
  refine mk_met (cc := cX9_at) (nL := 3) (ret := (some .int)) (own := RX9) 0 (by decide) rfl rfl rfl rfl ?_
  intro p e s m args below meth c ls hsz C hw hl hA
  subst hsz
  exact b_X9_at_0 C hA (rt_i C _) hwp hw hl
-- X9_where
theorem hi_X9_where_X9 : ∀ w ∈ u_ws RX9 TX9 20, w ∈ wsX9_where := by decide +kernel
theorem hf_X9_where_129 : Cond.fieldLink RX9 129 (TX9 3).1 (TX9 3).2.1 (TX9 3).2.2.1 ∈ wsX9_where := by decide +kernel
def rm_X9_where : Room := { frames := 3, cells := 0, slots := 0, locals := 71 }
set_option maxRecDepth 100000 in
theorem b_X9_where_0 {post : Int → St → Prop} (C : cx p s m args meth c wsX9_where RX9 cX9_where 3 (some .int) D cA) (hA : ∀ q, s.heap.size ≤ q → A q) (hR : RtI p l e rm_X9_where s m args below meth c Q cX9_where D cA K_M h A (fun _ => True) post) : ∀ {v1 v2 : Int} {σ : St} {H : Heap} {locs : List Loc} {ls : Array Slot}, wp_X9_where σ v1 v2 post → wd D cA K_M h σ A s.heap H locs → lh ls 3 [some (.ref (h 0)), some (iv v1), some (iv v2)] → W p l e rm_X9_where s m args below meth c H locs 0 0 Q (F0 m 0 ls []) := by
  intro v1 v2 σ H locs ls hwp hw hl
  refine r_aload_n C dX9_where_0 hl rfl ?_
  refine r_cV0 hA hw (run_v0 C hw clX9 rfl (c_X9_rings hwp) (cwV 0 C.2.2.2.2.1 gX9_where_X9_rings rfl rfl rfl hd_X9_rings ⟨Nat.le_of_ble_eq_true rfl, Nat.le_of_ble_eq_true rfl⟩) rfl rfl rfl hl dX9_where_1 ⟨Nat.zero_le _, Nat.zero_le _⟩) (fun σ H locs hwp hw => ?_)
  refine r_iload_n C dX9_where_4 hl rfl ?_
  refine r_const C dX9_where_5 ?_
  refine r_aload_n C dX9_where_6 hl rfl ?_
  refine r_get C hw clX9 0 rfl 3 3 rfl rfl (Nat.le_of_ble_eq_true rfl) hi_X9_where_X9 hf_X9_where_129 dX9_where_7 ?_
  refine r_cIr hA hw sb_M_0_0_36 (run_s C hw sb_M_0_0_36 (c_X9_within hwp) (va_cwS 3 C.2.2.2.2.1 gX9_where_X9_within rfl rfl rfl hd_X9_within ⟨Nat.le_of_ble_eq_true rfl, Nat.le_of_ble_eq_true rfl⟩) rfl rfl rfl hl dX9_where_10 ⟨Nat.zero_le _, Nat.zero_le _⟩) (fun r H locs hwp hw => ?_)
  obtain ⟨ra, hT, hF⟩ := hwp
  refine r_if_eq C (tgt := 33) dX9_where_13 rfl ra (fun hc => ?_) (fun hc => ?_)
  · have hwp := hT hc
    refine r_const C dX9_where_33 ?_
    exact hR _ _ _ _ _ _ dX9_where_34 trivial hwp hw
  · have hwp := hF hc
    refine r_aload_n C dX9_where_16 hl rfl ?_
    refine r_iload_n C dX9_where_17 hl rfl ?_
    refine r_cIr0 hA hw (run_v0 C hw clX9 rfl (c_X9_isPlace hwp) (cwV 1 C.2.2.2.2.1 gX9_where_X9_isPlace rfl rfl rfl hd_X9_isPlace ⟨Nat.le_of_ble_eq_true rfl, Nat.le_of_ble_eq_true rfl⟩) rfl rfl rfl hl dX9_where_18 ⟨Nat.zero_le _, Nat.zero_le _⟩) (fun r H locs hwp hw => ?_)
    obtain ⟨ra, hT, hF⟩ := hwp
    refine r_if_eq C (tgt := 33) dX9_where_21 rfl ra (fun hc => ?_) (fun hc => ?_)
    · have hwp := hT hc
      refine r_const C dX9_where_33 ?_
      exact hR _ _ _ _ _ _ dX9_where_34 trivial hwp hw
    · have hwp := hF hc
      refine r_aload_n C dX9_where_24 hl rfl ?_
      refine r_iload_n C dX9_where_25 hl rfl ?_
      refine r_iload_n C dX9_where_26 hl rfl ?_
      refine r_cIr0 hA hw (run_v0 C hw clX9 rfl (c_X9_place hwp) (cwV 2 C.2.2.2.2.1 gX9_where_X9_place rfl rfl rfl hd_X9_place ⟨Nat.le_of_ble_eq_true rfl, Nat.le_of_ble_eq_true rfl⟩) rfl rfl rfl hl dX9_where_27 ⟨Nat.zero_le _, Nat.zero_le _⟩) (fun r H locs hwp hw => ?_)
      refine r_goto C (tgt := 34) dX9_where_30 rfl ?_
      exact hR _ _ _ _ _ _ dX9_where_34 trivial hwp hw
set_option maxRecDepth 100000 in
theorem c_X9_where {l : Launch} {D : va_G} {cA : FieldType → ClassId} {h : Nat → Nat} {σ : St} {sz : Nat} {v1 v2 : Int} {post : Int → St → Prop} (hwp : wp_X9_where σ v1 v2 post) : Met l yX9_where wsX9_where rm_X9_where (va_Pc [.ref (h 0), iv v1, iv v2] (preS D cA K_M h σ sz)) (QI D cA K_M h sz post) 0 0 (aA K_M.length h sz) := by
  refine mk_met (cc := cX9_where) (nL := 3) (ret := (some .int)) (own := RX9) 0 (by decide) rfl rfl rfl rfl ?_
  intro p e s m args below meth c ls hsz C hw hl hA
  subst hsz
  exact b_X9_where_0 C hA (rt_i C _) hwp hw hl
-- X9_same
theorem hi_X9_same_X9 : ∀ w ∈ u_ws RX9 TX9 20, w ∈ wsX9_same := by decide +kernel
theorem hf_X9_same_129 : Cond.fieldLink RX9 129 (TX9 3).1 (TX9 3).2.1 (TX9 3).2.2.1 ∈ wsX9_same := by decide +kernel
def rm_X9_same : Room := { frames := 3, cells := 0, slots := 0, locals := 71 }
set_option maxRecDepth 100000 in
theorem b_X9_same_0 {post : Int → St → Prop} (C : cx p s m args meth c wsX9_same RX9 cX9_same 2 (some .int) D cA) (hA : ∀ q, s.heap.size ≤ q → A q) (hR : RtI p l e rm_X9_same s m args below meth c Q cX9_same D cA K_M h A (fun _ => True) post) : ∀ {v1 : Int} {σ : St} {H : Heap} {locs : List Loc} {ls : Array Slot}, wp_X9_same σ v1 post → wd D cA K_M h σ A s.heap H locs → lh ls 2 [some (.ref (h 0)), some (iv v1)] → W p l e rm_X9_same s m args below meth c H locs 0 0 Q (F0 m 0 ls []) := by
  intro v1 σ H locs ls hwp hw hl
  refine r_aload_n C dX9_same_0 hl rfl ?_
  refine r_cV0 hA hw (run_v0 C hw clX9 rfl (c_X9_rings hwp) (cwV 0 C.2.2.2.2.1 gX9_same_X9_rings rfl rfl rfl hd_X9_rings ⟨Nat.le_of_ble_eq_true rfl, Nat.le_of_ble_eq_true rfl⟩) rfl rfl rfl hl dX9_same_1 ⟨Nat.zero_le _, Nat.zero_le _⟩) (fun σ H locs hwp hw => ?_)
  refine r_iload_n C dX9_same_4 hl rfl ?_
  refine r_const C dX9_same_5 ?_
  refine r_aload_n C dX9_same_6 hl rfl ?_
  refine r_get C hw clX9 0 rfl 3 3 rfl rfl (Nat.le_of_ble_eq_true rfl) hi_X9_same_X9 hf_X9_same_129 dX9_same_7 ?_
  refine r_cIr hA hw sb_M_0_0_36 (run_s C hw sb_M_0_0_36 (c_X9_within hwp) (va_cwS 3 C.2.2.2.2.1 gX9_same_X9_within rfl rfl rfl hd_X9_within ⟨Nat.le_of_ble_eq_true rfl, Nat.le_of_ble_eq_true rfl⟩) rfl rfl rfl hl dX9_same_10 ⟨Nat.zero_le _, Nat.zero_le _⟩) (fun r H locs hwp hw => ?_)
  obtain ⟨ra, hT, hF⟩ := hwp
  refine r_if_eq C (tgt := 24) dX9_same_13 rfl ra (fun hc => ?_) (fun hc => ?_)
  · have hwp := hT hc
    refine r_const C dX9_same_24 ?_
    exact hR _ _ _ _ _ _ dX9_same_25 trivial hwp hw
  · have hwp := hF hc
    refine r_aload_n C dX9_same_16 hl rfl ?_
    refine r_iload_n C dX9_same_17 hl rfl ?_
    refine r_cIr0 hA hw (run_v0 C hw clX9 rfl (c_X9_first hwp) (cwV 1 C.2.2.2.2.1 gX9_same_X9_first rfl rfl rfl hd_X9_first ⟨Nat.le_of_ble_eq_true rfl, Nat.le_of_ble_eq_true rfl⟩) rfl rfl rfl hl dX9_same_18 ⟨Nat.zero_le _, Nat.zero_le _⟩) (fun r H locs hwp hw => ?_)
    refine r_goto C (tgt := 25) dX9_same_21 rfl ?_
    exact hR _ _ _ _ _ _ dX9_same_25 trivial hwp hw
set_option maxRecDepth 100000 in
theorem c_X9_same {l : Launch} {D : va_G} {cA : FieldType → ClassId} {h : Nat → Nat} {σ : St} {sz : Nat} {v1 : Int} {post : Int → St → Prop} (hwp : wp_X9_same σ v1 post) : Met l yX9_same wsX9_same rm_X9_same (va_Pc [.ref (h 0), iv v1] (preS D cA K_M h σ sz)) (QI D cA K_M h sz post) 0 0 (aA K_M.length h sz) := by
  refine mk_met (cc := cX9_same) (nL := 2) (ret := (some .int)) (own := RX9) 0 (by decide) rfl rfl rfl rfl ?_
  intro p e s m args below meth c ls hsz C hw hl hA
  subst hsz
  exact b_X9_same_0 C hA (rt_i C _) hwp hw hl
-- X9_good
def rm_X9_good : Room := { frames := 2, cells := 0, slots := 0, locals := 43 }
set_option maxRecDepth 100000 in
theorem b_X9_good_0 {σ : St} {post : Int → Prop} (C : cx p s m args meth c wsX9_good RX9 cX9_good 2 (some .int) D cA) (hA : ∀ q, s.heap.size ≤ q → A q) (hR : RtI p l e rm_X9_good s m args below meth c Q cX9_good D cA K_M h A (fun _ => True) (fun r σ' => σ' = σ ∧ post r)) : ∀ {v1 : Int} {H : Heap} {locs : List Loc} {ls : Array Slot}, wp_X9_good σ v1 post → wd D cA K_M h σ A s.heap H locs → lh ls 2 [some (.ref (h 0)), some (iv v1)] → W p l e rm_X9_good s m args below meth c H locs 0 0 Q (F0 m 0 ls []) := by
  intro v1 H locs ls hwp hw hl
  refine r_aload_n C dX9_good_0 hl rfl ?_
  refine r_iload_n C dX9_good_1 hl rfl ?_
  refine r_cIr0 hA hw (run_v0 C hw clX9 rfl (c_X9_areKept hwp) (cwV 1 C.2.2.2.2.1 gX9_good_X9_areKept rfl rfl rfl hd_X9_areKept ⟨Nat.le_of_ble_eq_true rfl, Nat.le_of_ble_eq_true rfl⟩) rfl rfl rfl hl dX9_good_2 ⟨Nat.zero_le _, Nat.zero_le _⟩) (fun r H locs hwp hw => ?_)
  obtain ⟨ra, hT, hF⟩ := hwp
  refine r_if_ne C (tgt := 11) dX9_good_5 rfl ra (fun hc => ?_) (fun hc => ?_)
  · have hwp := hT hc
    refine r_aload_n C dX9_good_11 hl rfl ?_
    refine r_iload_n C dX9_good_12 hl rfl ?_
    refine r_cIr0 hA hw (run_v0 C hw clX9 rfl (c_X9_isGood hwp) (cwV 1 C.2.2.2.2.1 gX9_good_X9_isGood rfl rfl rfl hd_X9_isGood ⟨Nat.le_of_ble_eq_true rfl, Nat.le_of_ble_eq_true rfl⟩) rfl rfl rfl hl dX9_good_13 ⟨Nat.zero_le _, Nat.zero_le _⟩) (fun r H locs hwp hw => ?_)
    obtain ⟨ra, hT, hF⟩ := hwp
    refine r_if_eq C (tgt := 23) dX9_good_16 rfl ra (fun hc => ?_) (fun hc => ?_)
    · have hwp := hT hc
      refine r_const C dX9_good_23 ?_
      exact hR _ _ _ _ _ _ dX9_good_24 trivial ⟨rfl, hwp⟩ hw
    · have hwp := hF hc
      refine r_const C dX9_good_19 ?_
      refine r_goto C (tgt := 24) dX9_good_20 rfl ?_
      exact hR _ _ _ _ _ _ dX9_good_24 trivial ⟨rfl, hwp⟩ hw
  · have hwp := hF hc
    refine r_bipush C dX9_good_8 bpb_m2 ?_
    exact hR _ _ _ _ _ _ dX9_good_10 trivial ⟨rfl, hwp⟩ hw
set_option maxRecDepth 100000 in
theorem c_X9_good {l : Launch} {D : va_G} {cA : FieldType → ClassId} {h : Nat → Nat} {σ : St} {sz : Nat} {v1 : Int} {post : Int → Prop} (hwp : wp_X9_good σ v1 post) : Met l yX9_good wsX9_good rm_X9_good (va_Pc [.ref (h 0), iv v1] (preS D cA K_M h σ sz)) (QI D cA K_M h sz (fun r σ' => σ' = σ ∧ post r)) 0 0 (aA K_M.length h sz) := by
  refine mk_met (cc := cX9_good) (nL := 2) (ret := (some .int)) (own := RX9) 0 (by decide) rfl rfl rfl rfl ?_
  intro p e s m args below meth c ls hsz C hw hl hA
  subst hsz
  exact b_X9_good_0 C hA (rt_i C _) hwp hw hl
-- X9_isMusic
theorem hi_X9_isMusic_X9 : ∀ w ∈ u_ws RX9 TX9 20, w ∈ wsX9_isMusic := by decide +kernel
theorem hf_X9_isMusic_9 : Cond.fieldLink RX9 9 (TX9 0).1 (TX9 0).2.1 (TX9 0).2.2.1 ∈ wsX9_isMusic := by decide +kernel
theorem hf_X9_isMusic_18 : Cond.fieldLink RX9 18 (TX9 4).1 (TX9 4).2.1 (TX9 4).2.2.1 ∈ wsX9_isMusic := by decide +kernel
def rm_X9_isMusic : Room := { frames := 1, cells := 0, slots := 0, locals := 23 }
set_option maxRecDepth 100000 in
theorem b_X9_isMusic_39 {σ : St} {post : Int → Prop} (C : cx p s m args meth c wsX9_isMusic RX9 cX9_isMusic 5 (some .boolean) D cA) (hA : ∀ q, s.heap.size ≤ q → A q) (hR : RtI p l e rm_X9_isMusic s m args below meth c Q cX9_isMusic D cA K_M h A (fun x => x = 0 ∨ x = 1) (fun r σ' => σ' = σ ∧ post r)) : ∀ (n : Nat) {v2 v3 v4 : Int} {H : Heap} {locs : List Loc} {ls : Array Slot}, wp_X9_isMusic_39 post n v2 v3 v4 σ → wd D cA K_M h σ A s.heap H locs → lh ls 5 [some (.ref (h 0)), none, some (iv v2), some (iv v3), some (iv v4)] → W p l e rm_X9_isMusic s m args below meth c H locs 0 0 Q (F0 m 39 ls []) := by
  intro n; induction n with
  | zero => intros; rename_i hwp _ _; exact hwp.elim
  | succ n ih =>
    intro v2 v3 v4 H locs ls hwp hw hl
    refine r_iload C dX9_isMusic_39 hl rfl ?_
    refine r_const C dX9_isMusic_41 ?_
    obtain ⟨ra, hT, hF⟩ := hwp
    refine r_icmp_ge C (tgt := 76) dX9_isMusic_42 rfl ra (by decide) (fun hc => ?_) (fun hc => ?_)
    · have hwp := hT hc
      refine r_const C dX9_isMusic_76 ?_
      exact hR _ _ _ _ _ _ dX9_isMusic_77 (Or.inr rfl) ⟨rfl, hwp⟩ hw
    · have hwp := hF hc
      refine r_aload_n C dX9_isMusic_45 hl rfl ?_
      refine r_getr C hw clX9 0 rfl 4 3 rfl (Nat.le_of_ble_eq_true rfl) hi_X9_isMusic_X9 hf_X9_isMusic_18 dX9_isMusic_46 ?_
      refine r_bipush C dX9_isMusic_49 bpb_8 ?_
      refine r_iload_n C dX9_isMusic_51 hl rfl ?_
      refine r_imul C dX9_isMusic_52 ?_
      refine r_iload_n C dX9_isMusic_53 hl rfl ?_
      refine r_iadd C dX9_isMusic_54 ?_
      refine r_iload C dX9_isMusic_55 hl rfl ?_
      refine r_isub C dX9_isMusic_57 ?_
      obtain ⟨h0, h1, hwp⟩ := hwp
      refine r_iald C hw 3 rfl rfl h0 h1 dX9_isMusic_58 ?_
      refine r_iload_n C dX9_isMusic_59 hl rfl ?_
      refine r_const C dX9_isMusic_60 ?_
      refine r_iadd C dX9_isMusic_61 ?_
      refine r_iload C dX9_isMusic_62 hl rfl ?_
      refine r_isub C dX9_isMusic_64 ?_
      obtain ⟨ra, rb, hT, hF⟩ := hwp
      refine r_icmp_eq C (tgt := 70) dX9_isMusic_65 rfl ra rb (fun hc => ?_) (fun hc => ?_)
      · have hwp := hT hc
        refine r_iinc C dX9_isMusic_70 hl rfl (Nat.le_of_ble_eq_true rfl) rfl (fun ls hl => ?_)
        refine r_goto C (tgt := 39) dX9_isMusic_73 rfl ?_
        exact ih hwp hw (lh_mask hl [true, false, true, true, true])
      · have hwp := hF hc
        refine r_const C dX9_isMusic_68 ?_
        exact hR _ _ _ _ _ _ dX9_isMusic_69 (Or.inl rfl) ⟨rfl, hwp⟩ hw
set_option maxRecDepth 100000 in
theorem b_X9_isMusic_81 {σ : St} {post : Int → Prop} (C : cx p s m args meth c wsX9_isMusic RX9 cX9_isMusic 5 (some .boolean) D cA) (hA : ∀ q, s.heap.size ≤ q → A q) (hR : RtI p l e rm_X9_isMusic s m args below meth c Q cX9_isMusic D cA K_M h A (fun x => x = 0 ∨ x = 1) (fun r σ' => σ' = σ ∧ post r)) : ∀ (n : Nat) {v2 v4 : Int} {H : Heap} {locs : List Loc} {ls : Array Slot}, wp_X9_isMusic_81 post n v2 v4 σ → wd D cA K_M h σ A s.heap H locs → lh ls 5 [some (.ref (h 0)), none, some (iv v2), none, some (iv v4)] → W p l e rm_X9_isMusic s m args below meth c H locs 0 0 Q (F0 m 81 ls []) := by
  intro n; induction n with
  | zero => intros; rename_i hwp _ _; exact hwp.elim
  | succ n ih =>
    intro v2 v4 H locs ls hwp hw hl
    refine r_iload C dX9_isMusic_81 hl rfl ?_
    refine r_const C dX9_isMusic_83 ?_
    obtain ⟨ra, hT, hF⟩ := hwp
    refine r_icmp_ge C (tgt := 114) dX9_isMusic_84 rfl ra (by decide) (fun hc => ?_) (fun hc => ?_)
    · have hwp := hT hc
      refine r_const C dX9_isMusic_114 ?_
      exact hR _ _ _ _ _ _ dX9_isMusic_115 (Or.inr rfl) ⟨rfl, hwp⟩ hw
    · have hwp := hF hc
      refine r_aload_n C dX9_isMusic_87 hl rfl ?_
      refine r_getr C hw clX9 0 rfl 4 3 rfl (Nat.le_of_ble_eq_true rfl) hi_X9_isMusic_X9 hf_X9_isMusic_18 dX9_isMusic_88 ?_
      refine r_bipush C dX9_isMusic_91 bpb_8 ?_
      refine r_iload_n C dX9_isMusic_93 hl rfl ?_
      refine r_imul C dX9_isMusic_94 ?_
      refine r_iload C dX9_isMusic_95 hl rfl ?_
      refine r_iadd C dX9_isMusic_97 ?_
      obtain ⟨h0, h1, hwp⟩ := hwp
      refine r_iald C hw 3 rfl rfl h0 h1 dX9_isMusic_98 ?_
      refine r_iload C dX9_isMusic_99 hl rfl ?_
      refine r_const C dX9_isMusic_101 ?_
      refine r_iadd C dX9_isMusic_102 ?_
      obtain ⟨ra, rb, hT, hF⟩ := hwp
      refine r_icmp_eq C (tgt := 108) dX9_isMusic_103 rfl ra rb (fun hc => ?_) (fun hc => ?_)
      · have hwp := hT hc
        refine r_iinc C dX9_isMusic_108 hl rfl (Nat.le_of_ble_eq_true rfl) rfl (fun ls hl => ?_)
        refine r_goto C (tgt := 81) dX9_isMusic_111 rfl ?_
        exact ih hwp hw (lh_mask hl [true, false, true, false, true])
      · have hwp := hF hc
        refine r_const C dX9_isMusic_106 ?_
        exact hR _ _ _ _ _ _ dX9_isMusic_107 (Or.inl rfl) ⟨rfl, hwp⟩ hw
set_option maxRecDepth 100000 in
theorem b_X9_isMusic_165 {σ : St} {post : Int → Prop} (C : cx p s m args meth c wsX9_isMusic RX9 cX9_isMusic 5 (some .boolean) D cA) (hA : ∀ q, s.heap.size ≤ q → A q) (hR : RtI p l e rm_X9_isMusic s m args below meth c Q cX9_isMusic D cA K_M h A (fun x => x = 0 ∨ x = 1) (fun r σ' => σ' = σ ∧ post r)) {k119 : Int → Int → Int → St → Prop} (hk119 : ∀ {v2 v3 v4 : Int} {H : Heap} {locs : List Loc} {ls : Array Slot}, k119 v2 v3 v4 σ → wd D cA K_M h σ A s.heap H locs → lh ls 5 [some (.ref (h 0)), none, some (iv v2), some (iv v3), some (iv v4)] → W p l e rm_X9_isMusic s m args below meth c H locs 0 0 Q (F0 m 119 ls [])) : ∀ {v2 v3 v4 : Int} {H : Heap} {locs : List Loc} {ls : Array Slot}, wp_X9_isMusic_165 k119 post v2 v3 v4 σ → wd D cA K_M h σ A s.heap H locs → lh ls 5 [some (.ref (h 0)), none, some (iv v2), some (iv v3), some (iv v4)] → W p l e rm_X9_isMusic s m args below meth c H locs 0 0 Q (F0 m 165 ls []) := by
  intro v2 v3 v4 H locs ls hwp hw hl
  refine r_iinc C dX9_isMusic_165 hl rfl (Nat.le_of_ble_eq_true rfl) rfl (fun ls hl => ?_)
  refine r_goto C (tgt := 119) dX9_isMusic_168 rfl ?_
  exact hk119 hwp hw (lh_mask hl [true, false, true, true, true])
set_option maxRecDepth 100000 in
theorem b_X9_isMusic_119 {σ : St} {post : Int → Prop} (C : cx p s m args meth c wsX9_isMusic RX9 cX9_isMusic 5 (some .boolean) D cA) (hA : ∀ q, s.heap.size ≤ q → A q) (hR : RtI p l e rm_X9_isMusic s m args below meth c Q cX9_isMusic D cA K_M h A (fun x => x = 0 ∨ x = 1) (fun r σ' => σ' = σ ∧ post r)) : ∀ (n : Nat) {v2 v3 v4 : Int} {H : Heap} {locs : List Loc} {ls : Array Slot}, wp_X9_isMusic_119 post n v2 v3 v4 σ → wd D cA K_M h σ A s.heap H locs → lh ls 5 [some (.ref (h 0)), none, some (iv v2), some (iv v3), some (iv v4)] → W p l e rm_X9_isMusic s m args below meth c H locs 0 0 Q (F0 m 119 ls []) := by
  intro n; induction n with
  | zero => intros; rename_i hwp _ _; exact hwp.elim
  | succ n ih =>
    intro v2 v3 v4 H locs ls hwp hw hl
    refine r_iload C dX9_isMusic_119 hl rfl ?_
    refine r_iload_n C dX9_isMusic_121 hl rfl ?_
    obtain ⟨ra, rb, hT, hF⟩ := hwp
    refine r_icmp_ge C (tgt := 171) dX9_isMusic_122 rfl ra rb (fun hc => ?_) (fun hc => ?_)
    · have hwp := hT hc
      refine r_const C dX9_isMusic_171 ?_
      exact hR _ _ _ _ _ _ dX9_isMusic_172 (Or.inr rfl) ⟨rfl, hwp⟩ hw
    · have hwp := hF hc
      refine r_aload_n C dX9_isMusic_125 hl rfl ?_
      refine r_getr C hw clX9 0 rfl 0 1 rfl (Nat.le_of_ble_eq_true rfl) hi_X9_isMusic_X9 hf_X9_isMusic_9 dX9_isMusic_126 ?_
      refine r_bipush C dX9_isMusic_129 bpb_36 ?_
      refine r_iload C dX9_isMusic_131 hl rfl ?_
      refine r_iadd C dX9_isMusic_133 ?_
      obtain ⟨h0, h1, hwp⟩ := hwp
      refine r_iald C hw 1 rfl rfl h0 h1 dX9_isMusic_134 ?_
      obtain ⟨ra, hT, hF⟩ := hwp
      refine r_if_eq C (tgt := 165) dX9_isMusic_135 rfl ra (fun hc => ?_) (fun hc => ?_)
      · have hwp := hT hc
        exact b_X9_isMusic_165 C hA hR ih hwp hw (lh_mask hl [true, false, true, true, true])
      · have hwp := hF hc
        refine r_aload_n C dX9_isMusic_138 hl rfl ?_
        refine r_getr C hw clX9 0 rfl 0 1 rfl (Nat.le_of_ble_eq_true rfl) hi_X9_isMusic_X9 hf_X9_isMusic_9 dX9_isMusic_139 ?_
        refine r_bipush C dX9_isMusic_142 bpb_36 ?_
        refine r_iload C dX9_isMusic_144 hl rfl ?_
        refine r_iadd C dX9_isMusic_146 ?_
        obtain ⟨h0, h1, hwp⟩ := hwp
        refine r_iald C hw 1 rfl rfl h0 h1 dX9_isMusic_147 ?_
        refine r_aload_n C dX9_isMusic_148 hl rfl ?_
        refine r_getr C hw clX9 0 rfl 4 3 rfl (Nat.le_of_ble_eq_true rfl) hi_X9_isMusic_X9 hf_X9_isMusic_18 dX9_isMusic_149 ?_
        refine r_bipush C dX9_isMusic_152 bpb_8 ?_
        refine r_iload_n C dX9_isMusic_154 hl rfl ?_
        refine r_imul C dX9_isMusic_155 ?_
        refine r_iload C dX9_isMusic_156 hl rfl ?_
        refine r_iadd C dX9_isMusic_158 ?_
        obtain ⟨h0, h1, hwp⟩ := hwp
        refine r_iald C hw 3 rfl rfl h0 h1 dX9_isMusic_159 ?_
        obtain ⟨ra, rb, hT, hF⟩ := hwp
        refine r_icmp_eq C (tgt := 165) dX9_isMusic_160 rfl ra rb (fun hc => ?_) (fun hc => ?_)
        · have hwp := hT hc
          exact b_X9_isMusic_165 C hA hR ih hwp hw (lh_mask hl [true, false, true, true, true])
        · have hwp := hF hc
          refine r_const C dX9_isMusic_163 ?_
          exact hR _ _ _ _ _ _ dX9_isMusic_164 (Or.inl rfl) ⟨rfl, hwp⟩ hw
set_option maxRecDepth 100000 in
theorem b_X9_isMusic_0 {σ : St} {post : Int → Prop} (C : cx p s m args meth c wsX9_isMusic RX9 cX9_isMusic 5 (some .boolean) D cA) (hA : ∀ q, s.heap.size ≤ q → A q) (hR : RtI p l e rm_X9_isMusic s m args below meth c Q cX9_isMusic D cA K_M h A (fun x => x = 0 ∨ x = 1) (fun r σ' => σ' = σ ∧ post r)) : ∀ {v1 v2 : Int} {H : Heap} {locs : List Loc} {ls : Array Slot}, wp_X9_isMusic σ v1 v2 post → wd D cA K_M h σ A s.heap H locs → lh ls 5 [some (.ref (h 0)), some (iv v1), some (iv v2), none, none] → W p l e rm_X9_isMusic s m args below meth c H locs 0 0 Q (F0 m 0 ls []) := by
  intro v1 v2 H locs ls hwp hw hl
  refine r_aload_n C dX9_isMusic_0 hl rfl ?_
  refine r_getr C hw clX9 0 rfl 0 1 rfl (Nat.le_of_ble_eq_true rfl) hi_X9_isMusic_X9 hf_X9_isMusic_9 dX9_isMusic_1 ?_
  refine r_const C dX9_isMusic_4 ?_
  refine r_iald C hw 1 rfl rfl (by decide) (by decide) dX9_isMusic_5 ?_
  refine r_istore_n C dX9_isMusic_6 hl (Nat.le_of_ble_eq_true rfl) (Nat.le_of_ble_eq_true rfl) rfl (fun ls hl => ?_)
  refine r_iload_n C dX9_isMusic_7 hl rfl ?_
  obtain ⟨ra, hS0, hS1, hS2, hD⟩ := hwp
  rcases sw_0_2 ra with hc | hc | hc | hc
  · have hwp := hS0 hc
    refine r_tin C (tgt := 36) dX9_isMusic_8 ra 0 hc (by decide) (by decide) rfl rfl ?_
    refine r_const C dX9_isMusic_36 ?_
    refine r_istore C dX9_isMusic_37 hl (Nat.le_of_ble_eq_true rfl) (Nat.le_of_ble_eq_true rfl) rfl (fun ls hl => ?_)
    obtain ⟨n9, hwp⟩ := hwp
    exact b_X9_isMusic_39 C hA hR n9 hwp hw (lh_mask hl [true, false, true, true, true])
  · have hwp := hS1 hc
    refine r_tin C (tgt := 78) dX9_isMusic_8 ra 1 hc (by decide) (by decide) rfl rfl ?_
    refine r_const C dX9_isMusic_78 ?_
    refine r_istore C dX9_isMusic_79 hl (Nat.le_of_ble_eq_true rfl) (Nat.le_of_ble_eq_true rfl) rfl (fun ls hl => ?_)
    obtain ⟨n9, hwp⟩ := hwp
    exact b_X9_isMusic_81 C hA hR n9 hwp hw (lh_mask hl [true, false, true, false, true])
  · have hwp := hS2 hc
    refine r_tin C (tgt := 116) dX9_isMusic_8 ra 2 hc (by decide) (by decide) rfl rfl ?_
    refine r_const C dX9_isMusic_116 ?_
    refine r_istore C dX9_isMusic_117 hl (Nat.le_of_ble_eq_true rfl) (Nat.le_of_ble_eq_true rfl) rfl (fun ls hl => ?_)
    obtain ⟨n9, hwp⟩ := hwp
    exact b_X9_isMusic_119 C hA hR n9 hwp hw (lh_mask hl [true, false, true, true, true])
  · have hwp := hD hc
    refine r_tout C (tgt := 173) dX9_isMusic_8 ra hc rfl ?_
    refine r_aload_n C dX9_isMusic_173 hl rfl ?_
    refine r_iload_n C dX9_isMusic_174 hl rfl ?_
    refine r_iload_n C dX9_isMusic_175 hl rfl ?_
    refine r_cIr0 hA hw (run_v0 C hw clX9 rfl (c_X9_place hwp) (cwV 2 C.2.2.2.2.1 gX9_isMusic_X9_place rfl rfl rfl hd_X9_place ⟨Nat.le_of_ble_eq_true rfl, Nat.le_of_ble_eq_true rfl⟩) rfl rfl rfl hl dX9_isMusic_176 ⟨Nat.zero_le _, Nat.zero_le _⟩) (fun r H locs hwp hw => ?_)
    refine r_aload_n C dX9_isMusic_179 hl rfl ?_
    refine r_iload_n C dX9_isMusic_180 hl rfl ?_
    refine r_iload_n C dX9_isMusic_181 hl rfl ?_
    refine r_const C dX9_isMusic_182 ?_
    refine r_isub C dX9_isMusic_183 ?_
    refine r_cIr0 hA hw (run_v0 C hw clX9 rfl (c_X9_place hwp) (cwV 2 C.2.2.2.2.1 gX9_isMusic_X9_place rfl rfl rfl hd_X9_place ⟨Nat.le_of_ble_eq_true rfl, Nat.le_of_ble_eq_true rfl⟩) rfl rfl rfl hl dX9_isMusic_184 ⟨Nat.zero_le _, Nat.zero_le _⟩) (fun r H locs hwp hw => ?_)
    refine r_const C dX9_isMusic_187 ?_
    refine r_iadd C dX9_isMusic_188 ?_
    obtain ⟨ra, rb, hT, hF⟩ := hwp
    refine r_icmp_ne C (tgt := 196) dX9_isMusic_189 rfl ra rb (fun hc => ?_) (fun hc => ?_)
    · have hwp := hT hc
      refine r_const C dX9_isMusic_196 ?_
      exact hR _ _ _ _ _ _ dX9_isMusic_197 (Or.inl rfl) ⟨rfl, hwp⟩ hw
    · have hwp := hF hc
      refine r_const C dX9_isMusic_192 ?_
      refine r_goto C (tgt := 197) dX9_isMusic_193 rfl ?_
      exact hR _ _ _ _ _ _ dX9_isMusic_197 (Or.inr rfl) ⟨rfl, hwp⟩ hw
set_option maxRecDepth 100000 in
theorem c_X9_isMusic {l : Launch} {D : va_G} {cA : FieldType → ClassId} {h : Nat → Nat} {σ : St} {sz : Nat} {v1 v2 : Int} {post : Int → Prop} (hwp : wp_X9_isMusic σ v1 v2 post) : Met l yX9_isMusic wsX9_isMusic rm_X9_isMusic (va_Pc [.ref (h 0), iv v1, iv v2] (preS D cA K_M h σ sz)) (QI D cA K_M h sz (fun r σ' => σ' = σ ∧ post r)) 0 0 (aA K_M.length h sz) := by
  refine mk_met (cc := cX9_isMusic) (nL := 5) (ret := (some .boolean)) (own := RX9) 2 (by decide) rfl rfl rfl rfl ?_
  intro p e s m args below meth c ls hsz C hw hl hA
  subst hsz
  exact b_X9_isMusic_0 C hA (rt_z C _) hwp hw hl
-- X9_musicOf
theorem hi_X9_musicOf_X9 : ∀ w ∈ u_ws RX9 TX9 20, w ∈ wsX9_musicOf := by decide +kernel
theorem hf_X9_musicOf_129 : Cond.fieldLink RX9 129 (TX9 3).1 (TX9 3).2.1 (TX9 3).2.2.1 ∈ wsX9_musicOf := by decide +kernel
def rm_X9_musicOf : Room := { frames := 2, cells := 0, slots := 0, locals := 47 }
set_option maxRecDepth 100000 in
theorem b_X9_musicOf_24 {σ : St} {post : Int → Prop} (C : cx p s m args meth c wsX9_musicOf RX9 cX9_musicOf 4 (some .int) D cA) (hA : ∀ q, s.heap.size ≤ q → A q) (hR : RtI p l e rm_X9_musicOf s m args below meth c Q cX9_musicOf D cA K_M h A (fun _ => True) (fun r σ' => σ' = σ ∧ post r)) {k4 : Int → Int → Int → St → Prop} (hk4 : ∀ {v1 v2 v3 : Int} {H : Heap} {locs : List Loc} {ls : Array Slot}, k4 v1 v2 v3 σ → wd D cA K_M h σ A s.heap H locs → lh ls 4 [some (.ref (h 0)), some (iv v1), some (iv v2), some (iv v3)] → W p l e rm_X9_musicOf s m args below meth c H locs 0 0 Q (F0 m 4 ls [])) : ∀ {v1 v2 v3 : Int} {H : Heap} {locs : List Loc} {ls : Array Slot}, wp_X9_musicOf_24 k4 post v1 v2 v3 σ → wd D cA K_M h σ A s.heap H locs → lh ls 4 [some (.ref (h 0)), some (iv v1), some (iv v2), some (iv v3)] → W p l e rm_X9_musicOf s m args below meth c H locs 0 0 Q (F0 m 24 ls []) := by
  intro v1 v2 v3 H locs ls hwp hw hl
  refine r_iinc C dX9_musicOf_24 hl rfl (Nat.le_of_ble_eq_true rfl) rfl (fun ls hl => ?_)
  refine r_goto C (tgt := 4) dX9_musicOf_27 rfl ?_
  exact hk4 hwp hw (lh_mask hl [true, true, true, true])
set_option maxRecDepth 100000 in
theorem b_X9_musicOf_4 {σ : St} {post : Int → Prop} (C : cx p s m args meth c wsX9_musicOf RX9 cX9_musicOf 4 (some .int) D cA) (hA : ∀ q, s.heap.size ≤ q → A q) (hR : RtI p l e rm_X9_musicOf s m args below meth c Q cX9_musicOf D cA K_M h A (fun _ => True) (fun r σ' => σ' = σ ∧ post r)) : ∀ (n : Nat) {v1 v2 v3 : Int} {H : Heap} {locs : List Loc} {ls : Array Slot}, wp_X9_musicOf_4 post n v1 v2 v3 σ → wd D cA K_M h σ A s.heap H locs → lh ls 4 [some (.ref (h 0)), some (iv v1), some (iv v2), some (iv v3)] → W p l e rm_X9_musicOf s m args below meth c H locs 0 0 Q (F0 m 4 ls []) := by
  intro n; induction n with
  | zero => intros; rename_i hwp _ _; exact hwp.elim
  | succ n ih =>
    intro v1 v2 v3 H locs ls hwp hw hl
    refine r_iload_n C dX9_musicOf_4 hl rfl ?_
    refine r_aload_n C dX9_musicOf_5 hl rfl ?_
    refine r_get C hw clX9 0 rfl 3 3 rfl rfl (Nat.le_of_ble_eq_true rfl) hi_X9_musicOf_X9 hf_X9_musicOf_129 dX9_musicOf_6 ?_
    obtain ⟨ra, rb, hT, hF⟩ := hwp
    refine r_icmp_gt C (tgt := 30) dX9_musicOf_9 rfl ra rb (fun hc => ?_) (fun hc => ?_)
    · have hwp := hT hc
      refine r_iload_n C dX9_musicOf_30 hl rfl ?_
      exact hR _ _ _ _ _ _ dX9_musicOf_31 trivial ⟨rfl, hwp⟩ hw
    · have hwp := hF hc
      refine r_aload_n C dX9_musicOf_12 hl rfl ?_
      refine r_iload_n C dX9_musicOf_13 hl rfl ?_
      refine r_iload_n C dX9_musicOf_14 hl rfl ?_
      refine r_cIr0 hA hw (run_v0 C hw clX9 rfl (c_X9_isMusic hwp) (cwV 2 C.2.2.2.2.1 gX9_musicOf_X9_isMusic rfl rfl rfl hd_X9_isMusic ⟨Nat.le_of_ble_eq_true rfl, Nat.le_of_ble_eq_true rfl⟩) rfl rfl rfl hl dX9_musicOf_15 ⟨Nat.zero_le _, Nat.zero_le _⟩) (fun r H locs hwp hw => ?_)
      obtain ⟨ra, hT, hF⟩ := hwp
      refine r_if_eq C (tgt := 24) dX9_musicOf_18 rfl ra (fun hc => ?_) (fun hc => ?_)
      · have hwp := hT hc
        exact b_X9_musicOf_24 C hA hR ih hwp hw (lh_mask hl [true, true, true, true])
      · have hwp := hF hc
        refine r_iinc C dX9_musicOf_21 hl rfl (Nat.le_of_ble_eq_true rfl) rfl (fun ls hl => ?_)
        exact b_X9_musicOf_24 C hA hR ih hwp hw (lh_mask hl [true, true, true, true])
set_option maxRecDepth 100000 in
theorem b_X9_musicOf_0 {σ : St} {post : Int → Prop} (C : cx p s m args meth c wsX9_musicOf RX9 cX9_musicOf 4 (some .int) D cA) (hA : ∀ q, s.heap.size ≤ q → A q) (hR : RtI p l e rm_X9_musicOf s m args below meth c Q cX9_musicOf D cA K_M h A (fun _ => True) (fun r σ' => σ' = σ ∧ post r)) : ∀ {v1 : Int} {H : Heap} {locs : List Loc} {ls : Array Slot}, wp_X9_musicOf σ v1 post → wd D cA K_M h σ A s.heap H locs → lh ls 4 [some (.ref (h 0)), some (iv v1), none, none] → W p l e rm_X9_musicOf s m args below meth c H locs 0 0 Q (F0 m 0 ls []) := by
  intro v1 H locs ls hwp hw hl
  refine r_const C dX9_musicOf_0 ?_
  refine r_istore_n C dX9_musicOf_1 hl (Nat.le_of_ble_eq_true rfl) (Nat.le_of_ble_eq_true rfl) rfl (fun ls hl => ?_)
  refine r_const C dX9_musicOf_2 ?_
  refine r_istore_n C dX9_musicOf_3 hl (Nat.le_of_ble_eq_true rfl) (Nat.le_of_ble_eq_true rfl) rfl (fun ls hl => ?_)
  obtain ⟨n9, hwp⟩ := hwp
  exact b_X9_musicOf_4 C hA hR n9 hwp hw (lh_mask hl [true, true, true, true])
set_option maxRecDepth 100000 in
theorem c_X9_musicOf {l : Launch} {D : va_G} {cA : FieldType → ClassId} {h : Nat → Nat} {σ : St} {sz : Nat} {v1 : Int} {post : Int → Prop} (hwp : wp_X9_musicOf σ v1 post) : Met l yX9_musicOf wsX9_musicOf rm_X9_musicOf (va_Pc [.ref (h 0), iv v1] (preS D cA K_M h σ sz)) (QI D cA K_M h sz (fun r σ' => σ' = σ ∧ post r)) 0 0 (aA K_M.length h sz) := by
  refine mk_met (cc := cX9_musicOf) (nL := 4) (ret := (some .int)) (own := RX9) 2 (by decide) rfl rfl rfl rfl ?_
  intro p e s m args below meth c ls hsz C hw hl hA
  subst hsz
  exact b_X9_musicOf_0 C hA (rt_i C _) hwp hw hl
-- X9_music
def rm_X9_music : Room := { frames := 3, cells := 0, slots := 0, locals := 71 }
set_option maxRecDepth 100000 in
theorem b_X9_music_0 {post : Int → St → Prop} (C : cx p s m args meth c wsX9_music RX9 cX9_music 2 (some .int) D cA) (hA : ∀ q, s.heap.size ≤ q → A q) (hR : RtI p l e rm_X9_music s m args below meth c Q cX9_music D cA K_M h A (fun _ => True) post) : ∀ {v1 : Int} {σ : St} {H : Heap} {locs : List Loc} {ls : Array Slot}, wp_X9_music σ v1 post → wd D cA K_M h σ A s.heap H locs → lh ls 2 [some (.ref (h 0)), some (iv v1)] → W p l e rm_X9_music s m args below meth c H locs 0 0 Q (F0 m 0 ls []) := by
  intro v1 σ H locs ls hwp hw hl
  refine r_iload_n C dX9_music_0 hl rfl ?_
  refine r_const C dX9_music_1 ?_
  refine r_const C dX9_music_2 ?_
  refine r_cIr hA hw sb_M_0_0_36 (run_s C hw sb_M_0_0_36 (c_X9_within hwp) (va_cwS 3 C.2.2.2.2.1 gX9_music_X9_within rfl rfl rfl hd_X9_within ⟨Nat.le_of_ble_eq_true rfl, Nat.le_of_ble_eq_true rfl⟩) rfl rfl rfl hl dX9_music_3 ⟨Nat.zero_le _, Nat.zero_le _⟩) (fun r H locs hwp hw => ?_)
  obtain ⟨ra, hT, hF⟩ := hwp
  refine r_if_ne C (tgt := 11) dX9_music_6 rfl ra (fun hc => ?_) (fun hc => ?_)
  · have hwp := hT hc
    refine r_aload_n C dX9_music_11 hl rfl ?_
    refine r_cV0 hA hw (run_v0 C hw clX9 rfl (c_X9_rings hwp) (cwV 0 C.2.2.2.2.1 gX9_music_X9_rings rfl rfl rfl hd_X9_rings ⟨Nat.le_of_ble_eq_true rfl, Nat.le_of_ble_eq_true rfl⟩) rfl rfl rfl hl dX9_music_12 ⟨Nat.zero_le _, Nat.zero_le _⟩) (fun σ H locs hwp hw => ?_)
    refine r_aload_n C dX9_music_15 hl rfl ?_
    refine r_iload_n C dX9_music_16 hl rfl ?_
    refine r_cIr0 hA hw (run_v0 C hw clX9 rfl (c_X9_musicOf hwp) (cwV 1 C.2.2.2.2.1 gX9_music_X9_musicOf rfl rfl rfl hd_X9_musicOf ⟨Nat.le_of_ble_eq_true rfl, Nat.le_of_ble_eq_true rfl⟩) rfl rfl rfl hl dX9_music_17 ⟨Nat.zero_le _, Nat.zero_le _⟩) (fun r H locs hwp hw => ?_)
    exact hR _ _ _ _ _ _ dX9_music_20 trivial hwp hw
  · have hwp := hF hc
    refine r_const C dX9_music_9 ?_
    exact hR _ _ _ _ _ _ dX9_music_10 trivial hwp hw
set_option maxRecDepth 100000 in
theorem c_X9_music {l : Launch} {D : va_G} {cA : FieldType → ClassId} {h : Nat → Nat} {σ : St} {sz : Nat} {v1 : Int} {post : Int → St → Prop} (hwp : wp_X9_music σ v1 post) : Met l yX9_music wsX9_music rm_X9_music (va_Pc [.ref (h 0), iv v1] (preS D cA K_M h σ sz)) (QI D cA K_M h sz post) 0 0 (aA K_M.length h sz) := by
  refine mk_met (cc := cX9_music) (nL := 2) (ret := (some .int)) (own := RX9) 0 (by decide) rfl rfl rfl rfl ?_
  intro p e s m args below meth c ls hsz C hw hl hA
  subst hsz
  exact b_X9_music_0 C hA (rt_i C _) hwp hw hl
-- X9_least
theorem hi_X9_least_X9 : ∀ w ∈ u_ws RX9 TX9 20, w ∈ wsX9_least := by decide +kernel
theorem hf_X9_least_9 : Cond.fieldLink RX9 9 (TX9 0).1 (TX9 0).2.1 (TX9 0).2.2.1 ∈ wsX9_least := by decide +kernel
def rm_X9_least : Room := { frames := 3, cells := 0, slots := 0, locals := 71 }
set_option maxRecDepth 100000 in
theorem b_X9_least_223 {post : Int → St → Prop} (C : cx p s m args meth c wsX9_least RX9 cX9_least 16 (some .int) D cA) (hA : ∀ q, s.heap.size ≤ q → A q) (hR : RtI p l e rm_X9_least s m args below meth c Q cX9_least D cA K_M h A (fun _ => True) post) {k117 : Int → Int → Int → Int → Int → Int → Int → Int → Int → Int → Int → Int → St → Prop} (hk117 : ∀ {v1 v2 v3 v4 v5 v6 v7 v8 v9 v10 v11 v12 : Int} {σ : St} {H : Heap} {locs : List Loc} {ls : Array Slot}, k117 v1 v2 v3 v4 v5 v6 v7 v8 v9 v10 v11 v12 σ → wd D cA K_M h σ A s.heap H locs → lh ls 16 [some (.ref (h 0)), some (iv v1), some (iv v2), some (iv v3), some (iv v4), some (iv v5), some (iv v6), some (iv v7), some (iv v8), some (iv v9), some (iv v10), some (iv v11), some (iv v12), none, none, none] → W p l e rm_X9_least s m args below meth c H locs 0 0 Q (F0 m 117 ls [])) : ∀ {v1 v2 v3 v4 v5 v6 v7 v8 v9 v10 v11 v12 : Int} {σ : St} {H : Heap} {locs : List Loc} {ls : Array Slot}, wp_X9_least_223 k117 post v1 v2 v3 v4 v5 v6 v7 v8 v9 v10 v11 v12 σ → wd D cA K_M h σ A s.heap H locs → lh ls 16 [some (.ref (h 0)), some (iv v1), some (iv v2), some (iv v3), some (iv v4), some (iv v5), some (iv v6), some (iv v7), some (iv v8), some (iv v9), some (iv v10), some (iv v11), some (iv v12), none, none, none] → W p l e rm_X9_least s m args below meth c H locs 0 0 Q (F0 m 223 ls []) := by
  intro v1 v2 v3 v4 v5 v6 v7 v8 v9 v10 v11 v12 σ H locs ls hwp hw hl
  refine r_iinc C dX9_least_223 hl rfl (Nat.le_of_ble_eq_true rfl) rfl (fun ls hl => ?_)
  refine r_goto C (tgt := 117) dX9_least_226 rfl ?_
  exact hk117 hwp hw (lh_mask hl [true, true, true, true, true, true, true, true, true, true, true, true, true, false, false, false])
set_option maxRecDepth 100000 in
theorem b_X9_least_201 {post : Int → St → Prop} (C : cx p s m args meth c wsX9_least RX9 cX9_least 16 (some .int) D cA) (hA : ∀ q, s.heap.size ≤ q → A q) (hR : RtI p l e rm_X9_least s m args below meth c Q cX9_least D cA K_M h A (fun _ => True) post) {k117 : Int → Int → Int → Int → Int → Int → Int → Int → Int → Int → Int → Int → St → Prop} (hk117 : ∀ {v1 v2 v3 v4 v5 v6 v7 v8 v9 v10 v11 v12 : Int} {σ : St} {H : Heap} {locs : List Loc} {ls : Array Slot}, k117 v1 v2 v3 v4 v5 v6 v7 v8 v9 v10 v11 v12 σ → wd D cA K_M h σ A s.heap H locs → lh ls 16 [some (.ref (h 0)), some (iv v1), some (iv v2), some (iv v3), some (iv v4), some (iv v5), some (iv v6), some (iv v7), some (iv v8), some (iv v9), some (iv v10), some (iv v11), some (iv v12), none, none, none] → W p l e rm_X9_least s m args below meth c H locs 0 0 Q (F0 m 117 ls [])) : ∀ {v1 v2 v3 v4 v5 v6 v7 v8 v9 v10 v11 v12 v14 : Int} {σ : St} {H : Heap} {locs : List Loc} {ls : Array Slot}, wp_X9_least_201 k117 post v1 v2 v3 v4 v5 v6 v7 v8 v9 v10 v11 v12 v14 σ → wd D cA K_M h σ A s.heap H locs → lh ls 16 [some (.ref (h 0)), some (iv v1), some (iv v2), some (iv v3), some (iv v4), some (iv v5), some (iv v6), some (iv v7), some (iv v8), some (iv v9), some (iv v10), some (iv v11), some (iv v12), none, some (iv v14), none] → W p l e rm_X9_least s m args below meth c H locs 0 0 Q (F0 m 201 ls []) := by
  intro v1 v2 v3 v4 v5 v6 v7 v8 v9 v10 v11 v12 v14 σ H locs ls hwp hw hl
  refine r_aload_n C dX9_least_201 hl rfl ?_
  refine r_cV0 hA hw (run_v0 C hw clX9 rfl (c_X9_rings hwp) (cwV 0 C.2.2.2.2.1 gX9_least_X9_rings rfl rfl rfl hd_X9_rings ⟨Nat.le_of_ble_eq_true rfl, Nat.le_of_ble_eq_true rfl⟩) rfl rfl rfl hl dX9_least_202 ⟨Nat.zero_le _, Nat.zero_le _⟩) (fun σ H locs hwp hw => ?_)
  refine r_aload_n C dX9_least_205 hl rfl ?_
  refine r_cIr0 hA hw (run_v0 C hw clX9 rfl (c_X9_isTrue hwp) (cwV 0 C.2.2.2.2.1 gX9_least_X9_isTrue rfl rfl rfl hd_X9_isTrue ⟨Nat.le_of_ble_eq_true rfl, Nat.le_of_ble_eq_true rfl⟩) rfl rfl rfl hl dX9_least_206 ⟨Nat.zero_le _, Nat.zero_le _⟩) (fun r H locs hwp hw => ?_)
  obtain ⟨ra, hT, hF⟩ := hwp
  refine r_if_ne C (tgt := 215) dX9_least_209 rfl ra (fun hc => ?_) (fun hc => ?_)
  · have hwp := hT hc
    refine r_iload C dX9_least_215 hl rfl ?_
    refine r_istore C dX9_least_217 hl (Nat.le_of_ble_eq_true rfl) (Nat.le_of_ble_eq_true rfl) rfl (fun ls hl => ?_)
    refine r_iload C dX9_least_219 hl rfl ?_
    refine r_istore C dX9_least_221 hl (Nat.le_of_ble_eq_true rfl) (Nat.le_of_ble_eq_true rfl) rfl (fun ls hl => ?_)
    exact b_X9_least_223 C hA hR hk117 hwp hw (lh_mask hl [true, true, true, true, true, true, true, true, true, true, true, true, true, false, false, false])
  · have hwp := hF hc
    refine r_goto C (tgt := 223) dX9_least_212 rfl ?_
    exact b_X9_least_223 C hA hR hk117 hwp hw (lh_mask hl [true, true, true, true, true, true, true, true, true, true, true, true, true, false, false, false])
set_option maxRecDepth 100000 in
theorem b_X9_least_169 {post : Int → St → Prop} (C : cx p s m args meth c wsX9_least RX9 cX9_least 16 (some .int) D cA) (hA : ∀ q, s.heap.size ≤ q → A q) (hR : RtI p l e rm_X9_least s m args below meth c Q cX9_least D cA K_M h A (fun _ => True) post) {k117 : Int → Int → Int → Int → Int → Int → Int → Int → Int → Int → Int → Int → St → Prop} (hk117 : ∀ {v1 v2 v3 v4 v5 v6 v7 v8 v9 v10 v11 v12 : Int} {σ : St} {H : Heap} {locs : List Loc} {ls : Array Slot}, k117 v1 v2 v3 v4 v5 v6 v7 v8 v9 v10 v11 v12 σ → wd D cA K_M h σ A s.heap H locs → lh ls 16 [some (.ref (h 0)), some (iv v1), some (iv v2), some (iv v3), some (iv v4), some (iv v5), some (iv v6), some (iv v7), some (iv v8), some (iv v9), some (iv v10), some (iv v11), some (iv v12), none, none, none] → W p l e rm_X9_least s m args below meth c H locs 0 0 Q (F0 m 117 ls [])) {k136 : Int → Int → Int → Int → Int → Int → Int → Int → Int → Int → Int → Int → Int → Int → Int → St → Prop} (hk136 : ∀ {v1 v2 v3 v4 v5 v6 v7 v8 v9 v10 v11 v12 v13 v14 v15 : Int} {σ : St} {H : Heap} {locs : List Loc} {ls : Array Slot}, k136 v1 v2 v3 v4 v5 v6 v7 v8 v9 v10 v11 v12 v13 v14 v15 σ → wd D cA K_M h σ A s.heap H locs → lh ls 16 [some (.ref (h 0)), some (iv v1), some (iv v2), some (iv v3), some (iv v4), some (iv v5), some (iv v6), some (iv v7), some (iv v8), some (iv v9), some (iv v10), some (iv v11), some (iv v12), some (iv v13), some (iv v14), some (iv v15)] → W p l e rm_X9_least s m args below meth c H locs 0 0 Q (F0 m 136 ls [])) : ∀ {v1 v2 v3 v4 v5 v6 v7 v8 v9 v10 v11 v12 v13 v15 s0 s1 : Int} {σ : St} {H : Heap} {locs : List Loc} {ls : Array Slot}, wp_X9_least_169 k117 k136 post v1 v2 v3 v4 v5 v6 v7 v8 v9 v10 v11 v12 v13 v15 s0 s1 σ → wd D cA K_M h σ A s.heap H locs → lh ls 16 [some (.ref (h 0)), some (iv v1), some (iv v2), some (iv v3), some (iv v4), some (iv v5), some (iv v6), some (iv v7), some (iv v8), some (iv v9), some (iv v10), some (iv v11), some (iv v12), some (iv v13), none, some (iv v15)] → W p l e rm_X9_least s m args below meth c H locs 0 0 Q (F0 m 169 ls [iv s1, iv s0]) := by
  intro v1 v2 v3 v4 v5 v6 v7 v8 v9 v10 v11 v12 v13 v15 s0 s1 σ H locs ls hwp hw hl
  refine r_iadd C dX9_least_169 ?_
  refine r_istore C dX9_least_170 hl (Nat.le_of_ble_eq_true rfl) (Nat.le_of_ble_eq_true rfl) rfl (fun ls hl => ?_)
  refine r_iload C dX9_least_172 hl rfl ?_
  refine r_const C dX9_least_174 ?_
  obtain ⟨ra, hwp⟩ := hwp
  refine r_idiv C dX9_least_175 ra (by decide) (by decide) ?_
  refine r_istore C dX9_least_176 hl (Nat.le_of_ble_eq_true rfl) (Nat.le_of_ble_eq_true rfl) rfl (fun ls hl => ?_)
  refine r_iinc C dX9_least_178 hl rfl (Nat.le_of_ble_eq_true rfl) rfl (fun ls hl => ?_)
  refine r_goto C (tgt := 136) dX9_least_181 rfl ?_
  exact hk136 hwp hw (lh_mask hl [true, true, true, true, true, true, true, true, true, true, true, true, true, true, true, true])
set_option maxRecDepth 100000 in
theorem b_X9_least_136 {post : Int → St → Prop} (C : cx p s m args meth c wsX9_least RX9 cX9_least 16 (some .int) D cA) (hA : ∀ q, s.heap.size ≤ q → A q) (hR : RtI p l e rm_X9_least s m args below meth c Q cX9_least D cA K_M h A (fun _ => True) post) {k117 : Int → Int → Int → Int → Int → Int → Int → Int → Int → Int → Int → Int → St → Prop} (hk117 : ∀ {v1 v2 v3 v4 v5 v6 v7 v8 v9 v10 v11 v12 : Int} {σ : St} {H : Heap} {locs : List Loc} {ls : Array Slot}, k117 v1 v2 v3 v4 v5 v6 v7 v8 v9 v10 v11 v12 σ → wd D cA K_M h σ A s.heap H locs → lh ls 16 [some (.ref (h 0)), some (iv v1), some (iv v2), some (iv v3), some (iv v4), some (iv v5), some (iv v6), some (iv v7), some (iv v8), some (iv v9), some (iv v10), some (iv v11), some (iv v12), none, none, none] → W p l e rm_X9_least s m args below meth c H locs 0 0 Q (F0 m 117 ls [])) : ∀ (n : Nat) {v1 v2 v3 v4 v5 v6 v7 v8 v9 v10 v11 v12 v13 v14 v15 : Int} {σ : St} {H : Heap} {locs : List Loc} {ls : Array Slot}, wp_X9_least_136 k117 post n v1 v2 v3 v4 v5 v6 v7 v8 v9 v10 v11 v12 v13 v14 v15 σ → wd D cA K_M h σ A s.heap H locs → lh ls 16 [some (.ref (h 0)), some (iv v1), some (iv v2), some (iv v3), some (iv v4), some (iv v5), some (iv v6), some (iv v7), some (iv v8), some (iv v9), some (iv v10), some (iv v11), some (iv v12), some (iv v13), some (iv v14), some (iv v15)] → W p l e rm_X9_least s m args below meth c H locs 0 0 Q (F0 m 136 ls []) := by
  intro n; induction n with
  | zero => intros; rename_i hwp _ _; exact hwp.elim
  | succ n ih =>
    intro v1 v2 v3 v4 v5 v6 v7 v8 v9 v10 v11 v12 v13 v14 v15 σ H locs ls hwp hw hl
    refine r_iload C dX9_least_136 hl rfl ?_
    obtain ⟨ra, hT, hF⟩ := hwp
    refine r_if_lt C (tgt := 184) dX9_least_138 rfl ra (fun hc => ?_) (fun hc => ?_)
    · have hwp := hT hc
      refine r_iload C dX9_least_184 hl rfl ?_
      refine r_bipush C dX9_least_186 bpb_m5 ?_
      obtain ⟨ra, hT, hF⟩ := hwp
      refine r_icmp_eq C (tgt := 201) dX9_least_188 rfl ra (by decide) (fun hc => ?_) (fun hc => ?_)
      · have hwp := hT hc
        exact b_X9_least_201 C hA hR hk117 hwp hw (lh_mask hl [true, true, true, true, true, true, true, true, true, true, true, true, true, false, true, false])
      · have hwp := hF hc
        refine r_iload C dX9_least_191 hl rfl ?_
        refine r_iload C dX9_least_193 hl rfl ?_
        obtain ⟨ra, rb, hT, hF⟩ := hwp
        refine r_icmp_lt C (tgt := 201) dX9_least_195 rfl ra rb (fun hc => ?_) (fun hc => ?_)
        · have hwp := hT hc
          exact b_X9_least_201 C hA hR hk117 hwp hw (lh_mask hl [true, true, true, true, true, true, true, true, true, true, true, true, true, false, true, false])
        · have hwp := hF hc
          refine r_goto C (tgt := 223) dX9_least_198 rfl ?_
          exact b_X9_least_223 C hA hR hk117 hwp hw (lh_mask hl [true, true, true, true, true, true, true, true, true, true, true, true, true, false, false, false])
    · have hwp := hF hc
      refine r_aload_n C dX9_least_141 hl rfl ?_
      refine r_getr C hw clX9 0 rfl 0 1 rfl (Nat.le_of_ble_eq_true rfl) hi_X9_least_X9 hf_X9_least_9 dX9_least_142 ?_
      refine r_bipush C dX9_least_145 bpb_24 ?_
      refine r_iload C dX9_least_147 hl rfl ?_
      refine r_iadd C dX9_least_149 ?_
      refine r_iload C dX9_least_150 hl rfl ?_
      refine r_const C dX9_least_152 ?_
      obtain ⟨ra, hwp⟩ := hwp
      refine r_irem C dX9_least_153 ra (by decide) (by decide) ?_
      obtain ⟨h0, h1, hwp⟩ := hwp
      refine r_iast C hw 1 rfl rfl h0 h1 dX9_least_154 (fun H locs hw => ?_)
      have hwp := hwp _ rfl
      refine r_iload C dX9_least_155 hl rfl ?_
      refine r_iload C dX9_least_157 hl rfl ?_
      refine r_const C dX9_least_159 ?_
      obtain ⟨ra, hwp⟩ := hwp
      refine r_irem C dX9_least_160 ra (by decide) (by decide) ?_
      obtain ⟨ra, hT, hF⟩ := hwp
      refine r_if_ne C (tgt := 168) dX9_least_161 rfl ra (fun hc => ?_) (fun hc => ?_)
      · have hwp := hT hc
        refine r_const C dX9_least_168 ?_
        exact b_X9_least_169 C hA hR hk117 ih hwp hw (lh_mask hl [true, true, true, true, true, true, true, true, true, true, true, true, true, true, false, true])
      · have hwp := hF hc
        refine r_const C dX9_least_164 ?_
        refine r_goto C (tgt := 169) dX9_least_165 rfl ?_
        exact b_X9_least_169 C hA hR hk117 ih hwp hw (lh_mask hl [true, true, true, true, true, true, true, true, true, true, true, true, true, true, false, true])
set_option maxRecDepth 100000 in
theorem b_X9_least_117 {post : Int → St → Prop} (C : cx p s m args meth c wsX9_least RX9 cX9_least 16 (some .int) D cA) (hA : ∀ q, s.heap.size ≤ q → A q) (hR : RtI p l e rm_X9_least s m args below meth c Q cX9_least D cA K_M h A (fun _ => True) post) : ∀ (n : Nat) {v1 v2 v3 v4 v5 v6 v7 v8 v9 v10 v11 v12 : Int} {σ : St} {H : Heap} {locs : List Loc} {ls : Array Slot}, wp_X9_least_117 post n v1 v2 v3 v4 v5 v6 v7 v8 v9 v10 v11 v12 σ → wd D cA K_M h σ A s.heap H locs → lh ls 16 [some (.ref (h 0)), some (iv v1), some (iv v2), some (iv v3), some (iv v4), some (iv v5), some (iv v6), some (iv v7), some (iv v8), some (iv v9), some (iv v10), some (iv v11), some (iv v12), none, none, none] → W p l e rm_X9_least s m args below meth c H locs 0 0 Q (F0 m 117 ls []) := by
  intro n; induction n with
  | zero => intros; rename_i hwp _ _; exact hwp.elim
  | succ n ih =>
    intro v1 v2 v3 v4 v5 v6 v7 v8 v9 v10 v11 v12 σ H locs ls hwp hw hl
    refine r_iload C dX9_least_117 hl rfl ?_
    refine r_iload C dX9_least_119 hl rfl ?_
    obtain ⟨ra, rb, hT, hF⟩ := hwp
    refine r_icmp_ge C (tgt := 229) dX9_least_121 rfl ra rb (fun hc => ?_) (fun hc => ?_)
    · have hwp := hT hc
      refine r_aload_n C dX9_least_229 hl rfl ?_
      refine r_getr C hw clX9 0 rfl 0 1 rfl (Nat.le_of_ble_eq_true rfl) hi_X9_least_X9 hf_X9_least_9 dX9_least_230 ?_
      refine r_const C dX9_least_233 ?_
      refine r_iload_n C dX9_least_234 hl rfl ?_
      refine r_iast C hw 1 rfl rfl (by decide) (by decide) dX9_least_235 (fun H locs hw => ?_)
      have hwp := hwp _ rfl
      refine r_aload_n C dX9_least_236 hl rfl ?_
      refine r_getr C hw clX9 0 rfl 0 1 rfl (Nat.le_of_ble_eq_true rfl) hi_X9_least_X9 hf_X9_least_9 dX9_least_237 ?_
      refine r_bipush C dX9_least_240 bpb_24 ?_
      refine r_iload C dX9_least_242 hl rfl ?_
      refine r_iast C hw 1 rfl rfl (by decide) (by decide) dX9_least_244 (fun H locs hw => ?_)
      have hwp := hwp _ rfl
      refine r_aload_n C dX9_least_245 hl rfl ?_
      refine r_getr C hw clX9 0 rfl 0 1 rfl (Nat.le_of_ble_eq_true rfl) hi_X9_least_X9 hf_X9_least_9 dX9_least_246 ?_
      refine r_bipush C dX9_least_249 bpb_25 ?_
      refine r_iload C dX9_least_251 hl rfl ?_
      refine r_iast C hw 1 rfl rfl (by decide) (by decide) dX9_least_253 (fun H locs hw => ?_)
      have hwp := hwp _ rfl
      refine r_aload_n C dX9_least_254 hl rfl ?_
      refine r_getr C hw clX9 0 rfl 0 1 rfl (Nat.le_of_ble_eq_true rfl) hi_X9_least_X9 hf_X9_least_9 dX9_least_255 ?_
      refine r_bipush C dX9_least_258 bpb_26 ?_
      refine r_iload C dX9_least_260 hl rfl ?_
      refine r_iast C hw 1 rfl rfl (by decide) (by decide) dX9_least_262 (fun H locs hw => ?_)
      have hwp := hwp _ rfl
      refine r_aload_n C dX9_least_263 hl rfl ?_
      refine r_getr C hw clX9 0 rfl 0 1 rfl (Nat.le_of_ble_eq_true rfl) hi_X9_least_X9 hf_X9_least_9 dX9_least_264 ?_
      refine r_bipush C dX9_least_267 bpb_27 ?_
      refine r_iload C dX9_least_269 hl rfl ?_
      refine r_iast C hw 1 rfl rfl (by decide) (by decide) dX9_least_271 (fun H locs hw => ?_)
      have hwp := hwp _ rfl
      refine r_aload_n C dX9_least_272 hl rfl ?_
      refine r_getr C hw clX9 0 rfl 0 1 rfl (Nat.le_of_ble_eq_true rfl) hi_X9_least_X9 hf_X9_least_9 dX9_least_273 ?_
      refine r_bipush C dX9_least_276 bpb_28 ?_
      refine r_iload C dX9_least_278 hl rfl ?_
      refine r_iast C hw 1 rfl rfl (by decide) (by decide) dX9_least_280 (fun H locs hw => ?_)
      have hwp := hwp _ rfl
      refine r_iload_n C dX9_least_281 hl rfl ?_
      obtain ⟨ra, hT, hF⟩ := hwp
      refine r_if_ne C (tgt := 290) dX9_least_282 rfl ra (fun hc => ?_) (fun hc => ?_)
      · have hwp := hT hc
        refine r_iload C dX9_least_290 hl rfl ?_
        exact hR _ _ _ _ _ _ dX9_least_292 trivial hwp hw
      · have hwp := hF hc
        refine r_iload C dX9_least_285 hl rfl ?_
        refine r_goto C (tgt := 292) dX9_least_287 rfl ?_
        exact hR _ _ _ _ _ _ dX9_least_292 trivial hwp hw
    · have hwp := hF hc
      refine r_iload C dX9_least_124 hl rfl ?_
      refine r_istore C dX9_least_126 hl (Nat.le_of_ble_eq_true rfl) (Nat.le_of_ble_eq_true rfl) rfl (fun ls hl => ?_)
      refine r_const C dX9_least_128 ?_
      refine r_istore C dX9_least_129 hl (Nat.le_of_ble_eq_true rfl) (Nat.le_of_ble_eq_true rfl) rfl (fun ls hl => ?_)
      refine r_iload_n C dX9_least_131 hl rfl ?_
      refine r_const C dX9_least_132 ?_
      refine r_isub C dX9_least_133 ?_
      refine r_istore C dX9_least_134 hl (Nat.le_of_ble_eq_true rfl) (Nat.le_of_ble_eq_true rfl) rfl (fun ls hl => ?_)
      obtain ⟨n9, hwp⟩ := hwp
      exact b_X9_least_136 C hA hR ih n9 hwp hw (lh_mask hl [true, true, true, true, true, true, true, true, true, true, true, true, true, true, true, true])
set_option maxRecDepth 100000 in
theorem b_X9_least_88 {post : Int → St → Prop} (C : cx p s m args meth c wsX9_least RX9 cX9_least 16 (some .int) D cA) (hA : ∀ q, s.heap.size ≤ q → A q) (hR : RtI p l e rm_X9_least s m args below meth c Q cX9_least D cA K_M h A (fun _ => True) post) : ∀ (n : Nat) {v1 v2 v3 v4 v5 v6 v7 v8 v9 v10 : Int} {σ : St} {H : Heap} {locs : List Loc} {ls : Array Slot}, wp_X9_least_88 post n v1 v2 v3 v4 v5 v6 v7 v8 v9 v10 σ → wd D cA K_M h σ A s.heap H locs → lh ls 16 [some (.ref (h 0)), some (iv v1), some (iv v2), some (iv v3), some (iv v4), some (iv v5), some (iv v6), some (iv v7), some (iv v8), some (iv v9), some (iv v10), none, none, none, none, none] → W p l e rm_X9_least s m args below meth c H locs 0 0 Q (F0 m 88 ls []) := by
  intro n; induction n with
  | zero => intros; rename_i hwp _ _; exact hwp.elim
  | succ n ih =>
    intro v1 v2 v3 v4 v5 v6 v7 v8 v9 v10 σ H locs ls hwp hw hl
    refine r_iload C dX9_least_88 hl rfl ?_
    refine r_iload_n C dX9_least_90 hl rfl ?_
    obtain ⟨ra, rb, hT, hF⟩ := hwp
    refine r_icmp_ge C (tgt := 106) dX9_least_91 rfl ra rb (fun hc => ?_) (fun hc => ?_)
    · have hwp := hT hc
      refine r_bipush C dX9_least_106 bpb_m5 ?_
      refine r_istore C dX9_least_108 hl (Nat.le_of_ble_eq_true rfl) (Nat.le_of_ble_eq_true rfl) rfl (fun ls hl => ?_)
      refine r_bipush C dX9_least_110 bpb_m5 ?_
      refine r_istore C dX9_least_112 hl (Nat.le_of_ble_eq_true rfl) (Nat.le_of_ble_eq_true rfl) rfl (fun ls hl => ?_)
      refine r_const C dX9_least_114 ?_
      refine r_istore C dX9_least_115 hl (Nat.le_of_ble_eq_true rfl) (Nat.le_of_ble_eq_true rfl) rfl (fun ls hl => ?_)
      obtain ⟨n9, hwp⟩ := hwp
      exact b_X9_least_117 C hA hR n9 hwp hw (lh_mask hl [true, true, true, true, true, true, true, true, true, true, true, true, true, false, false, false])
    · have hwp := hF hc
      refine r_iload C dX9_least_94 hl rfl ?_
      refine r_const C dX9_least_96 ?_
      refine r_imul C dX9_least_97 ?_
      refine r_istore C dX9_least_98 hl (Nat.le_of_ble_eq_true rfl) (Nat.le_of_ble_eq_true rfl) rfl (fun ls hl => ?_)
      refine r_iinc C dX9_least_100 hl rfl (Nat.le_of_ble_eq_true rfl) rfl (fun ls hl => ?_)
      refine r_goto C (tgt := 88) dX9_least_103 rfl ?_
      exact ih hwp hw (lh_mask hl [true, true, true, true, true, true, true, true, true, true, true, false, false, false, false, false])
set_option maxRecDepth 100000 in
theorem b_X9_least_0 {post : Int → St → Prop} (C : cx p s m args meth c wsX9_least RX9 cX9_least 16 (some .int) D cA) (hA : ∀ q, s.heap.size ≤ q → A q) (hR : RtI p l e rm_X9_least s m args below meth c Q cX9_least D cA K_M h A (fun _ => True) post) : ∀ {v1 v2 : Int} {σ : St} {H : Heap} {locs : List Loc} {ls : Array Slot}, wp_X9_least σ v1 v2 post → wd D cA K_M h σ A s.heap H locs → lh ls 16 [some (.ref (h 0)), some (iv v1), some (iv v2), none, none, none, none, none, none, none, none, none, none, none, none, none] → W p l e rm_X9_least s m args below meth c H locs 0 0 Q (F0 m 0 ls []) := by
  intro v1 v2 σ H locs ls hwp hw hl
  refine r_iload_n C dX9_least_0 hl rfl ?_
  refine r_const C dX9_least_1 ?_
  refine r_const C dX9_least_2 ?_
  refine r_cIr hA hw sb_M_0_0_36 (run_s C hw sb_M_0_0_36 (c_X9_within hwp) (va_cwS 3 C.2.2.2.2.1 gX9_least_X9_within rfl rfl rfl hd_X9_within ⟨Nat.le_of_ble_eq_true rfl, Nat.le_of_ble_eq_true rfl⟩) rfl rfl rfl hl dX9_least_3 ⟨Nat.zero_le _, Nat.zero_le _⟩) (fun r H locs hwp hw => ?_)
  obtain ⟨ra, hT, hF⟩ := hwp
  refine r_if_ne C (tgt := 12) dX9_least_6 rfl ra (fun hc => ?_) (fun hc => ?_)
  · have hwp := hT hc
    refine r_iload_n C dX9_least_12 hl rfl ?_
    refine r_const C dX9_least_13 ?_
    refine r_const C dX9_least_14 ?_
    refine r_cIr hA hw sb_M_0_0_36 (run_s C hw sb_M_0_0_36 (c_X9_within hwp) (va_cwS 3 C.2.2.2.2.1 gX9_least_X9_within rfl rfl rfl hd_X9_within ⟨Nat.le_of_ble_eq_true rfl, Nat.le_of_ble_eq_true rfl⟩) rfl rfl rfl hl dX9_least_15 ⟨Nat.zero_le _, Nat.zero_le _⟩) (fun r H locs hwp hw => ?_)
    obtain ⟨ra, hT, hF⟩ := hwp
    refine r_if_ne C (tgt := 23) dX9_least_18 rfl ra (fun hc => ?_) (fun hc => ?_)
    · have hwp := hT hc
      refine r_aload_n C dX9_least_23 hl rfl ?_
      refine r_getr C hw clX9 0 rfl 0 1 rfl (Nat.le_of_ble_eq_true rfl) hi_X9_least_X9 hf_X9_least_9 dX9_least_24 ?_
      refine r_const C dX9_least_27 ?_
      refine r_iald C hw 1 rfl rfl (by decide) (by decide) dX9_least_28 ?_
      refine r_istore_n C dX9_least_29 hl (Nat.le_of_ble_eq_true rfl) (Nat.le_of_ble_eq_true rfl) rfl (fun ls hl => ?_)
      refine r_aload_n C dX9_least_30 hl rfl ?_
      refine r_getr C hw clX9 0 rfl 0 1 rfl (Nat.le_of_ble_eq_true rfl) hi_X9_least_X9 hf_X9_least_9 dX9_least_31 ?_
      refine r_bipush C dX9_least_34 bpb_24 ?_
      refine r_iald C hw 1 rfl rfl (by decide) (by decide) dX9_least_36 ?_
      refine r_istore C dX9_least_37 hl (Nat.le_of_ble_eq_true rfl) (Nat.le_of_ble_eq_true rfl) rfl (fun ls hl => ?_)
      refine r_aload_n C dX9_least_39 hl rfl ?_
      refine r_getr C hw clX9 0 rfl 0 1 rfl (Nat.le_of_ble_eq_true rfl) hi_X9_least_X9 hf_X9_least_9 dX9_least_40 ?_
      refine r_bipush C dX9_least_43 bpb_25 ?_
      refine r_iald C hw 1 rfl rfl (by decide) (by decide) dX9_least_45 ?_
      refine r_istore C dX9_least_46 hl (Nat.le_of_ble_eq_true rfl) (Nat.le_of_ble_eq_true rfl) rfl (fun ls hl => ?_)
      refine r_aload_n C dX9_least_48 hl rfl ?_
      refine r_getr C hw clX9 0 rfl 0 1 rfl (Nat.le_of_ble_eq_true rfl) hi_X9_least_X9 hf_X9_least_9 dX9_least_49 ?_
      refine r_bipush C dX9_least_52 bpb_26 ?_
      refine r_iald C hw 1 rfl rfl (by decide) (by decide) dX9_least_54 ?_
      refine r_istore C dX9_least_55 hl (Nat.le_of_ble_eq_true rfl) (Nat.le_of_ble_eq_true rfl) rfl (fun ls hl => ?_)
      refine r_aload_n C dX9_least_57 hl rfl ?_
      refine r_getr C hw clX9 0 rfl 0 1 rfl (Nat.le_of_ble_eq_true rfl) hi_X9_least_X9 hf_X9_least_9 dX9_least_58 ?_
      refine r_bipush C dX9_least_61 bpb_27 ?_
      refine r_iald C hw 1 rfl rfl (by decide) (by decide) dX9_least_63 ?_
      refine r_istore C dX9_least_64 hl (Nat.le_of_ble_eq_true rfl) (Nat.le_of_ble_eq_true rfl) rfl (fun ls hl => ?_)
      refine r_aload_n C dX9_least_66 hl rfl ?_
      refine r_getr C hw clX9 0 rfl 0 1 rfl (Nat.le_of_ble_eq_true rfl) hi_X9_least_X9 hf_X9_least_9 dX9_least_67 ?_
      refine r_bipush C dX9_least_70 bpb_28 ?_
      refine r_iald C hw 1 rfl rfl (by decide) (by decide) dX9_least_72 ?_
      refine r_istore C dX9_least_73 hl (Nat.le_of_ble_eq_true rfl) (Nat.le_of_ble_eq_true rfl) rfl (fun ls hl => ?_)
      refine r_aload_n C dX9_least_75 hl rfl ?_
      refine r_getr C hw clX9 0 rfl 0 1 rfl (Nat.le_of_ble_eq_true rfl) hi_X9_least_X9 hf_X9_least_9 dX9_least_76 ?_
      refine r_const C dX9_least_79 ?_
      refine r_iload_n C dX9_least_80 hl rfl ?_
      refine r_iast C hw 1 rfl rfl (by decide) (by decide) dX9_least_81 (fun H locs hw => ?_)
      have hwp := hwp _ rfl
      refine r_const C dX9_least_82 ?_
      refine r_istore C dX9_least_83 hl (Nat.le_of_ble_eq_true rfl) (Nat.le_of_ble_eq_true rfl) rfl (fun ls hl => ?_)
      refine r_const C dX9_least_85 ?_
      refine r_istore C dX9_least_86 hl (Nat.le_of_ble_eq_true rfl) (Nat.le_of_ble_eq_true rfl) rfl (fun ls hl => ?_)
      obtain ⟨n9, hwp⟩ := hwp
      exact b_X9_least_88 C hA hR n9 hwp hw (lh_mask hl [true, true, true, true, true, true, true, true, true, true, true, false, false, false, false, false])
    · have hwp := hF hc
      refine r_const C dX9_least_21 ?_
      exact hR _ _ _ _ _ _ dX9_least_22 trivial hwp hw
  · have hwp := hF hc
    refine r_bipush C dX9_least_9 bpb_m2 ?_
    exact hR _ _ _ _ _ _ dX9_least_11 trivial hwp hw
set_option maxRecDepth 100000 in
theorem c_X9_least {l : Launch} {D : va_G} {cA : FieldType → ClassId} {h : Nat → Nat} {σ : St} {sz : Nat} {v1 v2 : Int} {post : Int → St → Prop} (hwp : wp_X9_least σ v1 v2 post) : Met l yX9_least wsX9_least rm_X9_least (va_Pc [.ref (h 0), iv v1, iv v2] (preS D cA K_M h σ sz)) (QI D cA K_M h sz post) 0 0 (aA K_M.length h sz) := by
  refine mk_met (cc := cX9_least) (nL := 16) (ret := (some .int)) (own := RX9) 13 (by decide) rfl rfl rfl rfl ?_
  intro p e s m args below meth c ls hsz C hw hl hA
  subst hsz
  exact b_X9_least_0 C hA (rt_i C _) hwp hw hl
-- X9_still
theorem hi_X9_still_X9 : ∀ w ∈ u_ws RX9 TX9 20, w ∈ wsX9_still := by decide +kernel
theorem hf_X9_still_129 : Cond.fieldLink RX9 129 (TX9 3).1 (TX9 3).2.1 (TX9 3).2.2.1 ∈ wsX9_still := by decide +kernel
def rm_X9_still : Room := { frames := 3, cells := 0, slots := 0, locals := 71 }
set_option maxRecDepth 100000 in
theorem b_X9_still_46 {post : Int → St → Prop} (C : cx p s m args meth c wsX9_still RX9 cX9_still 4 (some .int) D cA) (hA : ∀ q, s.heap.size ≤ q → A q) (hR : RtI p l e rm_X9_still s m args below meth c Q cX9_still D cA K_M h A (fun _ => True) post) {k18 : Int → Int → Int → St → Prop} (hk18 : ∀ {v1 v2 v3 : Int} {σ : St} {H : Heap} {locs : List Loc} {ls : Array Slot}, k18 v1 v2 v3 σ → wd D cA K_M h σ A s.heap H locs → lh ls 4 [some (.ref (h 0)), some (iv v1), some (iv v2), some (iv v3)] → W p l e rm_X9_still s m args below meth c H locs 0 0 Q (F0 m 18 ls [])) : ∀ {v1 v2 v3 : Int} {σ : St} {H : Heap} {locs : List Loc} {ls : Array Slot}, wp_X9_still_46 k18 post v1 v2 v3 σ → wd D cA K_M h σ A s.heap H locs → lh ls 4 [some (.ref (h 0)), some (iv v1), some (iv v2), some (iv v3)] → W p l e rm_X9_still s m args below meth c H locs 0 0 Q (F0 m 46 ls []) := by
  intro v1 v2 v3 σ H locs ls hwp hw hl
  refine r_iinc C dX9_still_46 hl rfl (Nat.le_of_ble_eq_true rfl) rfl (fun ls hl => ?_)
  refine r_goto C (tgt := 18) dX9_still_49 rfl ?_
  exact hk18 hwp hw (lh_mask hl [true, true, true, true])
set_option maxRecDepth 100000 in
theorem b_X9_still_18 {post : Int → St → Prop} (C : cx p s m args meth c wsX9_still RX9 cX9_still 4 (some .int) D cA) (hA : ∀ q, s.heap.size ≤ q → A q) (hR : RtI p l e rm_X9_still s m args below meth c Q cX9_still D cA K_M h A (fun _ => True) post) : ∀ (n : Nat) {v1 v2 v3 : Int} {σ : St} {H : Heap} {locs : List Loc} {ls : Array Slot}, wp_X9_still_18 post n v1 v2 v3 σ → wd D cA K_M h σ A s.heap H locs → lh ls 4 [some (.ref (h 0)), some (iv v1), some (iv v2), some (iv v3)] → W p l e rm_X9_still s m args below meth c H locs 0 0 Q (F0 m 18 ls []) := by
  intro n; induction n with
  | zero => intros; rename_i hwp _ _; exact hwp.elim
  | succ n ih =>
    intro v1 v2 v3 σ H locs ls hwp hw hl
    refine r_iload_n C dX9_still_18 hl rfl ?_
    refine r_aload_n C dX9_still_19 hl rfl ?_
    refine r_get C hw clX9 0 rfl 3 3 rfl rfl (Nat.le_of_ble_eq_true rfl) hi_X9_still_X9 hf_X9_still_129 dX9_still_20 ?_
    obtain ⟨ra, rb, hT, hF⟩ := hwp
    refine r_icmp_gt C (tgt := 52) dX9_still_23 rfl ra rb (fun hc => ?_) (fun hc => ?_)
    · have hwp := hT hc
      refine r_iload_n C dX9_still_52 hl rfl ?_
      exact hR _ _ _ _ _ _ dX9_still_53 trivial hwp hw
    · have hwp := hF hc
      refine r_aload_n C dX9_still_26 hl rfl ?_
      refine r_iload_n C dX9_still_27 hl rfl ?_
      refine r_iload_n C dX9_still_28 hl rfl ?_
      refine r_cIr0 hA hw (run_v0 C hw clX9 rfl (c_X9_place hwp) (cwV 2 C.2.2.2.2.1 gX9_still_X9_place rfl rfl rfl hd_X9_place ⟨Nat.le_of_ble_eq_true rfl, Nat.le_of_ble_eq_true rfl⟩) rfl rfl rfl hl dX9_still_29 ⟨Nat.zero_le _, Nat.zero_le _⟩) (fun r H locs hwp hw => ?_)
      refine r_aload_n C dX9_still_32 hl rfl ?_
      refine r_iload_n C dX9_still_33 hl rfl ?_
      refine r_const C dX9_still_34 ?_
      refine r_isub C dX9_still_35 ?_
      refine r_iload_n C dX9_still_36 hl rfl ?_
      refine r_cIr0 hA hw (run_v0 C hw clX9 rfl (c_X9_place hwp) (cwV 2 C.2.2.2.2.1 gX9_still_X9_place rfl rfl rfl hd_X9_place ⟨Nat.le_of_ble_eq_true rfl, Nat.le_of_ble_eq_true rfl⟩) rfl rfl rfl hl dX9_still_37 ⟨Nat.zero_le _, Nat.zero_le _⟩) (fun r H locs hwp hw => ?_)
      obtain ⟨ra, rb, hT, hF⟩ := hwp
      refine r_icmp_ne C (tgt := 46) dX9_still_40 rfl ra rb (fun hc => ?_) (fun hc => ?_)
      · have hwp := hT hc
        exact b_X9_still_46 C hA hR ih hwp hw (lh_mask hl [true, true, true, true])
      · have hwp := hF hc
        refine r_iinc C dX9_still_43 hl rfl (Nat.le_of_ble_eq_true rfl) rfl (fun ls hl => ?_)
        exact b_X9_still_46 C hA hR ih hwp hw (lh_mask hl [true, true, true, true])
set_option maxRecDepth 100000 in
theorem b_X9_still_0 {post : Int → St → Prop} (C : cx p s m args meth c wsX9_still RX9 cX9_still 4 (some .int) D cA) (hA : ∀ q, s.heap.size ≤ q → A q) (hR : RtI p l e rm_X9_still s m args below meth c Q cX9_still D cA K_M h A (fun _ => True) post) : ∀ {v1 : Int} {σ : St} {H : Heap} {locs : List Loc} {ls : Array Slot}, wp_X9_still σ v1 post → wd D cA K_M h σ A s.heap H locs → lh ls 4 [some (.ref (h 0)), some (iv v1), none, none] → W p l e rm_X9_still s m args below meth c H locs 0 0 Q (F0 m 0 ls []) := by
  intro v1 σ H locs ls hwp hw hl
  refine r_aload_n C dX9_still_0 hl rfl ?_
  refine r_iload_n C dX9_still_1 hl rfl ?_
  refine r_cIr0 hA hw (run_v0 C hw clX9 rfl (c_X9_isPlace hwp) (cwV 1 C.2.2.2.2.1 gX9_still_X9_isPlace rfl rfl rfl hd_X9_isPlace ⟨Nat.le_of_ble_eq_true rfl, Nat.le_of_ble_eq_true rfl⟩) rfl rfl rfl hl dX9_still_2 ⟨Nat.zero_le _, Nat.zero_le _⟩) (fun r H locs hwp hw => ?_)
  obtain ⟨ra, hT, hF⟩ := hwp
  refine r_if_ne C (tgt := 10) dX9_still_5 rfl ra (fun hc => ?_) (fun hc => ?_)
  · have hwp := hT hc
    refine r_aload_n C dX9_still_10 hl rfl ?_
    refine r_cV0 hA hw (run_v0 C hw clX9 rfl (c_X9_rings hwp) (cwV 0 C.2.2.2.2.1 gX9_still_X9_rings rfl rfl rfl hd_X9_rings ⟨Nat.le_of_ble_eq_true rfl, Nat.le_of_ble_eq_true rfl⟩) rfl rfl rfl hl dX9_still_11 ⟨Nat.zero_le _, Nat.zero_le _⟩) (fun σ H locs hwp hw => ?_)
    refine r_const C dX9_still_14 ?_
    refine r_istore_n C dX9_still_15 hl (Nat.le_of_ble_eq_true rfl) (Nat.le_of_ble_eq_true rfl) rfl (fun ls hl => ?_)
    refine r_const C dX9_still_16 ?_
    refine r_istore_n C dX9_still_17 hl (Nat.le_of_ble_eq_true rfl) (Nat.le_of_ble_eq_true rfl) rfl (fun ls hl => ?_)
    obtain ⟨n9, hwp⟩ := hwp
    exact b_X9_still_18 C hA hR n9 hwp hw (lh_mask hl [true, true, true, true])
  · have hwp := hF hc
    refine r_const C dX9_still_8 ?_
    exact hR _ _ _ _ _ _ dX9_still_9 trivial hwp hw
set_option maxRecDepth 100000 in
theorem c_X9_still {l : Launch} {D : va_G} {cA : FieldType → ClassId} {h : Nat → Nat} {σ : St} {sz : Nat} {v1 : Int} {post : Int → St → Prop} (hwp : wp_X9_still σ v1 post) : Met l yX9_still wsX9_still rm_X9_still (va_Pc [.ref (h 0), iv v1] (preS D cA K_M h σ sz)) (QI D cA K_M h sz post) 0 0 (aA K_M.length h sz) := by
  refine mk_met (cc := cX9_still) (nL := 4) (ret := (some .int)) (own := RX9) 2 (by decide) rfl rfl rfl rfl ?_
  intro p e s m args below meth c ls hsz C hw hl hA
  subst hsz
  exact b_X9_still_0 C hA (rt_i C _) hwp hw hl
-- X9_ahead
theorem hi_X9_ahead_X9 : ∀ w ∈ u_ws RX9 TX9 20, w ∈ wsX9_ahead := by decide +kernel
theorem hf_X9_ahead_129 : Cond.fieldLink RX9 129 (TX9 3).1 (TX9 3).2.1 (TX9 3).2.2.1 ∈ wsX9_ahead := by decide +kernel
def rm_X9_ahead : Room := { frames := 3, cells := 0, slots := 0, locals := 71 }
set_option maxRecDepth 100000 in
theorem b_X9_ahead_63 {post : Int → St → Prop} (C : cx p s m args meth c wsX9_ahead RX9 cX9_ahead 5 (some .int) D cA) (hA : ∀ q, s.heap.size ≤ q → A q) (hR : RtI p l e rm_X9_ahead s m args below meth c Q cX9_ahead D cA K_M h A (fun _ => True) post) {k32 : Int → Int → Int → Int → St → Prop} (hk32 : ∀ {v1 v2 v3 v4 : Int} {σ : St} {H : Heap} {locs : List Loc} {ls : Array Slot}, k32 v1 v2 v3 v4 σ → wd D cA K_M h σ A s.heap H locs → lh ls 5 [some (.ref (h 0)), some (iv v1), some (iv v2), some (iv v3), some (iv v4)] → W p l e rm_X9_ahead s m args below meth c H locs 0 0 Q (F0 m 32 ls [])) : ∀ {v1 v2 v3 v4 : Int} {σ : St} {H : Heap} {locs : List Loc} {ls : Array Slot}, wp_X9_ahead_63 k32 post v1 v2 v3 v4 σ → wd D cA K_M h σ A s.heap H locs → lh ls 5 [some (.ref (h 0)), some (iv v1), some (iv v2), some (iv v3), some (iv v4)] → W p l e rm_X9_ahead s m args below meth c H locs 0 0 Q (F0 m 63 ls []) := by
  intro v1 v2 v3 v4 σ H locs ls hwp hw hl
  refine r_iinc C dX9_ahead_63 hl rfl (Nat.le_of_ble_eq_true rfl) rfl (fun ls hl => ?_)
  refine r_goto C (tgt := 32) dX9_ahead_66 rfl ?_
  exact hk32 hwp hw (lh_mask hl [true, true, true, true, true])
set_option maxRecDepth 100000 in
theorem b_X9_ahead_32 {post : Int → St → Prop} (C : cx p s m args meth c wsX9_ahead RX9 cX9_ahead 5 (some .int) D cA) (hA : ∀ q, s.heap.size ≤ q → A q) (hR : RtI p l e rm_X9_ahead s m args below meth c Q cX9_ahead D cA K_M h A (fun _ => True) post) : ∀ (n : Nat) {v1 v2 v3 v4 : Int} {σ : St} {H : Heap} {locs : List Loc} {ls : Array Slot}, wp_X9_ahead_32 post n v1 v2 v3 v4 σ → wd D cA K_M h σ A s.heap H locs → lh ls 5 [some (.ref (h 0)), some (iv v1), some (iv v2), some (iv v3), some (iv v4)] → W p l e rm_X9_ahead s m args below meth c H locs 0 0 Q (F0 m 32 ls []) := by
  intro n; induction n with
  | zero => intros; rename_i hwp _ _; exact hwp.elim
  | succ n ih =>
    intro v1 v2 v3 v4 σ H locs ls hwp hw hl
    refine r_iload C dX9_ahead_32 hl rfl ?_
    refine r_aload_n C dX9_ahead_34 hl rfl ?_
    refine r_get C hw clX9 0 rfl 3 3 rfl rfl (Nat.le_of_ble_eq_true rfl) hi_X9_ahead_X9 hf_X9_ahead_129 dX9_ahead_35 ?_
    obtain ⟨ra, rb, hT, hF⟩ := hwp
    refine r_icmp_gt C (tgt := 69) dX9_ahead_38 rfl ra rb (fun hc => ?_) (fun hc => ?_)
    · have hwp := hT hc
      refine r_iload_n C dX9_ahead_69 hl rfl ?_
      exact hR _ _ _ _ _ _ dX9_ahead_70 trivial hwp hw
    · have hwp := hF hc
      refine r_aload_n C dX9_ahead_41 hl rfl ?_
      refine r_iload C dX9_ahead_42 hl rfl ?_
      refine r_iload_n C dX9_ahead_44 hl rfl ?_
      refine r_cIr0 hA hw (run_v0 C hw clX9 rfl (c_X9_place hwp) (cwV 2 C.2.2.2.2.1 gX9_ahead_X9_place rfl rfl rfl hd_X9_place ⟨Nat.le_of_ble_eq_true rfl, Nat.le_of_ble_eq_true rfl⟩) rfl rfl rfl hl dX9_ahead_45 ⟨Nat.zero_le _, Nat.zero_le _⟩) (fun r H locs hwp hw => ?_)
      refine r_const C dX9_ahead_48 ?_
      refine r_iadd C dX9_ahead_49 ?_
      refine r_aload_n C dX9_ahead_50 hl rfl ?_
      refine r_iload C dX9_ahead_51 hl rfl ?_
      refine r_iload_n C dX9_ahead_53 hl rfl ?_
      refine r_cIr0 hA hw (run_v0 C hw clX9 rfl (c_X9_place hwp) (cwV 2 C.2.2.2.2.1 gX9_ahead_X9_place rfl rfl rfl hd_X9_place ⟨Nat.le_of_ble_eq_true rfl, Nat.le_of_ble_eq_true rfl⟩) rfl rfl rfl hl dX9_ahead_54 ⟨Nat.zero_le _, Nat.zero_le _⟩) (fun r H locs hwp hw => ?_)
      obtain ⟨ra, rb, hT, hF⟩ := hwp
      refine r_icmp_ne C (tgt := 63) dX9_ahead_57 rfl ra rb (fun hc => ?_) (fun hc => ?_)
      · have hwp := hT hc
        exact b_X9_ahead_63 C hA hR ih hwp hw (lh_mask hl [true, true, true, true, true])
      · have hwp := hF hc
        refine r_iinc C dX9_ahead_60 hl rfl (Nat.le_of_ble_eq_true rfl) rfl (fun ls hl => ?_)
        exact b_X9_ahead_63 C hA hR ih hwp hw (lh_mask hl [true, true, true, true, true])
set_option maxRecDepth 100000 in
theorem b_X9_ahead_0 {post : Int → St → Prop} (C : cx p s m args meth c wsX9_ahead RX9 cX9_ahead 5 (some .int) D cA) (hA : ∀ q, s.heap.size ≤ q → A q) (hR : RtI p l e rm_X9_ahead s m args below meth c Q cX9_ahead D cA K_M h A (fun _ => True) post) : ∀ {v1 v2 : Int} {σ : St} {H : Heap} {locs : List Loc} {ls : Array Slot}, wp_X9_ahead σ v1 v2 post → wd D cA K_M h σ A s.heap H locs → lh ls 5 [some (.ref (h 0)), some (iv v1), some (iv v2), none, none] → W p l e rm_X9_ahead s m args below meth c H locs 0 0 Q (F0 m 0 ls []) := by
  intro v1 v2 σ H locs ls hwp hw hl
  refine r_aload_n C dX9_ahead_0 hl rfl ?_
  refine r_iload_n C dX9_ahead_1 hl rfl ?_
  refine r_cIr0 hA hw (run_v0 C hw clX9 rfl (c_X9_isPlace hwp) (cwV 1 C.2.2.2.2.1 gX9_ahead_X9_isPlace rfl rfl rfl hd_X9_isPlace ⟨Nat.le_of_ble_eq_true rfl, Nat.le_of_ble_eq_true rfl⟩) rfl rfl rfl hl dX9_ahead_2 ⟨Nat.zero_le _, Nat.zero_le _⟩) (fun r H locs hwp hw => ?_)
  obtain ⟨ra, hT, hF⟩ := hwp
  refine r_if_eq C (tgt := 21) dX9_ahead_5 rfl ra (fun hc => ?_) (fun hc => ?_)
  · have hwp := hT hc
    refine r_const C dX9_ahead_21 ?_
    exact hR _ _ _ _ _ _ dX9_ahead_22 trivial hwp hw
  · have hwp := hF hc
    refine r_aload_n C dX9_ahead_8 hl rfl ?_
    refine r_iload_n C dX9_ahead_9 hl rfl ?_
    refine r_cIr0 hA hw (run_v0 C hw clX9 rfl (c_X9_isPlace hwp) (cwV 1 C.2.2.2.2.1 gX9_ahead_X9_isPlace rfl rfl rfl hd_X9_isPlace ⟨Nat.le_of_ble_eq_true rfl, Nat.le_of_ble_eq_true rfl⟩) rfl rfl rfl hl dX9_ahead_10 ⟨Nat.zero_le _, Nat.zero_le _⟩) (fun r H locs hwp hw => ?_)
    obtain ⟨ra, hT, hF⟩ := hwp
    refine r_if_eq C (tgt := 21) dX9_ahead_13 rfl ra (fun hc => ?_) (fun hc => ?_)
    · have hwp := hT hc
      refine r_const C dX9_ahead_21 ?_
      exact hR _ _ _ _ _ _ dX9_ahead_22 trivial hwp hw
    · have hwp := hF hc
      refine r_iload_n C dX9_ahead_16 hl rfl ?_
      refine r_iload_n C dX9_ahead_17 hl rfl ?_
      obtain ⟨ra, rb, hT, hF⟩ := hwp
      refine r_icmp_ne C (tgt := 23) dX9_ahead_18 rfl ra rb (fun hc => ?_) (fun hc => ?_)
      · have hwp := hT hc
        refine r_aload_n C dX9_ahead_23 hl rfl ?_
        refine r_cV0 hA hw (run_v0 C hw clX9 rfl (c_X9_rings hwp) (cwV 0 C.2.2.2.2.1 gX9_ahead_X9_rings rfl rfl rfl hd_X9_rings ⟨Nat.le_of_ble_eq_true rfl, Nat.le_of_ble_eq_true rfl⟩) rfl rfl rfl hl dX9_ahead_24 ⟨Nat.zero_le _, Nat.zero_le _⟩) (fun σ H locs hwp hw => ?_)
        refine r_const C dX9_ahead_27 ?_
        refine r_istore_n C dX9_ahead_28 hl (Nat.le_of_ble_eq_true rfl) (Nat.le_of_ble_eq_true rfl) rfl (fun ls hl => ?_)
        refine r_const C dX9_ahead_29 ?_
        refine r_istore C dX9_ahead_30 hl (Nat.le_of_ble_eq_true rfl) (Nat.le_of_ble_eq_true rfl) rfl (fun ls hl => ?_)
        obtain ⟨n9, hwp⟩ := hwp
        exact b_X9_ahead_32 C hA hR n9 hwp hw (lh_mask hl [true, true, true, true, true])
      · have hwp := hF hc
        refine r_const C dX9_ahead_21 ?_
        exact hR _ _ _ _ _ _ dX9_ahead_22 trivial hwp hw
set_option maxRecDepth 100000 in
theorem c_X9_ahead {l : Launch} {D : va_G} {cA : FieldType → ClassId} {h : Nat → Nat} {σ : St} {sz : Nat} {v1 v2 : Int} {post : Int → St → Prop} (hwp : wp_X9_ahead σ v1 v2 post) : Met l yX9_ahead wsX9_ahead rm_X9_ahead (va_Pc [.ref (h 0), iv v1, iv v2] (preS D cA K_M h σ sz)) (QI D cA K_M h sz post) 0 0 (aA K_M.length h sz) := by
  refine mk_met (cc := cX9_ahead) (nL := 5) (ret := (some .int)) (own := RX9) 2 (by decide) rfl rfl rfl rfl ?_
  intro p e s m args below meth c ls hsz C hw hl hA
  subst hsz
  exact b_X9_ahead_0 C hA (rt_i C _) hwp hw hl
-- X9_see
theorem hi_X9_see_X9 : ∀ w ∈ u_ws RX9 TX9 20, w ∈ wsX9_see := by decide +kernel
theorem hf_X9_see_9 : Cond.fieldLink RX9 9 (TX9 0).1 (TX9 0).2.1 (TX9 0).2.2.1 ∈ wsX9_see := by decide +kernel
def rm_X9_see : Room := { frames := 2, cells := 0, slots := 0, locals := 43 }
set_option maxRecDepth 100000 in
theorem b_X9_see_0 {post : Int → St → Prop} (C : cx p s m args meth c wsX9_see RX9 cX9_see 5 (some .int) D cA) (hA : ∀ q, s.heap.size ≤ q → A q) (hR : RtI p l e rm_X9_see s m args below meth c Q cX9_see D cA K_M h A (fun _ => True) post) : ∀ {v1 v2 v3 : Int} {σ : St} {H : Heap} {locs : List Loc} {ls : Array Slot}, wp_X9_see σ v1 v2 v3 post → wd D cA K_M h σ A s.heap H locs → lh ls 5 [some (.ref (h 0)), some (iv v1), some (iv v2), some (iv v3), none] → W p l e rm_X9_see s m args below meth c H locs 0 0 Q (F0 m 0 ls []) := by
  intro v1 v2 v3 σ H locs ls hwp hw hl
  refine r_iload_n C dX9_see_0 hl rfl ?_
  refine r_const C dX9_see_1 ?_
  obtain ⟨ra, hT, hF⟩ := hwp
  refine r_icmp_ne C (tgt := 14) dX9_see_2 rfl ra (by decide) (fun hc => ?_) (fun hc => ?_)
  · have hwp := hT hc
    refine r_iload_n C dX9_see_14 hl rfl ?_
    refine r_const C dX9_see_15 ?_
    refine r_sipush C dX9_see_16 bps_192 ?_
    refine r_cIr hA hw sb_M_0_0_36 (run_s C hw sb_M_0_0_36 (c_X9_within hwp) (va_cwS 3 C.2.2.2.2.1 gX9_see_X9_within rfl rfl rfl hd_X9_within ⟨Nat.le_of_ble_eq_true rfl, Nat.le_of_ble_eq_true rfl⟩) rfl rfl rfl hl dX9_see_19 ⟨Nat.zero_le _, Nat.zero_le _⟩) (fun r H locs hwp hw => ?_)
    obtain ⟨ra, hT, hF⟩ := hwp
    refine r_if_eq C (tgt := 41) dX9_see_22 rfl ra (fun hc => ?_) (fun hc => ?_)
    · have hwp := hT hc
      refine r_const C dX9_see_41 ?_
      exact hR _ _ _ _ _ _ dX9_see_42 trivial hwp hw
    · have hwp := hF hc
      refine r_aload_n C dX9_see_25 hl rfl ?_
      refine r_iload_n C dX9_see_26 hl rfl ?_
      refine r_cIr0 hA hw (run_v0 C hw clX9 rfl (c_X9_isPlace hwp) (cwV 1 C.2.2.2.2.1 gX9_see_X9_isPlace rfl rfl rfl hd_X9_isPlace ⟨Nat.le_of_ble_eq_true rfl, Nat.le_of_ble_eq_true rfl⟩) rfl rfl rfl hl dX9_see_27 ⟨Nat.zero_le _, Nat.zero_le _⟩) (fun r H locs hwp hw => ?_)
      obtain ⟨ra, hT, hF⟩ := hwp
      refine r_if_eq C (tgt := 41) dX9_see_30 rfl ra (fun hc => ?_) (fun hc => ?_)
      · have hwp := hT hc
        refine r_const C dX9_see_41 ?_
        exact hR _ _ _ _ _ _ dX9_see_42 trivial hwp hw
      · have hwp := hF hc
        refine r_aload_n C dX9_see_33 hl rfl ?_
        refine r_iload_n C dX9_see_34 hl rfl ?_
        refine r_cIr0 hA hw (run_v0 C hw clX9 rfl (c_X9_isPlace hwp) (cwV 1 C.2.2.2.2.1 gX9_see_X9_isPlace rfl rfl rfl hd_X9_isPlace ⟨Nat.le_of_ble_eq_true rfl, Nat.le_of_ble_eq_true rfl⟩) rfl rfl rfl hl dX9_see_35 ⟨Nat.zero_le _, Nat.zero_le _⟩) (fun r H locs hwp hw => ?_)
        obtain ⟨ra, hT, hF⟩ := hwp
        refine r_if_ne C (tgt := 43) dX9_see_38 rfl ra (fun hc => ?_) (fun hc => ?_)
        · have hwp := hT hc
          refine r_aload_n C dX9_see_43 hl rfl ?_
          refine r_getr C hw clX9 0 rfl 0 1 rfl (Nat.le_of_ble_eq_true rfl) hi_X9_see_X9 hf_X9_see_9 dX9_see_44 ?_
          refine r_const C dX9_see_47 ?_
          refine r_iald C hw 1 rfl rfl (by decide) (by decide) dX9_see_48 ?_
          refine r_const C dX9_see_49 ?_
          obtain ⟨ra, hT, hF⟩ := hwp
          refine r_icmp_ne C (tgt := 56) dX9_see_50 rfl ra (by decide) (fun hc => ?_) (fun hc => ?_)
          · have hwp := hT hc
            refine r_bipush C dX9_see_56 bpb_44 ?_
            refine r_const C dX9_see_58 ?_
            refine r_aload_n C dX9_see_59 hl rfl ?_
            refine r_getr C hw clX9 0 rfl 0 1 rfl (Nat.le_of_ble_eq_true rfl) hi_X9_see_X9 hf_X9_see_9 dX9_see_60 ?_
            refine r_const C dX9_see_63 ?_
            refine r_iald C hw 1 rfl rfl (by decide) (by decide) dX9_see_64 ?_
            refine r_imul C dX9_see_65 ?_
            refine r_iadd C dX9_see_66 ?_
            refine r_istore C dX9_see_67 hl (Nat.le_of_ble_eq_true rfl) (Nat.le_of_ble_eq_true rfl) rfl (fun ls hl => ?_)
            refine r_aload_n C dX9_see_69 hl rfl ?_
            refine r_getr C hw clX9 0 rfl 0 1 rfl (Nat.le_of_ble_eq_true rfl) hi_X9_see_X9 hf_X9_see_9 dX9_see_70 ?_
            refine r_iload C dX9_see_73 hl rfl ?_
            refine r_iload_n C dX9_see_75 hl rfl ?_
            obtain ⟨h0, h1, hwp⟩ := hwp
            refine r_iast C hw 1 rfl rfl h0 h1 dX9_see_76 (fun H locs hw => ?_)
            have hwp := hwp _ rfl
            refine r_aload_n C dX9_see_77 hl rfl ?_
            refine r_getr C hw clX9 0 rfl 0 1 rfl (Nat.le_of_ble_eq_true rfl) hi_X9_see_X9 hf_X9_see_9 dX9_see_78 ?_
            refine r_iload C dX9_see_81 hl rfl ?_
            refine r_const C dX9_see_83 ?_
            refine r_iadd C dX9_see_84 ?_
            refine r_iload_n C dX9_see_85 hl rfl ?_
            obtain ⟨h0, h1, hwp⟩ := hwp
            refine r_iast C hw 1 rfl rfl h0 h1 dX9_see_86 (fun H locs hw => ?_)
            have hwp := hwp _ rfl
            refine r_aload_n C dX9_see_87 hl rfl ?_
            refine r_getr C hw clX9 0 rfl 0 1 rfl (Nat.le_of_ble_eq_true rfl) hi_X9_see_X9 hf_X9_see_9 dX9_see_88 ?_
            refine r_iload C dX9_see_91 hl rfl ?_
            refine r_const C dX9_see_93 ?_
            refine r_iadd C dX9_see_94 ?_
            refine r_iload_n C dX9_see_95 hl rfl ?_
            obtain ⟨h0, h1, hwp⟩ := hwp
            refine r_iast C hw 1 rfl rfl h0 h1 dX9_see_96 (fun H locs hw => ?_)
            have hwp := hwp _ rfl
            refine r_aload_n C dX9_see_97 hl rfl ?_
            refine r_getr C hw clX9 0 rfl 0 1 rfl (Nat.le_of_ble_eq_true rfl) hi_X9_see_X9 hf_X9_see_9 dX9_see_98 ?_
            refine r_const C dX9_see_101 ?_
            refine r_dup2 C dX9_see_102 rfl rfl ?_
            refine r_iald C hw 1 rfl rfl (by decide) (by decide) dX9_see_103 ?_
            refine r_const C dX9_see_104 ?_
            refine r_iadd C dX9_see_105 ?_
            refine r_dup_x2 C dX9_see_106 rfl rfl rfl ?_
            refine r_iast C hw 1 rfl rfl (by decide) (by decide) dX9_see_107 (fun H locs hw => ?_)
            have hwp := hwp _ rfl
            exact hR _ _ _ _ _ _ dX9_see_108 trivial hwp hw
          · have hwp := hF hc
            refine r_bipush C dX9_see_53 bpb_m4 ?_
            exact hR _ _ _ _ _ _ dX9_see_55 trivial hwp hw
        · have hwp := hF hc
          refine r_const C dX9_see_41 ?_
          exact hR _ _ _ _ _ _ dX9_see_42 trivial hwp hw
  · have hwp := hF hc
    refine r_aload_n C dX9_see_5 hl rfl ?_
    refine r_getr C hw clX9 0 rfl 0 1 rfl (Nat.le_of_ble_eq_true rfl) hi_X9_see_X9 hf_X9_see_9 dX9_see_6 ?_
    refine r_const C dX9_see_9 ?_
    refine r_const C dX9_see_10 ?_
    refine r_iast C hw 1 rfl rfl (by decide) (by decide) dX9_see_11 (fun H locs hw => ?_)
    have hwp := hwp _ rfl
    refine r_const C dX9_see_12 ?_
    exact hR _ _ _ _ _ _ dX9_see_13 trivial hwp hw
set_option maxRecDepth 100000 in
theorem c_X9_see {l : Launch} {D : va_G} {cA : FieldType → ClassId} {h : Nat → Nat} {σ : St} {sz : Nat} {v1 v2 v3 : Int} {post : Int → St → Prop} (hwp : wp_X9_see σ v1 v2 v3 post) : Met l yX9_see wsX9_see rm_X9_see (va_Pc [.ref (h 0), iv v1, iv v2, iv v3] (preS D cA K_M h σ sz)) (QI D cA K_M h sz post) 0 0 (aA K_M.length h sz) := by
  refine mk_met (cc := cX9_see) (nL := 5) (ret := (some .int)) (own := RX9) 1 (by decide) rfl rfl rfl rfl ?_
  intro p e s m args below meth c ls hsz C hw hl hA
  subst hsz
  exact b_X9_see_0 C hA (rt_i C _) hwp hw hl
-- X9_isSeen
theorem hi_X9_isSeen_X9 : ∀ w ∈ u_ws RX9 TX9 20, w ∈ wsX9_isSeen := by decide +kernel
theorem hf_X9_isSeen_9 : Cond.fieldLink RX9 9 (TX9 0).1 (TX9 0).2.1 (TX9 0).2.2.1 ∈ wsX9_isSeen := by decide +kernel
theorem hf_X9_isSeen_129 : Cond.fieldLink RX9 129 (TX9 3).1 (TX9 3).2.1 (TX9 3).2.2.1 ∈ wsX9_isSeen := by decide +kernel
theorem hf_X9_isSeen_18 : Cond.fieldLink RX9 18 (TX9 4).1 (TX9 4).2.1 (TX9 4).2.2.1 ∈ wsX9_isSeen := by decide +kernel
def rm_X9_isSeen : Room := { frames := 0, cells := 0, slots := 0, locals := 0 }
set_option maxRecDepth 100000 in
theorem b_X9_isSeen_70 {σ : St} {post : Int → Prop} (C : cx p s m args meth c wsX9_isSeen RX9 cX9_isSeen 3 (some .boolean) D cA) (hA : ∀ q, s.heap.size ≤ q → A q) (hR : RtI p l e rm_X9_isSeen s m args below meth c Q cX9_isSeen D cA K_M h A (fun x => x = 0 ∨ x = 1) (fun r σ' => σ' = σ ∧ post r)) {k2 : Int → St → Prop} (hk2 : ∀ {v1 : Int} {H : Heap} {locs : List Loc} {ls : Array Slot}, k2 v1 σ → wd D cA K_M h σ A s.heap H locs → lh ls 3 [some (.ref (h 0)), some (iv v1), none] → W p l e rm_X9_isSeen s m args below meth c H locs 0 0 Q (F0 m 2 ls [])) : ∀ {v1 : Int} {H : Heap} {locs : List Loc} {ls : Array Slot}, wp_X9_isSeen_70 k2 post v1 σ → wd D cA K_M h σ A s.heap H locs → lh ls 3 [some (.ref (h 0)), some (iv v1), none] → W p l e rm_X9_isSeen s m args below meth c H locs 0 0 Q (F0 m 70 ls []) := by
  intro v1 H locs ls hwp hw hl
  refine r_iinc C dX9_isSeen_70 hl rfl (Nat.le_of_ble_eq_true rfl) rfl (fun ls hl => ?_)
  refine r_goto C (tgt := 2) dX9_isSeen_73 rfl ?_
  exact hk2 hwp hw (lh_mask hl [true, true, false])
set_option maxRecDepth 100000 in
theorem b_X9_isSeen_2 {σ : St} {post : Int → Prop} (C : cx p s m args meth c wsX9_isSeen RX9 cX9_isSeen 3 (some .boolean) D cA) (hA : ∀ q, s.heap.size ≤ q → A q) (hR : RtI p l e rm_X9_isSeen s m args below meth c Q cX9_isSeen D cA K_M h A (fun x => x = 0 ∨ x = 1) (fun r σ' => σ' = σ ∧ post r)) : ∀ (n : Nat) {v1 : Int} {H : Heap} {locs : List Loc} {ls : Array Slot}, wp_X9_isSeen_2 post n v1 σ → wd D cA K_M h σ A s.heap H locs → lh ls 3 [some (.ref (h 0)), some (iv v1), none] → W p l e rm_X9_isSeen s m args below meth c H locs 0 0 Q (F0 m 2 ls []) := by
  intro n; induction n with
  | zero => intros; rename_i hwp _ _; exact hwp.elim
  | succ n ih =>
    intro v1 H locs ls hwp hw hl
    refine r_iload_n C dX9_isSeen_2 hl rfl ?_
    refine r_aload_n C dX9_isSeen_3 hl rfl ?_
    refine r_getr C hw clX9 0 rfl 0 1 rfl (Nat.le_of_ble_eq_true rfl) hi_X9_isSeen_X9 hf_X9_isSeen_9 dX9_isSeen_4 ?_
    refine r_const C dX9_isSeen_7 ?_
    refine r_iald C hw 1 rfl rfl (by decide) (by decide) dX9_isSeen_8 ?_
    obtain ⟨ra, rb, hT, hF⟩ := hwp
    refine r_icmp_ge C (tgt := 76) dX9_isSeen_9 rfl ra rb (fun hc => ?_) (fun hc => ?_)
    · have hwp := hT hc
      refine r_const C dX9_isSeen_76 ?_
      exact hR _ _ _ _ _ _ dX9_isSeen_77 (Or.inr rfl) ⟨rfl, hwp⟩ hw
    · have hwp := hF hc
      refine r_bipush C dX9_isSeen_12 bpb_44 ?_
      refine r_const C dX9_isSeen_14 ?_
      refine r_iload_n C dX9_isSeen_15 hl rfl ?_
      refine r_imul C dX9_isSeen_16 ?_
      refine r_iadd C dX9_isSeen_17 ?_
      refine r_istore_n C dX9_isSeen_18 hl (Nat.le_of_ble_eq_true rfl) (Nat.le_of_ble_eq_true rfl) rfl (fun ls hl => ?_)
      refine r_aload_n C dX9_isSeen_19 hl rfl ?_
      refine r_getr C hw clX9 0 rfl 0 1 rfl (Nat.le_of_ble_eq_true rfl) hi_X9_isSeen_X9 hf_X9_isSeen_9 dX9_isSeen_20 ?_
      refine r_iload_n C dX9_isSeen_23 hl rfl ?_
      obtain ⟨h0, h1, hwp⟩ := hwp
      refine r_iald C hw 1 rfl rfl h0 h1 dX9_isSeen_24 ?_
      refine r_aload_n C dX9_isSeen_25 hl rfl ?_
      refine r_get C hw clX9 0 rfl 3 3 rfl rfl (Nat.le_of_ble_eq_true rfl) hi_X9_isSeen_X9 hf_X9_isSeen_129 dX9_isSeen_26 ?_
      obtain ⟨ra, rb, hT, hF⟩ := hwp
      refine r_icmp_gt C (tgt := 70) dX9_isSeen_29 rfl ra rb (fun hc => ?_) (fun hc => ?_)
      · have hwp := hT hc
        exact b_X9_isSeen_70 C hA hR ih hwp hw (lh_mask hl [true, true, false])
      · have hwp := hF hc
        refine r_aload_n C dX9_isSeen_32 hl rfl ?_
        refine r_getr C hw clX9 0 rfl 4 3 rfl (Nat.le_of_ble_eq_true rfl) hi_X9_isSeen_X9 hf_X9_isSeen_18 dX9_isSeen_33 ?_
        refine r_bipush C dX9_isSeen_36 bpb_8 ?_
        refine r_aload_n C dX9_isSeen_38 hl rfl ?_
        refine r_getr C hw clX9 0 rfl 0 1 rfl (Nat.le_of_ble_eq_true rfl) hi_X9_isSeen_X9 hf_X9_isSeen_9 dX9_isSeen_39 ?_
        refine r_iload_n C dX9_isSeen_42 hl rfl ?_
        obtain ⟨h0, h1, hwp⟩ := hwp
        refine r_iald C hw 1 rfl rfl h0 h1 dX9_isSeen_43 ?_
        refine r_imul C dX9_isSeen_44 ?_
        refine r_aload_n C dX9_isSeen_45 hl rfl ?_
        refine r_getr C hw clX9 0 rfl 0 1 rfl (Nat.le_of_ble_eq_true rfl) hi_X9_isSeen_X9 hf_X9_isSeen_9 dX9_isSeen_46 ?_
        refine r_iload_n C dX9_isSeen_49 hl rfl ?_
        refine r_const C dX9_isSeen_50 ?_
        refine r_iadd C dX9_isSeen_51 ?_
        obtain ⟨h0, h1, hwp⟩ := hwp
        refine r_iald C hw 1 rfl rfl h0 h1 dX9_isSeen_52 ?_
        refine r_iadd C dX9_isSeen_53 ?_
        refine r_const C dX9_isSeen_54 ?_
        refine r_isub C dX9_isSeen_55 ?_
        obtain ⟨h0, h1, hwp⟩ := hwp
        refine r_iald C hw 3 rfl rfl h0 h1 dX9_isSeen_56 ?_
        refine r_aload_n C dX9_isSeen_57 hl rfl ?_
        refine r_getr C hw clX9 0 rfl 0 1 rfl (Nat.le_of_ble_eq_true rfl) hi_X9_isSeen_X9 hf_X9_isSeen_9 dX9_isSeen_58 ?_
        refine r_iload_n C dX9_isSeen_61 hl rfl ?_
        refine r_const C dX9_isSeen_62 ?_
        refine r_iadd C dX9_isSeen_63 ?_
        obtain ⟨h0, h1, hwp⟩ := hwp
        refine r_iald C hw 1 rfl rfl h0 h1 dX9_isSeen_64 ?_
        obtain ⟨ra, rb, hT, hF⟩ := hwp
        refine r_icmp_eq C (tgt := 70) dX9_isSeen_65 rfl ra rb (fun hc => ?_) (fun hc => ?_)
        · have hwp := hT hc
          exact b_X9_isSeen_70 C hA hR ih hwp hw (lh_mask hl [true, true, false])
        · have hwp := hF hc
          refine r_const C dX9_isSeen_68 ?_
          exact hR _ _ _ _ _ _ dX9_isSeen_69 (Or.inl rfl) ⟨rfl, hwp⟩ hw
set_option maxRecDepth 100000 in
theorem b_X9_isSeen_0 {σ : St} {post : Int → Prop} (C : cx p s m args meth c wsX9_isSeen RX9 cX9_isSeen 3 (some .boolean) D cA) (hA : ∀ q, s.heap.size ≤ q → A q) (hR : RtI p l e rm_X9_isSeen s m args below meth c Q cX9_isSeen D cA K_M h A (fun x => x = 0 ∨ x = 1) (fun r σ' => σ' = σ ∧ post r)) : ∀ {H : Heap} {locs : List Loc} {ls : Array Slot}, wp_X9_isSeen σ post → wd D cA K_M h σ A s.heap H locs → lh ls 3 [some (.ref (h 0)), none, none] → W p l e rm_X9_isSeen s m args below meth c H locs 0 0 Q (F0 m 0 ls []) := by
  intro H locs ls hwp hw hl
  refine r_const C dX9_isSeen_0 ?_
  refine r_istore_n C dX9_isSeen_1 hl (Nat.le_of_ble_eq_true rfl) (Nat.le_of_ble_eq_true rfl) rfl (fun ls hl => ?_)
  obtain ⟨n9, hwp⟩ := hwp
  exact b_X9_isSeen_2 C hA hR n9 hwp hw (lh_mask hl [true, true, false])
set_option maxRecDepth 100000 in
theorem c_X9_isSeen {l : Launch} {D : va_G} {cA : FieldType → ClassId} {h : Nat → Nat} {σ : St} {sz : Nat} {post : Int → Prop} (hwp : wp_X9_isSeen σ post) : Met l yX9_isSeen wsX9_isSeen rm_X9_isSeen (va_Pc [.ref (h 0)] (preS D cA K_M h σ sz)) (QI D cA K_M h sz (fun r σ' => σ' = σ ∧ post r)) 0 0 (aA K_M.length h sz) := by
  refine mk_met (cc := cX9_isSeen) (nL := 3) (ret := (some .boolean)) (own := RX9) 2 (by decide) rfl rfl rfl rfl ?_
  intro p e s m args below meth c ls hsz C hw hl hA
  subst hsz
  exact b_X9_isSeen_0 C hA (rt_z C _) hwp hw hl
-- X9_fits
theorem hi_X9_fits_X9 : ∀ w ∈ u_ws RX9 TX9 20, w ∈ wsX9_fits := by decide +kernel
theorem hf_X9_fits_9 : Cond.fieldLink RX9 9 (TX9 0).1 (TX9 0).2.1 (TX9 0).2.2.1 ∈ wsX9_fits := by decide +kernel
def rm_X9_fits : Room := { frames := 3, cells := 0, slots := 0, locals := 71 }
set_option maxRecDepth 100000 in
theorem b_X9_fits_115 {post : Int → St → Prop} (C : cx p s m args meth c wsX9_fits RX9 cX9_fits 7 (some .int) D cA) (hA : ∀ q, s.heap.size ≤ q → A q) (hR : RtI p l e rm_X9_fits s m args below meth c Q cX9_fits D cA K_M h A (fun _ => True) post) {k69 : Int → Int → Int → Int → Int → Int → St → Prop} (hk69 : ∀ {v1 v2 v3 v4 v5 v6 : Int} {σ : St} {H : Heap} {locs : List Loc} {ls : Array Slot}, k69 v1 v2 v3 v4 v5 v6 σ → wd D cA K_M h σ A s.heap H locs → lh ls 7 [some (.ref (h 0)), some (iv v1), some (iv v2), some (iv v3), some (iv v4), some (iv v5), some (iv v6)] → W p l e rm_X9_fits s m args below meth c H locs 0 0 Q (F0 m 69 ls [])) : ∀ {v1 v2 v3 v4 v5 v6 : Int} {σ : St} {H : Heap} {locs : List Loc} {ls : Array Slot}, wp_X9_fits_115 k69 post v1 v2 v3 v4 v5 v6 σ → wd D cA K_M h σ A s.heap H locs → lh ls 7 [some (.ref (h 0)), some (iv v1), some (iv v2), some (iv v3), some (iv v4), some (iv v5), some (iv v6)] → W p l e rm_X9_fits s m args below meth c H locs 0 0 Q (F0 m 115 ls []) := by
  intro v1 v2 v3 v4 v5 v6 σ H locs ls hwp hw hl
  refine r_iinc C dX9_fits_115 hl rfl (Nat.le_of_ble_eq_true rfl) rfl (fun ls hl => ?_)
  refine r_goto C (tgt := 69) dX9_fits_118 rfl ?_
  exact hk69 hwp hw (lh_mask hl [true, true, true, true, true, true, true])
set_option maxRecDepth 100000 in
theorem b_X9_fits_69 {post : Int → St → Prop} (C : cx p s m args meth c wsX9_fits RX9 cX9_fits 7 (some .int) D cA) (hA : ∀ q, s.heap.size ≤ q → A q) (hR : RtI p l e rm_X9_fits s m args below meth c Q cX9_fits D cA K_M h A (fun _ => True) post) : ∀ (n : Nat) {v1 v2 v3 v4 v5 v6 : Int} {σ : St} {H : Heap} {locs : List Loc} {ls : Array Slot}, wp_X9_fits_69 post n v1 v2 v3 v4 v5 v6 σ → wd D cA K_M h σ A s.heap H locs → lh ls 7 [some (.ref (h 0)), some (iv v1), some (iv v2), some (iv v3), some (iv v4), some (iv v5), some (iv v6)] → W p l e rm_X9_fits s m args below meth c H locs 0 0 Q (F0 m 69 ls []) := by
  intro n; induction n with
  | zero => intros; rename_i hwp _ _; exact hwp.elim
  | succ n ih =>
    intro v1 v2 v3 v4 v5 v6 σ H locs ls hwp hw hl
    refine r_iload C dX9_fits_69 hl rfl ?_
    obtain ⟨ra, hT, hF⟩ := hwp
    refine r_if_lt C (tgt := 121) dX9_fits_71 rfl ra (fun hc => ?_) (fun hc => ?_)
    · have hwp := hT hc
      refine r_aload_n C dX9_fits_121 hl rfl ?_
      refine r_getr C hw clX9 0 rfl 0 1 rfl (Nat.le_of_ble_eq_true rfl) hi_X9_fits_X9 hf_X9_fits_9 dX9_fits_122 ?_
      refine r_iload_n C dX9_fits_125 hl rfl ?_
      refine r_iload_n C dX9_fits_126 hl rfl ?_
      obtain ⟨h0, h1, hwp⟩ := hwp
      refine r_iast C hw 1 rfl rfl h0 h1 dX9_fits_127 (fun H locs hw => ?_)
      have hwp := hwp _ rfl
      refine r_iload_n C dX9_fits_128 hl rfl ?_
      obtain ⟨ra, hT, hF⟩ := hwp
      refine r_if_ne C (tgt := 137) dX9_fits_129 rfl ra (fun hc => ?_) (fun hc => ?_)
      · have hwp := hT hc
        refine r_iload C dX9_fits_137 hl rfl ?_
        exact hR _ _ _ _ _ _ dX9_fits_139 trivial hwp hw
      · have hwp := hF hc
        refine r_iload C dX9_fits_132 hl rfl ?_
        refine r_goto C (tgt := 139) dX9_fits_134 rfl ?_
        exact hR _ _ _ _ _ _ dX9_fits_139 trivial hwp hw
    · have hwp := hF hc
      refine r_aload_n C dX9_fits_74 hl rfl ?_
      refine r_iload C dX9_fits_75 hl rfl ?_
      refine r_cIr0 hA hw (run_v0 C hw clX9 rfl (c_X9_isGood hwp) (cwV 1 C.2.2.2.2.1 gX9_fits_X9_isGood rfl rfl rfl hd_X9_isGood ⟨Nat.le_of_ble_eq_true rfl, Nat.le_of_ble_eq_true rfl⟩) rfl rfl rfl hl dX9_fits_77 ⟨Nat.zero_le _, Nat.zero_le _⟩) (fun r H locs hwp hw => ?_)
      obtain ⟨ra, hT, hF⟩ := hwp
      refine r_if_ne C (tgt := 86) dX9_fits_80 rfl ra (fun hc => ?_) (fun hc => ?_)
      · have hwp := hT hc
        refine r_aload_n C dX9_fits_86 hl rfl ?_
        refine r_getr C hw clX9 0 rfl 0 1 rfl (Nat.le_of_ble_eq_true rfl) hi_X9_fits_X9 hf_X9_fits_9 dX9_fits_87 ?_
        refine r_iload_n C dX9_fits_90 hl rfl ?_
        refine r_iload C dX9_fits_91 hl rfl ?_
        obtain ⟨h0, h1, hwp⟩ := hwp
        refine r_iast C hw 1 rfl rfl h0 h1 dX9_fits_93 (fun H locs hw => ?_)
        have hwp := hwp _ rfl
        refine r_aload_n C dX9_fits_94 hl rfl ?_
        refine r_cV0 hA hw (run_v0 C hw clX9 rfl (c_X9_rings hwp) (cwV 0 C.2.2.2.2.1 gX9_fits_X9_rings rfl rfl rfl hd_X9_rings ⟨Nat.le_of_ble_eq_true rfl, Nat.le_of_ble_eq_true rfl⟩) rfl rfl rfl hl dX9_fits_95 ⟨Nat.zero_le _, Nat.zero_le _⟩) (fun σ H locs hwp hw => ?_)
        refine r_aload_n C dX9_fits_98 hl rfl ?_
        refine r_cIr0 hA hw (run_v0 C hw clX9 rfl (c_X9_isSeen hwp) (cwV 0 C.2.2.2.2.1 gX9_fits_X9_isSeen rfl rfl rfl hd_X9_isSeen ⟨Nat.le_of_ble_eq_true rfl, Nat.le_of_ble_eq_true rfl⟩) rfl rfl rfl hl dX9_fits_99 ⟨Nat.zero_le _, Nat.zero_le _⟩) (fun r H locs hwp hw => ?_)
        obtain ⟨ra, hT, hF⟩ := hwp
        refine r_if_ne C (tgt := 108) dX9_fits_102 rfl ra (fun hc => ?_) (fun hc => ?_)
        · have hwp := hT hc
          refine r_iinc C dX9_fits_108 hl rfl (Nat.le_of_ble_eq_true rfl) rfl (fun ls hl => ?_)
          refine r_iload C dX9_fits_111 hl rfl ?_
          refine r_istore C dX9_fits_113 hl (Nat.le_of_ble_eq_true rfl) (Nat.le_of_ble_eq_true rfl) rfl (fun ls hl => ?_)
          exact b_X9_fits_115 C hA hR ih hwp hw (lh_mask hl [true, true, true, true, true, true, true])
        · have hwp := hF hc
          refine r_goto C (tgt := 115) dX9_fits_105 rfl ?_
          exact b_X9_fits_115 C hA hR ih hwp hw (lh_mask hl [true, true, true, true, true, true, true])
      · have hwp := hF hc
        refine r_goto C (tgt := 115) dX9_fits_83 rfl ?_
        exact b_X9_fits_115 C hA hR ih hwp hw (lh_mask hl [true, true, true, true, true, true, true])
set_option maxRecDepth 100000 in
theorem b_X9_fits_0 {post : Int → St → Prop} (C : cx p s m args meth c wsX9_fits RX9 cX9_fits 7 (some .int) D cA) (hA : ∀ q, s.heap.size ≤ q → A q) (hR : RtI p l e rm_X9_fits s m args below meth c Q cX9_fits D cA K_M h A (fun _ => True) post) : ∀ {v1 : Int} {σ : St} {H : Heap} {locs : List Loc} {ls : Array Slot}, wp_X9_fits σ v1 post → wd D cA K_M h σ A s.heap H locs → lh ls 7 [some (.ref (h 0)), some (iv v1), none, none, none, none, none] → W p l e rm_X9_fits s m args below meth c H locs 0 0 Q (F0 m 0 ls []) := by
  intro v1 σ H locs ls hwp hw hl
  refine r_iload_n C dX9_fits_0 hl rfl ?_
  refine r_const C dX9_fits_1 ?_
  refine r_const C dX9_fits_2 ?_
  refine r_cIr hA hw sb_M_0_0_36 (run_s C hw sb_M_0_0_36 (c_X9_within hwp) (va_cwS 3 C.2.2.2.2.1 gX9_fits_X9_within rfl rfl rfl hd_X9_within ⟨Nat.le_of_ble_eq_true rfl, Nat.le_of_ble_eq_true rfl⟩) rfl rfl rfl hl dX9_fits_3 ⟨Nat.zero_le _, Nat.zero_le _⟩) (fun r H locs hwp hw => ?_)
  obtain ⟨ra, hT, hF⟩ := hwp
  refine r_if_ne C (tgt := 11) dX9_fits_6 rfl ra (fun hc => ?_) (fun hc => ?_)
  · have hwp := hT hc
    refine r_aload_n C dX9_fits_11 hl rfl ?_
    refine r_getr C hw clX9 0 rfl 0 1 rfl (Nat.le_of_ble_eq_true rfl) hi_X9_fits_X9 hf_X9_fits_9 dX9_fits_12 ?_
    refine r_const C dX9_fits_15 ?_
    refine r_iald C hw 1 rfl rfl (by decide) (by decide) dX9_fits_16 ?_
    obtain ⟨ra, hT, hF⟩ := hwp
    refine r_if_ne C (tgt := 31) dX9_fits_17 rfl ra (fun hc => ?_) (fun hc => ?_)
    · have hwp := hT hc
      refine r_bipush C dX9_fits_31 bpb_8 ?_
      refine r_aload_n C dX9_fits_33 hl rfl ?_
      refine r_getr C hw clX9 0 rfl 0 1 rfl (Nat.le_of_ble_eq_true rfl) hi_X9_fits_X9 hf_X9_fits_9 dX9_fits_34 ?_
      refine r_const C dX9_fits_37 ?_
      refine r_iald C hw 1 rfl rfl (by decide) (by decide) dX9_fits_38 ?_
      refine r_iadd C dX9_fits_39 ?_
      refine r_const C dX9_fits_40 ?_
      refine r_isub C dX9_fits_41 ?_
      refine r_istore_n C dX9_fits_42 hl (Nat.le_of_ble_eq_true rfl) (Nat.le_of_ble_eq_true rfl) rfl (fun ls hl => ?_)
      refine r_aload_n C dX9_fits_43 hl rfl ?_
      refine r_getr C hw clX9 0 rfl 0 1 rfl (Nat.le_of_ble_eq_true rfl) hi_X9_fits_X9 hf_X9_fits_9 dX9_fits_44 ?_
      refine r_iload_n C dX9_fits_47 hl rfl ?_
      obtain ⟨h0, h1, hwp⟩ := hwp
      refine r_iald C hw 1 rfl rfl h0 h1 dX9_fits_48 ?_
      refine r_istore_n C dX9_fits_49 hl (Nat.le_of_ble_eq_true rfl) (Nat.le_of_ble_eq_true rfl) rfl (fun ls hl => ?_)
      refine r_const C dX9_fits_50 ?_
      refine r_istore C dX9_fits_51 hl (Nat.le_of_ble_eq_true rfl) (Nat.le_of_ble_eq_true rfl) rfl (fun ls hl => ?_)
      refine r_bipush C dX9_fits_53 bpb_m5 ?_
      refine r_istore C dX9_fits_55 hl (Nat.le_of_ble_eq_true rfl) (Nat.le_of_ble_eq_true rfl) rfl (fun ls hl => ?_)
      refine r_const C dX9_fits_57 ?_
      refine r_aload_n C dX9_fits_58 hl rfl ?_
      refine r_getr C hw clX9 0 rfl 0 1 rfl (Nat.le_of_ble_eq_true rfl) hi_X9_fits_X9 hf_X9_fits_9 dX9_fits_59 ?_
      refine r_const C dX9_fits_62 ?_
      refine r_iald C hw 1 rfl rfl (by decide) (by decide) dX9_fits_63 ?_
      refine r_ishl C dX9_fits_64 ?_
      refine r_const C dX9_fits_65 ?_
      refine r_isub C dX9_fits_66 ?_
      refine r_istore C dX9_fits_67 hl (Nat.le_of_ble_eq_true rfl) (Nat.le_of_ble_eq_true rfl) rfl (fun ls hl => ?_)
      obtain ⟨n9, hwp⟩ := hwp
      exact b_X9_fits_69 C hA hR n9 hwp hw (lh_mask hl [true, true, true, true, true, true, true])
    · have hwp := hF hc
      refine r_iload_n C dX9_fits_20 hl rfl ?_
      obtain ⟨ra, hT, hF⟩ := hwp
      refine r_if_ne C (tgt := 28) dX9_fits_21 rfl ra (fun hc => ?_) (fun hc => ?_)
      · have hwp := hT hc
        refine r_bipush C dX9_fits_28 bpb_m5 ?_
        exact hR _ _ _ _ _ _ dX9_fits_30 trivial hwp hw
      · have hwp := hF hc
        refine r_const C dX9_fits_24 ?_
        refine r_goto C (tgt := 30) dX9_fits_25 rfl ?_
        exact hR _ _ _ _ _ _ dX9_fits_30 trivial hwp hw
  · have hwp := hF hc
    refine r_const C dX9_fits_9 ?_
    exact hR _ _ _ _ _ _ dX9_fits_10 trivial hwp hw
set_option maxRecDepth 100000 in
theorem c_X9_fits {l : Launch} {D : va_G} {cA : FieldType → ClassId} {h : Nat → Nat} {σ : St} {sz : Nat} {v1 : Int} {post : Int → St → Prop} (hwp : wp_X9_fits σ v1 post) : Met l yX9_fits wsX9_fits rm_X9_fits (va_Pc [.ref (h 0), iv v1] (preS D cA K_M h σ sz)) (QI D cA K_M h sz post) 0 0 (aA K_M.length h sz) := by
  refine mk_met (cc := cX9_fits) (nL := 7) (ret := (some .int)) (own := RX9) 5 (by decide) rfl rfl rfl rfl ?_
  intro p e s m args below meth c ls hsz C hw hl hA
  subst hsz
  exact b_X9_fits_0 C hA (rt_i C _) hwp hw hl
-- X9_lowest
def rm_X9_lowest : Room := { frames := 0, cells := 0, slots := 0, locals := 0 }
set_option maxRecDepth 100000 in
theorem b_X9_lowest_5 {σ : St} {post : Int → Prop} (C : cx p s m args meth c wsX9_lowest RX9 cX9_lowest 6 (some .long) D cA) (hA : ∀ q, s.heap.size ≤ q → A q) (hR : RtL p l e rm_X9_lowest s m args below meth c Q cX9_lowest D cA K_0 h A (fun r σ' => σ' = σ ∧ post r)) : ∀ (n : Nat) {v0 v1 v2 v3 v4 : Int} {H : Heap} {locs : List Loc} {ls : Array Slot}, wp_X9_lowest_5 post n v0 v1 v2 v3 v4 → wd D cA K_0 h σ A s.heap H locs → lh ls 6 [some (iv v0), some (iv v1), some (iv v2), some (iv v3), some (iv v4), none] → W p l e rm_X9_lowest s m args below meth c H locs 0 0 Q (F0 m 5 ls []) := by
  intro n; induction n with
  | zero => intros; rename_i hwp _ _; exact hwp.elim
  | succ n ih =>
    intro v0 v1 v2 v3 v4 H locs ls hwp hw hl
    refine r_iload C dX9_lowest_5 hl rfl ?_
    obtain ⟨ra, hT, hF⟩ := hwp
    refine r_if_eq C (tgt := 26) dX9_lowest_7 rfl ra (fun hc => ?_) (fun hc => ?_)
    · have hwp := hT hc
      refine r_iload_n C dX9_lowest_26 hl rfl ?_
      obtain ⟨ra, hT, hF⟩ := hwp
      refine r_if_ne C (tgt := 37) dX9_lowest_27 rfl ra (fun hc => ?_) (fun hc => ?_)
      · have hwp := hT hc
        refine r_iload_n C dX9_lowest_37 hl rfl ?_
        refine r_iload_n C dX9_lowest_38 hl rfl ?_
        obtain ⟨ra, rb, r0, hwp⟩ := hwp
        refine r_idiv C dX9_lowest_39 ra rb r0 ?_
        obtain ⟨ra, hwp⟩ := hwp
        refine r_i2l C dX9_lowest_40 ra ?_
        exact hR _ _ _ _ _ _ dX9_lowest_41 ⟨rfl, hwp⟩ hw
      · have hwp := hF hc
        refine r_iload_n C dX9_lowest_30 hl rfl ?_
        refine r_iload_n C dX9_lowest_31 hl rfl ?_
        obtain ⟨ra, rb, r0, hwp⟩ := hwp
        refine r_idiv C dX9_lowest_32 ra rb r0 ?_
        obtain ⟨ra, hwp⟩ := hwp
        refine r_i2l C dX9_lowest_33 ra ?_
        refine r_goto C (tgt := 41) dX9_lowest_34 rfl ?_
        exact hR _ _ _ _ _ _ dX9_lowest_41 ⟨rfl, hwp⟩ hw
    · have hwp := hF hc
      refine r_iload_n C dX9_lowest_10 hl rfl ?_
      refine r_iload C dX9_lowest_11 hl rfl ?_
      obtain ⟨ra, rb, r0, hwp⟩ := hwp
      refine r_irem C dX9_lowest_13 ra rb r0 ?_
      refine r_istore C dX9_lowest_14 hl (Nat.le_of_ble_eq_true rfl) (Nat.le_of_ble_eq_true rfl) rfl (fun ls hl => ?_)
      refine r_iload C dX9_lowest_16 hl rfl ?_
      refine r_istore_n C dX9_lowest_18 hl (Nat.le_of_ble_eq_true rfl) (Nat.le_of_ble_eq_true rfl) rfl (fun ls hl => ?_)
      refine r_iload C dX9_lowest_19 hl rfl ?_
      refine r_istore C dX9_lowest_21 hl (Nat.le_of_ble_eq_true rfl) (Nat.le_of_ble_eq_true rfl) rfl (fun ls hl => ?_)
      refine r_goto C (tgt := 5) dX9_lowest_23 rfl ?_
      exact ih hwp hw (lh_mask hl [true, true, true, true, true, false])
set_option maxRecDepth 100000 in
theorem b_X9_lowest_0 {σ : St} {post : Int → Prop} (C : cx p s m args meth c wsX9_lowest RX9 cX9_lowest 6 (some .long) D cA) (hA : ∀ q, s.heap.size ≤ q → A q) (hR : RtL p l e rm_X9_lowest s m args below meth c Q cX9_lowest D cA K_0 h A (fun r σ' => σ' = σ ∧ post r)) : ∀ {v0 v1 v2 : Int} {H : Heap} {locs : List Loc} {ls : Array Slot}, wp_X9_lowest v0 v1 v2 post → wd D cA K_0 h σ A s.heap H locs → lh ls 6 [some (iv v0), some (iv v1), some (iv v2), none, none, none] → W p l e rm_X9_lowest s m args below meth c H locs 0 0 Q (F0 m 0 ls []) := by
  intro v0 v1 v2 H locs ls hwp hw hl
  refine r_iload_n C dX9_lowest_0 hl rfl ?_
  refine r_istore_n C dX9_lowest_1 hl (Nat.le_of_ble_eq_true rfl) (Nat.le_of_ble_eq_true rfl) rfl (fun ls hl => ?_)
  refine r_iload_n C dX9_lowest_2 hl rfl ?_
  refine r_istore C dX9_lowest_3 hl (Nat.le_of_ble_eq_true rfl) (Nat.le_of_ble_eq_true rfl) rfl (fun ls hl => ?_)
  obtain ⟨n9, hwp⟩ := hwp
  exact b_X9_lowest_5 C hA hR n9 hwp hw (lh_mask hl [true, true, true, true, true, false])
set_option maxRecDepth 100000 in
theorem c_X9_lowest {l : Launch} {D : va_G} {cA : FieldType → ClassId} {h : Nat → Nat} {σ : St} {sz : Nat} {v0 v1 v2 : Int} {post : Int → Prop} (hwp : wp_X9_lowest v0 v1 v2 post) : Met l yX9_lowest wsX9_lowest rm_X9_lowest (va_Pc [iv v0, iv v1, iv v2] (preS D cA K_0 h σ sz)) (QL D cA K_0 h sz (fun r σ' => σ' = σ ∧ post r)) 0 0 (aA K_0.length h sz) := by
  refine mk_met (cc := cX9_lowest) (nL := 6) (ret := (some .long)) (own := RX9) 3 (by decide) rfl rfl rfl rfl ?_
  intro p e s m args below meth c ls hsz C hw hl hA
  subst hsz
  exact b_X9_lowest_0 C hA (rt_l C _) hwp hw hl
-- X9_odds
theorem hi_X9_odds_X9 : ∀ w ∈ u_ws RX9 TX9 20, w ∈ wsX9_odds := by decide +kernel
theorem hf_X9_odds_129 : Cond.fieldLink RX9 129 (TX9 3).1 (TX9 3).2.1 (TX9 3).2.2.1 ∈ wsX9_odds := by decide +kernel
def rm_X9_odds : Room := { frames := 3, cells := 0, slots := 0, locals := 71 }
set_option maxRecDepth 100000 in
theorem b_X9_odds_25 {post : Int → St → Prop} (C : cx p s m args meth c wsX9_odds RX9 cX9_odds 6 (some .long) D cA) (hA : ∀ q, s.heap.size ≤ q → A q) (hR : RtL p l e rm_X9_odds s m args below meth c Q cX9_odds D cA K_M h A post) : ∀ {σ : St} {H : Heap} {locs : List Loc} {ls : Array Slot}, wp_X9_odds_25 post σ → wd D cA K_M h σ A s.heap H locs → lh ls 6 [none, none, none, none, none, none] → W p l e rm_X9_odds s m args below meth c H locs 0 0 Q (F0 m 25 ls []) := by
  intro σ H locs ls hwp hw hl
  refine r_ldc2 C (n := -9223372036854775808) (by decide +kernel) dX9_odds_25 ?_
  exact hR _ _ _ _ _ _ dX9_odds_28 hwp hw
set_option maxRecDepth 100000 in
theorem b_X9_odds_62 {post : Int → St → Prop} (C : cx p s m args meth c wsX9_odds RX9 cX9_odds 6 (some .long) D cA) (hA : ∀ q, s.heap.size ≤ q → A q) (hR : RtL p l e rm_X9_odds s m args below meth c Q cX9_odds D cA K_M h A post) {k39 : Int → Int → Int → Int → Int → St → Prop} (hk39 : ∀ {v1 v2 v3 v4 v5 : Int} {σ : St} {H : Heap} {locs : List Loc} {ls : Array Slot}, k39 v1 v2 v3 v4 v5 σ → wd D cA K_M h σ A s.heap H locs → lh ls 6 [some (.ref (h 0)), some (iv v1), some (iv v2), some (iv v3), some (iv v4), some (iv v5)] → W p l e rm_X9_odds s m args below meth c H locs 0 0 Q (F0 m 39 ls [])) : ∀ {v1 v2 v3 v4 v5 : Int} {σ : St} {H : Heap} {locs : List Loc} {ls : Array Slot}, wp_X9_odds_62 k39 post v1 v2 v3 v4 v5 σ → wd D cA K_M h σ A s.heap H locs → lh ls 6 [some (.ref (h 0)), some (iv v1), some (iv v2), some (iv v3), some (iv v4), some (iv v5)] → W p l e rm_X9_odds s m args below meth c H locs 0 0 Q (F0 m 62 ls []) := by
  intro v1 v2 v3 v4 v5 σ H locs ls hwp hw hl
  refine r_iinc C dX9_odds_62 hl rfl (Nat.le_of_ble_eq_true rfl) rfl (fun ls hl => ?_)
  refine r_goto C (tgt := 39) dX9_odds_65 rfl ?_
  exact hk39 hwp hw (lh_mask hl [true, true, true, true, true, true])
set_option maxRecDepth 100000 in
theorem b_X9_odds_39 {post : Int → St → Prop} (C : cx p s m args meth c wsX9_odds RX9 cX9_odds 6 (some .long) D cA) (hA : ∀ q, s.heap.size ≤ q → A q) (hR : RtL p l e rm_X9_odds s m args below meth c Q cX9_odds D cA K_M h A post) : ∀ (n : Nat) {v1 v2 v3 v4 v5 : Int} {σ : St} {H : Heap} {locs : List Loc} {ls : Array Slot}, wp_X9_odds_39 post n v1 v2 v3 v4 v5 σ → wd D cA K_M h σ A s.heap H locs → lh ls 6 [some (.ref (h 0)), some (iv v1), some (iv v2), some (iv v3), some (iv v4), some (iv v5)] → W p l e rm_X9_odds s m args below meth c H locs 0 0 Q (F0 m 39 ls []) := by
  intro n; induction n with
  | zero => intros; rename_i hwp _ _; exact hwp.elim
  | succ n ih =>
    intro v1 v2 v3 v4 v5 σ H locs ls hwp hw hl
    refine r_iload C dX9_odds_39 hl rfl ?_
    refine r_aload_n C dX9_odds_41 hl rfl ?_
    refine r_get C hw clX9 0 rfl 3 3 rfl rfl (Nat.le_of_ble_eq_true rfl) hi_X9_odds_X9 hf_X9_odds_129 dX9_odds_42 ?_
    obtain ⟨ra, rb, hT, hF⟩ := hwp
    refine r_icmp_gt C (tgt := 68) dX9_odds_45 rfl ra rb (fun hc => ?_) (fun hc => ?_)
    · have hwp := hT hc
      refine r_iload C dX9_odds_68 hl rfl ?_
      refine r_aload_n C dX9_odds_70 hl rfl ?_
      refine r_get C hw clX9 0 rfl 3 3 rfl rfl (Nat.le_of_ble_eq_true rfl) hi_X9_odds_X9 hf_X9_odds_129 dX9_odds_71 ?_
      refine r_const C dX9_odds_74 ?_
      refine r_iadd C dX9_odds_75 ?_
      refine r_iload_n C dX9_odds_76 hl rfl ?_
      refine r_cLr hA hw sb_M_0_0_36 (run_s C hw sb_M_0_0_36 (c_X9_lowest hwp) (va_cwS 3 C.2.2.2.2.1 gX9_odds_X9_lowest rfl rfl rfl hd_X9_lowest ⟨Nat.le_of_ble_eq_true rfl, Nat.le_of_ble_eq_true rfl⟩) rfl rfl rfl hl dX9_odds_77 ⟨Nat.zero_le _, Nat.zero_le _⟩) (fun r H locs hwp hw => ?_)
      exact hR _ _ _ _ _ _ dX9_odds_80 hwp hw
    · have hwp := hF hc
      refine r_aload_n C dX9_odds_48 hl rfl ?_
      refine r_iload C dX9_odds_49 hl rfl ?_
      refine r_iload_n C dX9_odds_51 hl rfl ?_
      refine r_cIr0 hA hw (run_v0 C hw clX9 rfl (c_X9_place hwp) (cwV 2 C.2.2.2.2.1 gX9_odds_X9_place rfl rfl rfl hd_X9_place ⟨Nat.le_of_ble_eq_true rfl, Nat.le_of_ble_eq_true rfl⟩) rfl rfl rfl hl dX9_odds_52 ⟨Nat.zero_le _, Nat.zero_le _⟩) (fun r H locs hwp hw => ?_)
      refine r_iload_n C dX9_odds_55 hl rfl ?_
      obtain ⟨ra, rb, hT, hF⟩ := hwp
      refine r_icmp_ne C (tgt := 62) dX9_odds_56 rfl ra rb (fun hc => ?_) (fun hc => ?_)
      · have hwp := hT hc
        exact b_X9_odds_62 C hA hR ih hwp hw (lh_mask hl [true, true, true, true, true, true])
      · have hwp := hF hc
        refine r_iinc C dX9_odds_59 hl rfl (Nat.le_of_ble_eq_true rfl) rfl (fun ls hl => ?_)
        exact b_X9_odds_62 C hA hR ih hwp hw (lh_mask hl [true, true, true, true, true, true])
set_option maxRecDepth 100000 in
theorem b_X9_odds_0 {post : Int → St → Prop} (C : cx p s m args meth c wsX9_odds RX9 cX9_odds 6 (some .long) D cA) (hA : ∀ q, s.heap.size ≤ q → A q) (hR : RtL p l e rm_X9_odds s m args below meth c Q cX9_odds D cA K_M h A post) : ∀ {v1 v2 v3 : Int} {σ : St} {H : Heap} {locs : List Loc} {ls : Array Slot}, wp_X9_odds σ v1 v2 v3 post → wd D cA K_M h σ A s.heap H locs → lh ls 6 [some (.ref (h 0)), some (iv v1), some (iv v2), some (iv v3), none, none] → W p l e rm_X9_odds s m args below meth c H locs 0 0 Q (F0 m 0 ls []) := by
  intro v1 v2 v3 σ H locs ls hwp hw hl
  refine r_aload_n C dX9_odds_0 hl rfl ?_
  refine r_iload_n C dX9_odds_1 hl rfl ?_
  refine r_cIr0 hA hw (run_v0 C hw clX9 rfl (c_X9_isPlace hwp) (cwV 1 C.2.2.2.2.1 gX9_odds_X9_isPlace rfl rfl rfl hd_X9_isPlace ⟨Nat.le_of_ble_eq_true rfl, Nat.le_of_ble_eq_true rfl⟩) rfl rfl rfl hl dX9_odds_2 ⟨Nat.zero_le _, Nat.zero_le _⟩) (fun r H locs hwp hw => ?_)
  obtain ⟨ra, hT, hF⟩ := hwp
  refine r_if_eq C (tgt := 25) dX9_odds_5 rfl ra (fun hc => ?_) (fun hc => ?_)
  · have hwp := hT hc
    exact b_X9_odds_25 C hA hR hwp hw (lh_mask hl [false, false, false, false, false, false])
  · have hwp := hF hc
    refine r_aload_n C dX9_odds_8 hl rfl ?_
    refine r_iload_n C dX9_odds_9 hl rfl ?_
    refine r_cIr0 hA hw (run_v0 C hw clX9 rfl (c_X9_isPlace hwp) (cwV 1 C.2.2.2.2.1 gX9_odds_X9_isPlace rfl rfl rfl hd_X9_isPlace ⟨Nat.le_of_ble_eq_true rfl, Nat.le_of_ble_eq_true rfl⟩) rfl rfl rfl hl dX9_odds_10 ⟨Nat.zero_le _, Nat.zero_le _⟩) (fun r H locs hwp hw => ?_)
    obtain ⟨ra, hT, hF⟩ := hwp
    refine r_if_eq C (tgt := 25) dX9_odds_13 rfl ra (fun hc => ?_) (fun hc => ?_)
    · have hwp := hT hc
      exact b_X9_odds_25 C hA hR hwp hw (lh_mask hl [false, false, false, false, false, false])
    · have hwp := hF hc
      refine r_iload_n C dX9_odds_16 hl rfl ?_
      refine r_const C dX9_odds_17 ?_
      refine r_const C dX9_odds_18 ?_
      refine r_cIr hA hw sb_M_0_0_36 (run_s C hw sb_M_0_0_36 (c_X9_within hwp) (va_cwS 3 C.2.2.2.2.1 gX9_odds_X9_within rfl rfl rfl hd_X9_within ⟨Nat.le_of_ble_eq_true rfl, Nat.le_of_ble_eq_true rfl⟩) rfl rfl rfl hl dX9_odds_19 ⟨Nat.zero_le _, Nat.zero_le _⟩) (fun r H locs hwp hw => ?_)
      obtain ⟨ra, hT, hF⟩ := hwp
      refine r_if_ne C (tgt := 29) dX9_odds_22 rfl ra (fun hc => ?_) (fun hc => ?_)
      · have hwp := hT hc
        refine r_aload_n C dX9_odds_29 hl rfl ?_
        refine r_cV0 hA hw (run_v0 C hw clX9 rfl (c_X9_rings hwp) (cwV 0 C.2.2.2.2.1 gX9_odds_X9_rings rfl rfl rfl hd_X9_rings ⟨Nat.le_of_ble_eq_true rfl, Nat.le_of_ble_eq_true rfl⟩) rfl rfl rfl hl dX9_odds_30 ⟨Nat.zero_le _, Nat.zero_le _⟩) (fun σ H locs hwp hw => ?_)
        refine r_const C dX9_odds_33 ?_
        refine r_istore C dX9_odds_34 hl (Nat.le_of_ble_eq_true rfl) (Nat.le_of_ble_eq_true rfl) rfl (fun ls hl => ?_)
        refine r_const C dX9_odds_36 ?_
        refine r_istore C dX9_odds_37 hl (Nat.le_of_ble_eq_true rfl) (Nat.le_of_ble_eq_true rfl) rfl (fun ls hl => ?_)
        obtain ⟨n9, hwp⟩ := hwp
        exact b_X9_odds_39 C hA hR n9 hwp hw (lh_mask hl [true, true, true, true, true, true])
      · have hwp := hF hc
        exact b_X9_odds_25 C hA hR hwp hw (lh_mask hl [false, false, false, false, false, false])
set_option maxRecDepth 100000 in
theorem c_X9_odds {l : Launch} {D : va_G} {cA : FieldType → ClassId} {h : Nat → Nat} {σ : St} {sz : Nat} {v1 v2 v3 : Int} {post : Int → St → Prop} (hwp : wp_X9_odds σ v1 v2 v3 post) : Met l yX9_odds wsX9_odds rm_X9_odds (va_Pc [.ref (h 0), iv v1, iv v2, iv v3] (preS D cA K_M h σ sz)) (QL D cA K_M h sz post) 0 0 (aA K_M.length h sz) := by
  refine mk_met (cc := cX9_odds) (nL := 6) (ret := (some .long)) (own := RX9) 2 (by decide) rfl rfl rfl rfl ?_
  intro p e s m args below meth c ls hsz C hw hl hA
  subst hsz
  exact b_X9_odds_0 C hA (rt_l C _) hwp hw hl
-- X9_mean
theorem hi_X9_mean_X9 : ∀ w ∈ u_ws RX9 TX9 20, w ∈ wsX9_mean := by decide +kernel
theorem hf_X9_mean_129 : Cond.fieldLink RX9 129 (TX9 3).1 (TX9 3).2.1 (TX9 3).2.2.1 ∈ wsX9_mean := by decide +kernel
def rm_X9_mean : Room := { frames := 3, cells := 0, slots := 0, locals := 71 }
set_option maxRecDepth 100000 in
theorem b_X9_mean_21 {post : Int → St → Prop} (C : cx p s m args meth c wsX9_mean RX9 cX9_mean 4 (some .long) D cA) (hA : ∀ q, s.heap.size ≤ q → A q) (hR : RtL p l e rm_X9_mean s m args below meth c Q cX9_mean D cA K_M h A post) : ∀ (n : Nat) {v1 v2 v3 : Int} {σ : St} {H : Heap} {locs : List Loc} {ls : Array Slot}, wp_X9_mean_21 post n v1 v2 v3 σ → wd D cA K_M h σ A s.heap H locs → lh ls 4 [some (.ref (h 0)), some (iv v1), some (iv v2), some (iv v3)] → W p l e rm_X9_mean s m args below meth c H locs 0 0 Q (F0 m 21 ls []) := by
  intro n; induction n with
  | zero => intros; rename_i hwp _ _; exact hwp.elim
  | succ n ih =>
    intro v1 v2 v3 σ H locs ls hwp hw hl
    refine r_iload_n C dX9_mean_21 hl rfl ?_
    refine r_const C dX9_mean_22 ?_
    obtain ⟨ra, hT, hF⟩ := hwp
    refine r_icmp_ge C (tgt := 40) dX9_mean_23 rfl ra (by decide) (fun hc => ?_) (fun hc => ?_)
    · have hwp := hT hc
      refine r_iload_n C dX9_mean_40 hl rfl ?_
      refine r_aload_n C dX9_mean_41 hl rfl ?_
      refine r_get C hw clX9 0 rfl 3 3 rfl rfl (Nat.le_of_ble_eq_true rfl) hi_X9_mean_X9 hf_X9_mean_129 dX9_mean_42 ?_
      refine r_const C dX9_mean_45 ?_
      refine r_iadd C dX9_mean_46 ?_
      refine r_iload_n C dX9_mean_47 hl rfl ?_
      refine r_cLr hA hw sb_M_0_0_36 (run_s C hw sb_M_0_0_36 (c_X9_lowest hwp) (va_cwS 3 C.2.2.2.2.1 gX9_mean_X9_lowest rfl rfl rfl hd_X9_lowest ⟨Nat.le_of_ble_eq_true rfl, Nat.le_of_ble_eq_true rfl⟩) rfl rfl rfl hl dX9_mean_48 ⟨Nat.zero_le _, Nat.zero_le _⟩) (fun r H locs hwp hw => ?_)
      exact hR _ _ _ _ _ _ dX9_mean_51 hwp hw
    · have hwp := hF hc
      refine r_iload_n C dX9_mean_26 hl rfl ?_
      refine r_aload_n C dX9_mean_27 hl rfl ?_
      refine r_iload_n C dX9_mean_28 hl rfl ?_
      refine r_cIr0 hA hw (run_v0 C hw clX9 rfl (c_X9_musicOf hwp) (cwV 1 C.2.2.2.2.1 gX9_mean_X9_musicOf rfl rfl rfl hd_X9_musicOf ⟨Nat.le_of_ble_eq_true rfl, Nat.le_of_ble_eq_true rfl⟩) rfl rfl rfl hl dX9_mean_29 ⟨Nat.zero_le _, Nat.zero_le _⟩) (fun r H locs hwp hw => ?_)
      refine r_iadd C dX9_mean_32 ?_
      refine r_istore_n C dX9_mean_33 hl (Nat.le_of_ble_eq_true rfl) (Nat.le_of_ble_eq_true rfl) rfl (fun ls hl => ?_)
      refine r_iinc C dX9_mean_34 hl rfl (Nat.le_of_ble_eq_true rfl) rfl (fun ls hl => ?_)
      refine r_goto C (tgt := 21) dX9_mean_37 rfl ?_
      exact ih hwp hw (lh_mask hl [true, true, true, true])
set_option maxRecDepth 100000 in
theorem b_X9_mean_0 {post : Int → St → Prop} (C : cx p s m args meth c wsX9_mean RX9 cX9_mean 4 (some .long) D cA) (hA : ∀ q, s.heap.size ≤ q → A q) (hR : RtL p l e rm_X9_mean s m args below meth c Q cX9_mean D cA K_M h A post) : ∀ {v1 : Int} {σ : St} {H : Heap} {locs : List Loc} {ls : Array Slot}, wp_X9_mean σ v1 post → wd D cA K_M h σ A s.heap H locs → lh ls 4 [some (.ref (h 0)), some (iv v1), none, none] → W p l e rm_X9_mean s m args below meth c H locs 0 0 Q (F0 m 0 ls []) := by
  intro v1 σ H locs ls hwp hw hl
  refine r_iload_n C dX9_mean_0 hl rfl ?_
  refine r_const C dX9_mean_1 ?_
  refine r_const C dX9_mean_2 ?_
  refine r_cIr hA hw sb_M_0_0_36 (run_s C hw sb_M_0_0_36 (c_X9_within hwp) (va_cwS 3 C.2.2.2.2.1 gX9_mean_X9_within rfl rfl rfl hd_X9_within ⟨Nat.le_of_ble_eq_true rfl, Nat.le_of_ble_eq_true rfl⟩) rfl rfl rfl hl dX9_mean_3 ⟨Nat.zero_le _, Nat.zero_le _⟩) (fun r H locs hwp hw => ?_)
  obtain ⟨ra, hT, hF⟩ := hwp
  refine r_if_ne C (tgt := 13) dX9_mean_6 rfl ra (fun hc => ?_) (fun hc => ?_)
  · have hwp := hT hc
    refine r_aload_n C dX9_mean_13 hl rfl ?_
    refine r_cV0 hA hw (run_v0 C hw clX9 rfl (c_X9_rings hwp) (cwV 0 C.2.2.2.2.1 gX9_mean_X9_rings rfl rfl rfl hd_X9_rings ⟨Nat.le_of_ble_eq_true rfl, Nat.le_of_ble_eq_true rfl⟩) rfl rfl rfl hl dX9_mean_14 ⟨Nat.zero_le _, Nat.zero_le _⟩) (fun σ H locs hwp hw => ?_)
    refine r_const C dX9_mean_17 ?_
    refine r_istore_n C dX9_mean_18 hl (Nat.le_of_ble_eq_true rfl) (Nat.le_of_ble_eq_true rfl) rfl (fun ls hl => ?_)
    refine r_const C dX9_mean_19 ?_
    refine r_istore_n C dX9_mean_20 hl (Nat.le_of_ble_eq_true rfl) (Nat.le_of_ble_eq_true rfl) rfl (fun ls hl => ?_)
    obtain ⟨n9, hwp⟩ := hwp
    exact b_X9_mean_21 C hA hR n9 hwp hw (lh_mask hl [true, true, true, true])
  · have hwp := hF hc
    refine r_ldc2 C (n := -9223372036854775808) (by decide +kernel) dX9_mean_9 ?_
    exact hR _ _ _ _ _ _ dX9_mean_12 hwp hw
set_option maxRecDepth 100000 in
theorem c_X9_mean {l : Launch} {D : va_G} {cA : FieldType → ClassId} {h : Nat → Nat} {σ : St} {sz : Nat} {v1 : Int} {post : Int → St → Prop} (hwp : wp_X9_mean σ v1 post) : Met l yX9_mean wsX9_mean rm_X9_mean (va_Pc [.ref (h 0), iv v1] (preS D cA K_M h σ sz)) (QL D cA K_M h sz post) 0 0 (aA K_M.length h sz) := by
  refine mk_met (cc := cX9_mean) (nL := 4) (ret := (some .long)) (own := RX9) 2 (by decide) rfl rfl rfl rfl ?_
  intro p e s m args below meth c ls hsz C hw hl hA
  subst hsz
  exact b_X9_mean_0 C hA (rt_l C _) hwp hw hl
-- X9_event
theorem hi_X9_event_X9 : ∀ w ∈ u_ws RX9 TX9 20, w ∈ wsX9_event := by decide +kernel
theorem hf_X9_event_9 : Cond.fieldLink RX9 9 (TX9 0).1 (TX9 0).2.1 (TX9 0).2.2.1 ∈ wsX9_event := by decide +kernel
def rm_X9_event : Room := { frames := 1, cells := 0, slots := 0, locals := 22 }
set_option maxRecDepth 100000 in
theorem b_X9_event_74 {post : Int → St → Prop} (C : cx p s m args meth c wsX9_event RX9 cX9_event 3 (some .int) D cA) (hA : ∀ q, s.heap.size ≤ q → A q) (hR : RtI p l e rm_X9_event s m args below meth c Q cX9_event D cA K_M h A (fun _ => True) post) : ∀ {v1 v2 : Int} {σ : St} {H : Heap} {locs : List Loc} {ls : Array Slot}, wp_X9_event_74 post v1 v2 σ → wd D cA K_M h σ A s.heap H locs → lh ls 3 [some (.ref (h 0)), some (iv v1), some (iv v2)] → W p l e rm_X9_event s m args below meth c H locs 0 0 Q (F0 m 74 ls []) := by
  intro v1 v2 σ H locs ls hwp hw hl
  refine r_aload_n C dX9_event_74 hl rfl ?_
  refine r_getr C hw clX9 0 rfl 0 1 rfl (Nat.le_of_ble_eq_true rfl) hi_X9_event_X9 hf_X9_event_9 dX9_event_75 ?_
  refine r_bipush C dX9_event_78 bpb_6 ?_
  refine r_iald C hw 1 rfl rfl (by decide) (by decide) dX9_event_80 ?_
  refine r_bipush C dX9_event_81 bpb_8 ?_
  obtain ⟨ra, hT, hF⟩ := hwp
  refine r_icmp_ne C (tgt := 89) dX9_event_83 rfl ra (by decide) (fun hc => ?_) (fun hc => ?_)
  · have hwp := hT hc
    refine r_aload_n C dX9_event_89 hl rfl ?_
    refine r_getr C hw clX9 0 rfl 0 1 rfl (Nat.le_of_ble_eq_true rfl) hi_X9_event_X9 hf_X9_event_9 dX9_event_90 ?_
    refine r_bipush C dX9_event_93 bpb_59 ?_
    refine r_const C dX9_event_95 ?_
    refine r_aload_n C dX9_event_96 hl rfl ?_
    refine r_getr C hw clX9 0 rfl 0 1 rfl (Nat.le_of_ble_eq_true rfl) hi_X9_event_X9 hf_X9_event_9 dX9_event_97 ?_
    refine r_bipush C dX9_event_100 bpb_6 ?_
    refine r_iald C hw 1 rfl rfl (by decide) (by decide) dX9_event_102 ?_
    refine r_imul C dX9_event_103 ?_
    refine r_iadd C dX9_event_104 ?_
    refine r_iload_n C dX9_event_105 hl rfl ?_
    obtain ⟨h0, h1, hwp⟩ := hwp
    refine r_iast C hw 1 rfl rfl h0 h1 dX9_event_106 (fun H locs hw => ?_)
    have hwp := hwp _ rfl
    refine r_aload_n C dX9_event_107 hl rfl ?_
    refine r_getr C hw clX9 0 rfl 0 1 rfl (Nat.le_of_ble_eq_true rfl) hi_X9_event_X9 hf_X9_event_9 dX9_event_108 ?_
    refine r_bipush C dX9_event_111 bpb_59 ?_
    refine r_const C dX9_event_113 ?_
    refine r_aload_n C dX9_event_114 hl rfl ?_
    refine r_getr C hw clX9 0 rfl 0 1 rfl (Nat.le_of_ble_eq_true rfl) hi_X9_event_X9 hf_X9_event_9 dX9_event_115 ?_
    refine r_bipush C dX9_event_118 bpb_6 ?_
    refine r_iald C hw 1 rfl rfl (by decide) (by decide) dX9_event_120 ?_
    refine r_imul C dX9_event_121 ?_
    refine r_iadd C dX9_event_122 ?_
    refine r_const C dX9_event_123 ?_
    refine r_iadd C dX9_event_124 ?_
    refine r_iload_n C dX9_event_125 hl rfl ?_
    obtain ⟨h0, h1, hwp⟩ := hwp
    refine r_iast C hw 1 rfl rfl h0 h1 dX9_event_126 (fun H locs hw => ?_)
    have hwp := hwp _ rfl
    refine r_aload_n C dX9_event_127 hl rfl ?_
    refine r_getr C hw clX9 0 rfl 0 1 rfl (Nat.le_of_ble_eq_true rfl) hi_X9_event_X9 hf_X9_event_9 dX9_event_128 ?_
    refine r_bipush C dX9_event_131 bpb_6 ?_
    refine r_dup2 C dX9_event_133 rfl rfl ?_
    refine r_iald C hw 1 rfl rfl (by decide) (by decide) dX9_event_134 ?_
    refine r_const C dX9_event_135 ?_
    refine r_iadd C dX9_event_136 ?_
    refine r_dup_x2 C dX9_event_137 rfl rfl rfl ?_
    refine r_iast C hw 1 rfl rfl (by decide) (by decide) dX9_event_138 (fun H locs hw => ?_)
    have hwp := hwp _ rfl
    exact hR _ _ _ _ _ _ dX9_event_139 trivial hwp hw
  · have hwp := hF hc
    refine r_bipush C dX9_event_86 bpb_m4 ?_
    exact hR _ _ _ _ _ _ dX9_event_88 trivial hwp hw
set_option maxRecDepth 100000 in
theorem b_X9_event_56 {post : Int → St → Prop} (C : cx p s m args meth c wsX9_event RX9 cX9_event 3 (some .int) D cA) (hA : ∀ q, s.heap.size ≤ q → A q) (hR : RtI p l e rm_X9_event s m args below meth c Q cX9_event D cA K_M h A (fun _ => True) post) : ∀ {v1 v2 : Int} {σ : St} {H : Heap} {locs : List Loc} {ls : Array Slot}, wp_X9_event_56 post v1 v2 σ → wd D cA K_M h σ A s.heap H locs → lh ls 3 [some (.ref (h 0)), some (iv v1), some (iv v2)] → W p l e rm_X9_event s m args below meth c H locs 0 0 Q (F0 m 56 ls []) := by
  intro v1 v2 σ H locs ls hwp hw hl
  refine r_iload_n C dX9_event_56 hl rfl ?_
  refine r_const C dX9_event_57 ?_
  obtain ⟨ra, hT, hF⟩ := hwp
  refine r_icmp_ne C (tgt := 74) dX9_event_58 rfl ra (by decide) (fun hc => ?_) (fun hc => ?_)
  · have hwp := hT hc
    exact b_X9_event_74 C hA hR hwp hw (lh_mask hl [true, true, true])
  · have hwp := hF hc
    refine r_iload_n C dX9_event_61 hl rfl ?_
    refine r_const C dX9_event_62 ?_
    refine r_bipush C dX9_event_63 bpb_12 ?_
    refine r_cIr hA hw sb_M_0_0_36 (run_s C hw sb_M_0_0_36 (c_X9_within hwp) (va_cwS 3 C.2.2.2.2.1 gX9_event_X9_within rfl rfl rfl hd_X9_within ⟨Nat.le_of_ble_eq_true rfl, Nat.le_of_ble_eq_true rfl⟩) rfl rfl rfl hl dX9_event_65 ⟨Nat.zero_le _, Nat.zero_le _⟩) (fun r H locs hwp hw => ?_)
    obtain ⟨ra, hT, hF⟩ := hwp
    refine r_if_ne C (tgt := 74) dX9_event_68 rfl ra (fun hc => ?_) (fun hc => ?_)
    · have hwp := hT hc
      exact b_X9_event_74 C hA hR hwp hw (lh_mask hl [true, true, true])
    · have hwp := hF hc
      refine r_bipush C dX9_event_71 bpb_m2 ?_
      exact hR _ _ _ _ _ _ dX9_event_73 trivial hwp hw
set_option maxRecDepth 100000 in
theorem b_X9_event_41 {post : Int → St → Prop} (C : cx p s m args meth c wsX9_event RX9 cX9_event 3 (some .int) D cA) (hA : ∀ q, s.heap.size ≤ q → A q) (hR : RtI p l e rm_X9_event s m args below meth c Q cX9_event D cA K_M h A (fun _ => True) post) : ∀ {v1 v2 : Int} {σ : St} {H : Heap} {locs : List Loc} {ls : Array Slot}, wp_X9_event_41 post v1 v2 σ → wd D cA K_M h σ A s.heap H locs → lh ls 3 [some (.ref (h 0)), some (iv v1), some (iv v2)] → W p l e rm_X9_event s m args below meth c H locs 0 0 Q (F0 m 41 ls []) := by
  intro v1 v2 σ H locs ls hwp hw hl
  refine r_iload_n C dX9_event_41 hl rfl ?_
  refine r_const C dX9_event_42 ?_
  obtain ⟨ra, hT, hF⟩ := hwp
  refine r_icmp_ne C (tgt := 56) dX9_event_43 rfl ra (by decide) (fun hc => ?_) (fun hc => ?_)
  · have hwp := hT hc
    exact b_X9_event_56 C hA hR hwp hw (lh_mask hl [true, true, true])
  · have hwp := hF hc
    refine r_iload_n C dX9_event_46 hl rfl ?_
    refine r_const C dX9_event_47 ?_
    refine r_bipush C dX9_event_48 bpb_16 ?_
    refine r_cIr hA hw sb_M_0_0_36 (run_s C hw sb_M_0_0_36 (c_X9_within hwp) (va_cwS 3 C.2.2.2.2.1 gX9_event_X9_within rfl rfl rfl hd_X9_within ⟨Nat.le_of_ble_eq_true rfl, Nat.le_of_ble_eq_true rfl⟩) rfl rfl rfl hl dX9_event_50 ⟨Nat.zero_le _, Nat.zero_le _⟩) (fun r H locs hwp hw => ?_)
    obtain ⟨ra, hT, hF⟩ := hwp
    refine r_if_eq C (tgt := 71) dX9_event_53 rfl ra (fun hc => ?_) (fun hc => ?_)
    · have hwp := hT hc
      refine r_bipush C dX9_event_71 bpb_m2 ?_
      exact hR _ _ _ _ _ _ dX9_event_73 trivial hwp hw
    · have hwp := hF hc
      exact b_X9_event_56 C hA hR hwp hw (lh_mask hl [true, true, true])
set_option maxRecDepth 100000 in
theorem b_X9_event_0 {post : Int → St → Prop} (C : cx p s m args meth c wsX9_event RX9 cX9_event 3 (some .int) D cA) (hA : ∀ q, s.heap.size ≤ q → A q) (hR : RtI p l e rm_X9_event s m args below meth c Q cX9_event D cA K_M h A (fun _ => True) post) : ∀ {v1 v2 : Int} {σ : St} {H : Heap} {locs : List Loc} {ls : Array Slot}, wp_X9_event σ v1 v2 post → wd D cA K_M h σ A s.heap H locs → lh ls 3 [some (.ref (h 0)), some (iv v1), some (iv v2)] → W p l e rm_X9_event s m args below meth c H locs 0 0 Q (F0 m 0 ls []) := by
  intro v1 v2 σ H locs ls hwp hw hl
  refine r_iload_n C dX9_event_0 hl rfl ?_
  refine r_const C dX9_event_1 ?_
  obtain ⟨ra, hT, hF⟩ := hwp
  refine r_icmp_ne C (tgt := 15) dX9_event_2 rfl ra (by decide) (fun hc => ?_) (fun hc => ?_)
  · have hwp := hT hc
    refine r_iload_n C dX9_event_15 hl rfl ?_
    refine r_const C dX9_event_16 ?_
    refine r_const C dX9_event_17 ?_
    refine r_cIr hA hw sb_M_0_0_36 (run_s C hw sb_M_0_0_36 (c_X9_within hwp) (va_cwS 3 C.2.2.2.2.1 gX9_event_X9_within rfl rfl rfl hd_X9_within ⟨Nat.le_of_ble_eq_true rfl, Nat.le_of_ble_eq_true rfl⟩) rfl rfl rfl hl dX9_event_18 ⟨Nat.zero_le _, Nat.zero_le _⟩) (fun r H locs hwp hw => ?_)
    obtain ⟨ra, hT, hF⟩ := hwp
    refine r_if_eq C (tgt := 39) dX9_event_21 rfl ra (fun hc => ?_) (fun hc => ?_)
    · have hwp := hT hc
      refine r_const C dX9_event_39 ?_
      exact hR _ _ _ _ _ _ dX9_event_40 trivial hwp hw
    · have hwp := hF hc
      refine r_iload_n C dX9_event_24 hl rfl ?_
      refine r_const C dX9_event_25 ?_
      obtain ⟨ra, hT, hF⟩ := hwp
      refine r_icmp_ge C (tgt := 41) dX9_event_26 rfl ra (by decide) (fun hc => ?_) (fun hc => ?_)
      · have hwp := hT hc
        exact b_X9_event_41 C hA hR hwp hw (lh_mask hl [true, true, true])
      · have hwp := hF hc
        refine r_iload_n C dX9_event_29 hl rfl ?_
        refine r_const C dX9_event_30 ?_
        refine r_bipush C dX9_event_31 bpb_11 ?_
        refine r_cIr hA hw sb_M_0_0_36 (run_s C hw sb_M_0_0_36 (c_X9_within hwp) (va_cwS 3 C.2.2.2.2.1 gX9_event_X9_within rfl rfl rfl hd_X9_within ⟨Nat.le_of_ble_eq_true rfl, Nat.le_of_ble_eq_true rfl⟩) rfl rfl rfl hl dX9_event_33 ⟨Nat.zero_le _, Nat.zero_le _⟩) (fun r H locs hwp hw => ?_)
        obtain ⟨ra, hT, hF⟩ := hwp
        refine r_if_ne C (tgt := 41) dX9_event_36 rfl ra (fun hc => ?_) (fun hc => ?_)
        · have hwp := hT hc
          exact b_X9_event_41 C hA hR hwp hw (lh_mask hl [true, true, true])
        · have hwp := hF hc
          refine r_const C dX9_event_39 ?_
          exact hR _ _ _ _ _ _ dX9_event_40 trivial hwp hw
  · have hwp := hF hc
    refine r_aload_n C dX9_event_5 hl rfl ?_
    refine r_getr C hw clX9 0 rfl 0 1 rfl (Nat.le_of_ble_eq_true rfl) hi_X9_event_X9 hf_X9_event_9 dX9_event_6 ?_
    refine r_bipush C dX9_event_9 bpb_6 ?_
    refine r_const C dX9_event_11 ?_
    refine r_iast C hw 1 rfl rfl (by decide) (by decide) dX9_event_12 (fun H locs hw => ?_)
    have hwp := hwp _ rfl
    refine r_const C dX9_event_13 ?_
    exact hR _ _ _ _ _ _ dX9_event_14 trivial hwp hw
set_option maxRecDepth 100000 in
theorem c_X9_event {l : Launch} {D : va_G} {cA : FieldType → ClassId} {h : Nat → Nat} {σ : St} {sz : Nat} {v1 v2 : Int} {post : Int → St → Prop} (hwp : wp_X9_event σ v1 v2 post) : Met l yX9_event wsX9_event rm_X9_event (va_Pc [.ref (h 0), iv v1, iv v2] (preS D cA K_M h σ sz)) (QI D cA K_M h sz post) 0 0 (aA K_M.length h sz) := by
  refine mk_met (cc := cX9_event) (nL := 3) (ret := (some .int)) (own := RX9) 0 (by decide) rfl rfl rfl rfl ?_
  intro p e s m args below meth c ls hsz C hw hl hA
  subst hsz
  exact b_X9_event_0 C hA (rt_i C _) hwp hw hl
-- X9_after
theorem hi_X9_after_X9 : ∀ w ∈ u_ws RX9 TX9 20, w ∈ wsX9_after := by decide +kernel
theorem hf_X9_after_9 : Cond.fieldLink RX9 9 (TX9 0).1 (TX9 0).2.1 (TX9 0).2.2.1 ∈ wsX9_after := by decide +kernel
def rm_X9_after : Room := { frames := 3, cells := 0, slots := 0, locals := 100 }
set_option maxRecDepth 100000 in
theorem b_X9_after_242 {post : Int → St → Prop} (C : cx p s m args meth c wsX9_after RX9 cX9_after 7 (some .int) D cA) (hA : ∀ q, s.heap.size ≤ q → A q) (hR : RtI p l e rm_X9_after s m args below meth c Q cX9_after D cA K_M h A (fun _ => True) post) : ∀ (n : Nat) {v4 v5 v6 : Int} {σ : St} {H : Heap} {locs : List Loc} {ls : Array Slot}, wp_X9_after_242 post n v4 v5 v6 σ → wd D cA K_M h σ A s.heap H locs → lh ls 7 [some (.ref (h 0)), none, none, none, some (iv v4), some (iv v5), some (iv v6)] → W p l e rm_X9_after s m args below meth c H locs 0 0 Q (F0 m 242 ls []) := by
  intro n; induction n with
  | zero => intros; rename_i hwp _ _; exact hwp.elim
  | succ n ih =>
    intro v4 v5 v6 σ H locs ls hwp hw hl
    refine r_iload C dX9_after_242 hl rfl ?_
    refine r_bipush C dX9_after_244 bpb_12 ?_
    obtain ⟨ra, hT, hF⟩ := hwp
    refine r_icmp_ge C (tgt := 275) dX9_after_246 rfl ra (by decide) (fun hc => ?_) (fun hc => ?_)
    · have hwp := hT hc
      refine r_iload C dX9_after_275 hl rfl ?_
      exact hR _ _ _ _ _ _ dX9_after_277 trivial hwp hw
    · have hwp := hF hc
      refine r_aload_n C dX9_after_249 hl rfl ?_
      refine r_getr C hw clX9 0 rfl 0 1 rfl (Nat.le_of_ble_eq_true rfl) hi_X9_after_X9 hf_X9_after_9 dX9_after_250 ?_
      refine r_bipush C dX9_after_253 bpb_24 ?_
      refine r_iload C dX9_after_255 hl rfl ?_
      refine r_iadd C dX9_after_257 ?_
      refine r_iload C dX9_after_258 hl rfl ?_
      refine r_const C dX9_after_260 ?_
      obtain ⟨ra, hwp⟩ := hwp
      refine r_irem C dX9_after_261 ra (by decide) (by decide) ?_
      obtain ⟨h0, h1, hwp⟩ := hwp
      refine r_iast C hw 1 rfl rfl h0 h1 dX9_after_262 (fun H locs hw => ?_)
      have hwp := hwp _ rfl
      refine r_iload C dX9_after_263 hl rfl ?_
      refine r_const C dX9_after_265 ?_
      obtain ⟨ra, hwp⟩ := hwp
      refine r_idiv C dX9_after_266 ra (by decide) (by decide) ?_
      refine r_istore C dX9_after_267 hl (Nat.le_of_ble_eq_true rfl) (Nat.le_of_ble_eq_true rfl) rfl (fun ls hl => ?_)
      refine r_iinc C dX9_after_269 hl rfl (Nat.le_of_ble_eq_true rfl) rfl (fun ls hl => ?_)
      refine r_goto C (tgt := 242) dX9_after_272 rfl ?_
      exact ih hwp hw (lh_mask hl [true, false, false, false, true, true, true])
set_option maxRecDepth 100000 in
theorem b_X9_after_223 {post : Int → St → Prop} (C : cx p s m args meth c wsX9_after RX9 cX9_after 7 (some .int) D cA) (hA : ∀ q, s.heap.size ≤ q → A q) (hR : RtI p l e rm_X9_after s m args below meth c Q cX9_after D cA K_M h A (fun _ => True) post) : ∀ {v2 v3 v4 s0 : Int} {σ : St} {H : Heap} {locs : List Loc} {ls : Array Slot}, wp_X9_after_223 post v2 v3 v4 s0 σ → wd D cA K_M h σ A s.heap H locs → lh ls 7 [some (.ref (h 0)), none, some (iv v2), some (iv v3), some (iv v4), none, none] → W p l e rm_X9_after s m args below meth c H locs 0 0 Q (F0 m 223 ls [iv s0]) := by
  intro v2 v3 v4 s0 σ H locs ls hwp hw hl
  refine r_istore C dX9_after_223 hl (Nat.le_of_ble_eq_true rfl) (Nat.le_of_ble_eq_true rfl) rfl (fun ls hl => ?_)
  refine r_aload_n C dX9_after_225 hl rfl ?_
  refine r_getr C hw clX9 0 rfl 0 1 rfl (Nat.le_of_ble_eq_true rfl) hi_X9_after_X9 hf_X9_after_9 dX9_after_226 ?_
  refine r_const C dX9_after_229 ?_
  refine r_iload_n C dX9_after_230 hl rfl ?_
  refine r_iast C hw 1 rfl rfl (by decide) (by decide) dX9_after_231 (fun H locs hw => ?_)
  have hwp := hwp _ rfl
  refine r_aload_n C dX9_after_232 hl rfl ?_
  refine r_getr C hw clX9 0 rfl 0 1 rfl (Nat.le_of_ble_eq_true rfl) hi_X9_after_X9 hf_X9_after_9 dX9_after_233 ?_
  refine r_const C dX9_after_236 ?_
  refine r_iload_n C dX9_after_237 hl rfl ?_
  refine r_iast C hw 1 rfl rfl (by decide) (by decide) dX9_after_238 (fun H locs hw => ?_)
  have hwp := hwp _ rfl
  refine r_const C dX9_after_239 ?_
  refine r_istore C dX9_after_240 hl (Nat.le_of_ble_eq_true rfl) (Nat.le_of_ble_eq_true rfl) rfl (fun ls hl => ?_)
  obtain ⟨n9, hwp⟩ := hwp
  exact b_X9_after_242 C hA hR n9 hwp hw (lh_mask hl [true, false, false, false, true, true, true])
set_option maxRecDepth 100000 in
theorem b_X9_after_186 {post : Int → St → Prop} (C : cx p s m args meth c wsX9_after RX9 cX9_after 7 (some .int) D cA) (hA : ∀ q, s.heap.size ≤ q → A q) (hR : RtI p l e rm_X9_after s m args below meth c Q cX9_after D cA K_M h A (fun _ => True) post) {k63 : Int → Int → Int → Int → Int → St → Prop} (hk63 : ∀ {v1 v2 v3 v4 v5 : Int} {σ : St} {H : Heap} {locs : List Loc} {ls : Array Slot}, k63 v1 v2 v3 v4 v5 σ → wd D cA K_M h σ A s.heap H locs → lh ls 7 [some (.ref (h 0)), some (iv v1), some (iv v2), some (iv v3), some (iv v4), some (iv v5), none] → W p l e rm_X9_after s m args below meth c H locs 0 0 Q (F0 m 63 ls [])) : ∀ {v1 v2 v3 v4 v5 : Int} {σ : St} {H : Heap} {locs : List Loc} {ls : Array Slot}, wp_X9_after_186 k63 post v1 v2 v3 v4 v5 σ → wd D cA K_M h σ A s.heap H locs → lh ls 7 [some (.ref (h 0)), some (iv v1), some (iv v2), some (iv v3), some (iv v4), some (iv v5), none] → W p l e rm_X9_after s m args below meth c H locs 0 0 Q (F0 m 186 ls []) := by
  intro v1 v2 v3 v4 v5 σ H locs ls hwp hw hl
  refine r_iinc C dX9_after_186 hl rfl (Nat.le_of_ble_eq_true rfl) rfl (fun ls hl => ?_)
  refine r_goto C (tgt := 63) dX9_after_189 rfl ?_
  exact hk63 hwp hw (lh_mask hl [true, true, true, true, true, true, false])
set_option maxRecDepth 100000 in
theorem b_X9_after_63 {post : Int → St → Prop} (C : cx p s m args meth c wsX9_after RX9 cX9_after 7 (some .int) D cA) (hA : ∀ q, s.heap.size ≤ q → A q) (hR : RtI p l e rm_X9_after s m args below meth c Q cX9_after D cA K_M h A (fun _ => True) post) : ∀ (n : Nat) {v1 v2 v3 v4 v5 : Int} {σ : St} {H : Heap} {locs : List Loc} {ls : Array Slot}, wp_X9_after_63 post n v1 v2 v3 v4 v5 σ → wd D cA K_M h σ A s.heap H locs → lh ls 7 [some (.ref (h 0)), some (iv v1), some (iv v2), some (iv v3), some (iv v4), some (iv v5), none] → W p l e rm_X9_after s m args below meth c H locs 0 0 Q (F0 m 63 ls []) := by
  intro n; induction n with
  | zero => intros; rename_i hwp _ _; exact hwp.elim
  | succ n ih =>
    intro v1 v2 v3 v4 v5 σ H locs ls hwp hw hl
    refine r_iload C dX9_after_63 hl rfl ?_
    refine r_aload_n C dX9_after_65 hl rfl ?_
    refine r_getr C hw clX9 0 rfl 0 1 rfl (Nat.le_of_ble_eq_true rfl) hi_X9_after_X9 hf_X9_after_9 dX9_after_66 ?_
    refine r_bipush C dX9_after_69 bpb_6 ?_
    refine r_iald C hw 1 rfl rfl (by decide) (by decide) dX9_after_71 ?_
    obtain ⟨ra, rb, hT, hF⟩ := hwp
    refine r_icmp_ge C (tgt := 192) dX9_after_72 rfl ra rb (fun hc => ?_) (fun hc => ?_)
    · have hwp := hT hc
      refine r_aload_n C dX9_after_192 hl rfl ?_
      refine r_cV0 hA hw (run_v0 C hw clX9 rfl (c_X9_rings hwp) (cwV 0 C.2.2.2.2.1 gX9_after_X9_rings rfl rfl rfl hd_X9_rings ⟨Nat.le_of_ble_eq_true rfl, Nat.le_of_ble_eq_true rfl⟩) rfl rfl rfl hl dX9_after_193 ⟨Nat.zero_le _, Nat.zero_le _⟩) (fun σ H locs hwp hw => ?_)
      refine r_iload_n C dX9_after_196 hl rfl ?_
      obtain ⟨ra, hT, hF⟩ := hwp
      refine r_if_ne C (tgt := 207) dX9_after_197 rfl ra (fun hc => ?_) (fun hc => ?_)
      · have hwp := hT hc
        refine r_iload_n C dX9_after_207 hl rfl ?_
        refine r_const C dX9_after_208 ?_
        obtain ⟨ra, hT, hF⟩ := hwp
        refine r_icmp_ne C (tgt := 219) dX9_after_209 rfl ra (by decide) (fun hc => ?_) (fun hc => ?_)
        · have hwp := hT hc
          refine r_aload_n C dX9_after_219 hl rfl ?_
          refine r_cIr0 hA hw (run_v0 C hw clX9 rfl (c_X9_isTrue hwp) (cwV 0 C.2.2.2.2.1 gX9_after_X9_isTrue rfl rfl rfl hd_X9_isTrue ⟨Nat.le_of_ble_eq_true rfl, Nat.le_of_ble_eq_true rfl⟩) rfl rfl rfl hl dX9_after_220 ⟨Nat.zero_le _, Nat.zero_le _⟩) (fun r H locs hwp hw => ?_)
          exact b_X9_after_223 C hA hR hwp hw (lh_mask hl [true, false, true, true, true, false, false])
        · have hwp := hF hc
          refine r_aload_n C dX9_after_212 hl rfl ?_
          refine r_cIr0 hA hw (run_v0 C hw clX9 rfl (c_X9_wrongRow hwp) (cwV 0 C.2.2.2.2.1 gX9_after_X9_wrongRow rfl rfl rfl hd_X9_wrongRow ⟨Nat.le_of_ble_eq_true rfl, Nat.le_of_ble_eq_true rfl⟩) rfl rfl rfl hl dX9_after_213 ⟨Nat.zero_le _, Nat.zero_le _⟩) (fun r H locs hwp hw => ?_)
          refine r_goto C (tgt := 223) dX9_after_216 rfl ?_
          exact b_X9_after_223 C hA hR hwp hw (lh_mask hl [true, false, true, true, true, false, false])
      · have hwp := hF hc
        refine r_aload_n C dX9_after_200 hl rfl ?_
        refine r_cIr0 hA hw (run_v0 C hw clX9 rfl (c_X9_round hwp) (cwV 0 C.2.2.2.2.1 gX9_after_X9_round rfl rfl rfl hd_X9_round ⟨Nat.le_of_ble_eq_true rfl, Nat.le_of_ble_eq_true rfl⟩) rfl rfl rfl hl dX9_after_201 ⟨Nat.zero_le _, Nat.zero_le _⟩) (fun r H locs hwp hw => ?_)
        refine r_goto C (tgt := 223) dX9_after_204 rfl ?_
        exact b_X9_after_223 C hA hR hwp hw (lh_mask hl [true, false, true, true, true, false, false])
    · have hwp := hF hc
      refine r_aload_n C dX9_after_75 hl rfl ?_
      refine r_getr C hw clX9 0 rfl 0 1 rfl (Nat.le_of_ble_eq_true rfl) hi_X9_after_X9 hf_X9_after_9 dX9_after_76 ?_
      refine r_bipush C dX9_after_79 bpb_59 ?_
      refine r_const C dX9_after_81 ?_
      refine r_iload C dX9_after_82 hl rfl ?_
      refine r_imul C dX9_after_84 ?_
      refine r_iadd C dX9_after_85 ?_
      refine r_const C dX9_after_86 ?_
      refine r_iadd C dX9_after_87 ?_
      obtain ⟨h0, h1, hwp⟩ := hwp
      refine r_iald C hw 1 rfl rfl h0 h1 dX9_after_88 ?_
      refine r_istore C dX9_after_89 hl (Nat.le_of_ble_eq_true rfl) (Nat.le_of_ble_eq_true rfl) rfl (fun ls hl => ?_)
      refine r_aload_n C dX9_after_91 hl rfl ?_
      refine r_getr C hw clX9 0 rfl 0 1 rfl (Nat.le_of_ble_eq_true rfl) hi_X9_after_X9 hf_X9_after_9 dX9_after_92 ?_
      refine r_bipush C dX9_after_95 bpb_59 ?_
      refine r_const C dX9_after_97 ?_
      refine r_iload C dX9_after_98 hl rfl ?_
      refine r_imul C dX9_after_100 ?_
      refine r_iadd C dX9_after_101 ?_
      obtain ⟨h0, h1, hwp⟩ := hwp
      refine r_iald C hw 1 rfl rfl h0 h1 dX9_after_102 ?_
      obtain ⟨ra, hS0, hS1, hS2, hD⟩ := hwp
      rcases sw_0_2 ra with hc | hc | hc | hc
      · have hwp := hS0 hc
        refine r_tin C (tgt := 128) dX9_after_103 ra 0 hc (by decide) (by decide) rfl rfl ?_
        refine r_aload_n C dX9_after_128 hl rfl ?_
        refine r_getr C hw clX9 0 rfl 0 1 rfl (Nat.le_of_ble_eq_true rfl) hi_X9_after_X9 hf_X9_after_9 dX9_after_129 ?_
        refine r_bipush C dX9_after_132 bpb_24 ?_
        refine r_iload C dX9_after_134 hl rfl ?_
        refine r_iadd C dX9_after_136 ?_
        refine r_const C dX9_after_137 ?_
        obtain ⟨h0, h1, hwp⟩ := hwp
        refine r_iast C hw 1 rfl rfl h0 h1 dX9_after_138 (fun H locs hw => ?_)
        have hwp := hwp _ rfl
        refine r_goto C (tgt := 186) dX9_after_139 rfl ?_
        exact b_X9_after_186 C hA hR ih hwp hw (lh_mask hl [true, true, true, true, true, true, false])
      · have hwp := hS1 hc
        refine r_tin C (tgt := 142) dX9_after_103 ra 1 hc (by decide) (by decide) rfl rfl ?_
        refine r_aload_n C dX9_after_142 hl rfl ?_
        refine r_getr C hw clX9 0 rfl 0 1 rfl (Nat.le_of_ble_eq_true rfl) hi_X9_after_X9 hf_X9_after_9 dX9_after_143 ?_
        refine r_bipush C dX9_after_146 bpb_24 ?_
        refine r_iload C dX9_after_148 hl rfl ?_
        refine r_iadd C dX9_after_150 ?_
        refine r_const C dX9_after_151 ?_
        obtain ⟨h0, h1, hwp⟩ := hwp
        refine r_iast C hw 1 rfl rfl h0 h1 dX9_after_152 (fun H locs hw => ?_)
        have hwp := hwp _ rfl
        refine r_goto C (tgt := 186) dX9_after_153 rfl ?_
        exact b_X9_after_186 C hA hR ih hwp hw (lh_mask hl [true, true, true, true, true, true, false])
      · have hwp := hS2 hc
        refine r_tin C (tgt := 156) dX9_after_103 ra 2 hc (by decide) (by decide) rfl rfl ?_
        refine r_aload_n C dX9_after_156 hl rfl ?_
        refine r_getr C hw clX9 0 rfl 0 1 rfl (Nat.le_of_ble_eq_true rfl) hi_X9_after_X9 hf_X9_after_9 dX9_after_157 ?_
        refine r_const C dX9_after_160 ?_
        refine r_const C dX9_after_161 ?_
        refine r_aload_n C dX9_after_162 hl rfl ?_
        refine r_getr C hw clX9 0 rfl 0 1 rfl (Nat.le_of_ble_eq_true rfl) hi_X9_after_X9 hf_X9_after_9 dX9_after_163 ?_
        refine r_const C dX9_after_166 ?_
        refine r_iald C hw 1 rfl rfl (by decide) (by decide) dX9_after_167 ?_
        refine r_iload C dX9_after_168 hl rfl ?_
        refine r_isub C dX9_after_170 ?_
        obtain ⟨rb, hwp⟩ := hwp
        refine r_max C hl (by decide +kernel) (by decide +kernel) (by decide +kernel) (by decide +kernel) (Nat.le_of_ble_eq_true rfl) (Nat.le_of_ble_eq_true rfl) (Nat.zero_le _) (Nat.zero_le _) (by decide) rb dX9_after_171 ?_
        refine r_iast C hw 1 rfl rfl (by decide) (by decide) dX9_after_174 (fun H locs hw => ?_)
        have hwp := hwp _ rfl
        refine r_goto C (tgt := 186) dX9_after_175 rfl ?_
        exact b_X9_after_186 C hA hR ih hwp hw (lh_mask hl [true, true, true, true, true, true, false])
      · have hwp := hD hc
        refine r_tout C (tgt := 178) dX9_after_103 ra hc rfl ?_
        refine r_aload_n C dX9_after_178 hl rfl ?_
        refine r_getr C hw clX9 0 rfl 0 1 rfl (Nat.le_of_ble_eq_true rfl) hi_X9_after_X9 hf_X9_after_9 dX9_after_179 ?_
        refine r_const C dX9_after_182 ?_
        refine r_iload C dX9_after_183 hl rfl ?_
        refine r_iast C hw 1 rfl rfl (by decide) (by decide) dX9_after_185 (fun H locs hw => ?_)
        have hwp := hwp _ rfl
        exact b_X9_after_186 C hA hR ih hwp hw (lh_mask hl [true, true, true, true, true, true, false])
set_option maxRecDepth 100000 in
theorem b_X9_after_32 {post : Int → St → Prop} (C : cx p s m args meth c wsX9_after RX9 cX9_after 7 (some .int) D cA) (hA : ∀ q, s.heap.size ≤ q → A q) (hR : RtI p l e rm_X9_after s m args below meth c Q cX9_after D cA K_M h A (fun _ => True) post) : ∀ (n : Nat) {v1 v2 v3 v4 v5 : Int} {σ : St} {H : Heap} {locs : List Loc} {ls : Array Slot}, wp_X9_after_32 post n v1 v2 v3 v4 v5 σ → wd D cA K_M h σ A s.heap H locs → lh ls 7 [some (.ref (h 0)), some (iv v1), some (iv v2), some (iv v3), some (iv v4), some (iv v5), none] → W p l e rm_X9_after s m args below meth c H locs 0 0 Q (F0 m 32 ls []) := by
  intro n; induction n with
  | zero => intros; rename_i hwp _ _; exact hwp.elim
  | succ n ih =>
    intro v1 v2 v3 v4 v5 σ H locs ls hwp hw hl
    refine r_iload C dX9_after_32 hl rfl ?_
    obtain ⟨ra, hT, hF⟩ := hwp
    refine r_if_lt C (tgt := 60) dX9_after_34 rfl ra (fun hc => ?_) (fun hc => ?_)
    · have hwp := hT hc
      refine r_const C dX9_after_60 ?_
      refine r_istore C dX9_after_61 hl (Nat.le_of_ble_eq_true rfl) (Nat.le_of_ble_eq_true rfl) rfl (fun ls hl => ?_)
      obtain ⟨n9, hwp⟩ := hwp
      exact b_X9_after_63 C hA hR n9 hwp hw (lh_mask hl [true, true, true, true, true, true, false])
    · have hwp := hF hc
      refine r_const C dX9_after_37 ?_
      refine r_iload C dX9_after_38 hl rfl ?_
      refine r_imul C dX9_after_40 ?_
      refine r_aload_n C dX9_after_41 hl rfl ?_
      refine r_getr C hw clX9 0 rfl 0 1 rfl (Nat.le_of_ble_eq_true rfl) hi_X9_after_X9 hf_X9_after_9 dX9_after_42 ?_
      refine r_bipush C dX9_after_45 bpb_24 ?_
      refine r_iload C dX9_after_47 hl rfl ?_
      refine r_iadd C dX9_after_49 ?_
      obtain ⟨h0, h1, hwp⟩ := hwp
      refine r_iald C hw 1 rfl rfl h0 h1 dX9_after_50 ?_
      refine r_iadd C dX9_after_51 ?_
      refine r_istore C dX9_after_52 hl (Nat.le_of_ble_eq_true rfl) (Nat.le_of_ble_eq_true rfl) rfl (fun ls hl => ?_)
      refine r_iinc C dX9_after_54 hl rfl (Nat.le_of_ble_eq_true rfl) rfl (fun ls hl => ?_)
      refine r_goto C (tgt := 32) dX9_after_57 rfl ?_
      exact ih hwp hw (lh_mask hl [true, true, true, true, true, true, false])
set_option maxRecDepth 100000 in
theorem b_X9_after_0 {post : Int → St → Prop} (C : cx p s m args meth c wsX9_after RX9 cX9_after 7 (some .int) D cA) (hA : ∀ q, s.heap.size ≤ q → A q) (hR : RtI p l e rm_X9_after s m args below meth c Q cX9_after D cA K_M h A (fun _ => True) post) : ∀ {v1 : Int} {σ : St} {H : Heap} {locs : List Loc} {ls : Array Slot}, wp_X9_after σ v1 post → wd D cA K_M h σ A s.heap H locs → lh ls 7 [some (.ref (h 0)), some (iv v1), none, none, none, none, none] → W p l e rm_X9_after s m args below meth c H locs 0 0 Q (F0 m 0 ls []) := by
  intro v1 σ H locs ls hwp hw hl
  refine r_iload_n C dX9_after_0 hl rfl ?_
  refine r_const C dX9_after_1 ?_
  refine r_const C dX9_after_2 ?_
  refine r_cIr hA hw sb_M_0_0_36 (run_s C hw sb_M_0_0_36 (c_X9_within hwp) (va_cwS 3 C.2.2.2.2.1 gX9_after_X9_within rfl rfl rfl hd_X9_within ⟨Nat.le_of_ble_eq_true rfl, Nat.le_of_ble_eq_true rfl⟩) rfl rfl rfl hl dX9_after_3 ⟨Nat.zero_le _, Nat.zero_le _⟩) (fun r H locs hwp hw => ?_)
  obtain ⟨ra, hT, hF⟩ := hwp
  refine r_if_ne C (tgt := 11) dX9_after_6 rfl ra (fun hc => ?_) (fun hc => ?_)
  · have hwp := hT hc
    refine r_aload_n C dX9_after_11 hl rfl ?_
    refine r_getr C hw clX9 0 rfl 0 1 rfl (Nat.le_of_ble_eq_true rfl) hi_X9_after_X9 hf_X9_after_9 dX9_after_12 ?_
    refine r_const C dX9_after_15 ?_
    refine r_iald C hw 1 rfl rfl (by decide) (by decide) dX9_after_16 ?_
    refine r_istore_n C dX9_after_17 hl (Nat.le_of_ble_eq_true rfl) (Nat.le_of_ble_eq_true rfl) rfl (fun ls hl => ?_)
    refine r_aload_n C dX9_after_18 hl rfl ?_
    refine r_getr C hw clX9 0 rfl 0 1 rfl (Nat.le_of_ble_eq_true rfl) hi_X9_after_X9 hf_X9_after_9 dX9_after_19 ?_
    refine r_const C dX9_after_22 ?_
    refine r_iald C hw 1 rfl rfl (by decide) (by decide) dX9_after_23 ?_
    refine r_istore_n C dX9_after_24 hl (Nat.le_of_ble_eq_true rfl) (Nat.le_of_ble_eq_true rfl) rfl (fun ls hl => ?_)
    refine r_const C dX9_after_25 ?_
    refine r_istore C dX9_after_26 hl (Nat.le_of_ble_eq_true rfl) (Nat.le_of_ble_eq_true rfl) rfl (fun ls hl => ?_)
    refine r_bipush C dX9_after_28 bpb_11 ?_
    refine r_istore C dX9_after_30 hl (Nat.le_of_ble_eq_true rfl) (Nat.le_of_ble_eq_true rfl) rfl (fun ls hl => ?_)
    obtain ⟨n9, hwp⟩ := hwp
    exact b_X9_after_32 C hA hR n9 hwp hw (lh_mask hl [true, true, true, true, true, true, false])
  · have hwp := hF hc
    refine r_const C dX9_after_9 ?_
    exact hR _ _ _ _ _ _ dX9_after_10 trivial hwp hw
set_option maxRecDepth 100000 in
theorem c_X9_after {l : Launch} {D : va_G} {cA : FieldType → ClassId} {h : Nat → Nat} {σ : St} {sz : Nat} {v1 : Int} {post : Int → St → Prop} (hwp : wp_X9_after σ v1 post) : Met l yX9_after wsX9_after rm_X9_after (va_Pc [.ref (h 0), iv v1] (preS D cA K_M h σ sz)) (QI D cA K_M h sz post) 0 0 (aA K_M.length h sz) := by
  refine mk_met (cc := cX9_after) (nL := 7) (ret := (some .int)) (own := RX9) 5 (by decide) rfl rfl rfl rfl ?_
  intro p e s m args below meth c ls hsz C hw hl hA
  subst hsz
  exact b_X9_after_0 C hA (rt_i C _) hwp hw hl
-- X9_book
theorem hi_X9_book_X9 : ∀ w ∈ u_ws RX9 TX9 20, w ∈ wsX9_book := by decide +kernel
theorem hf_X9_book_9 : Cond.fieldLink RX9 9 (TX9 0).1 (TX9 0).2.1 (TX9 0).2.2.1 ∈ wsX9_book := by decide +kernel
def rm_X9_book : Room := { frames := 2, cells := 0, slots := 0, locals := 43 }
set_option maxRecDepth 100000 in
theorem b_X9_book_0 {post : Int → St → Prop} (C : cx p s m args meth c wsX9_book RX9 cX9_book 3 (some .int) D cA) (hA : ∀ q, s.heap.size ≤ q → A q) (hR : RtI p l e rm_X9_book s m args below meth c Q cX9_book D cA K_M h A (fun _ => True) post) : ∀ {v1 v2 : Int} {σ : St} {H : Heap} {locs : List Loc} {ls : Array Slot}, wp_X9_book σ v1 v2 post → wd D cA K_M h σ A s.heap H locs → lh ls 3 [some (.ref (h 0)), some (iv v1), some (iv v2)] → W p l e rm_X9_book s m args below meth c H locs 0 0 Q (F0 m 0 ls []) := by
  intro v1 v2 σ H locs ls hwp hw hl
  refine r_iload_n C dX9_book_0 hl rfl ?_
  refine r_const C dX9_book_1 ?_
  obtain ⟨ra, hT, hF⟩ := hwp
  refine r_icmp_ne C (tgt := 15) dX9_book_2 rfl ra (by decide) (fun hc => ?_) (fun hc => ?_)
  · have hwp := hT hc
    refine r_iload_n C dX9_book_15 hl rfl ?_
    refine r_const C dX9_book_16 ?_
    refine r_sipush C dX9_book_17 bps_192 ?_
    refine r_cIr hA hw sb_M_0_0_36 (run_s C hw sb_M_0_0_36 (c_X9_within hwp) (va_cwS 3 C.2.2.2.2.1 gX9_book_X9_within rfl rfl rfl hd_X9_within ⟨Nat.le_of_ble_eq_true rfl, Nat.le_of_ble_eq_true rfl⟩) rfl rfl rfl hl dX9_book_20 ⟨Nat.zero_le _, Nat.zero_le _⟩) (fun r H locs hwp hw => ?_)
    obtain ⟨ra, hT, hF⟩ := hwp
    refine r_if_eq C (tgt := 34) dX9_book_23 rfl ra (fun hc => ?_) (fun hc => ?_)
    · have hwp := hT hc
      refine r_const C dX9_book_34 ?_
      exact hR _ _ _ _ _ _ dX9_book_35 trivial hwp hw
    · have hwp := hF hc
      refine r_aload_n C dX9_book_26 hl rfl ?_
      refine r_iload_n C dX9_book_27 hl rfl ?_
      refine r_cIr0 hA hw (run_v0 C hw clX9 rfl (c_X9_isPlace hwp) (cwV 1 C.2.2.2.2.1 gX9_book_X9_isPlace rfl rfl rfl hd_X9_isPlace ⟨Nat.le_of_ble_eq_true rfl, Nat.le_of_ble_eq_true rfl⟩) rfl rfl rfl hl dX9_book_28 ⟨Nat.zero_le _, Nat.zero_le _⟩) (fun r H locs hwp hw => ?_)
      obtain ⟨ra, hT, hF⟩ := hwp
      refine r_if_ne C (tgt := 36) dX9_book_31 rfl ra (fun hc => ?_) (fun hc => ?_)
      · have hwp := hT hc
        refine r_aload_n C dX9_book_36 hl rfl ?_
        refine r_getr C hw clX9 0 rfl 0 1 rfl (Nat.le_of_ble_eq_true rfl) hi_X9_book_X9 hf_X9_book_9 dX9_book_37 ?_
        refine r_bipush C dX9_book_40 bpb_7 ?_
        refine r_iald C hw 1 rfl rfl (by decide) (by decide) dX9_book_42 ?_
        refine r_bipush C dX9_book_43 bpb_8 ?_
        obtain ⟨ra, hT, hF⟩ := hwp
        refine r_icmp_ne C (tgt := 51) dX9_book_45 rfl ra (by decide) (fun hc => ?_) (fun hc => ?_)
        · have hwp := hT hc
          refine r_aload_n C dX9_book_51 hl rfl ?_
          refine r_getr C hw clX9 0 rfl 0 1 rfl (Nat.le_of_ble_eq_true rfl) hi_X9_book_X9 hf_X9_book_9 dX9_book_52 ?_
          refine r_bipush C dX9_book_55 bpb_75 ?_
          refine r_const C dX9_book_57 ?_
          refine r_aload_n C dX9_book_58 hl rfl ?_
          refine r_getr C hw clX9 0 rfl 0 1 rfl (Nat.le_of_ble_eq_true rfl) hi_X9_book_X9 hf_X9_book_9 dX9_book_59 ?_
          refine r_bipush C dX9_book_62 bpb_7 ?_
          refine r_iald C hw 1 rfl rfl (by decide) (by decide) dX9_book_64 ?_
          refine r_imul C dX9_book_65 ?_
          refine r_iadd C dX9_book_66 ?_
          refine r_iload_n C dX9_book_67 hl rfl ?_
          obtain ⟨h0, h1, hwp⟩ := hwp
          refine r_iast C hw 1 rfl rfl h0 h1 dX9_book_68 (fun H locs hw => ?_)
          have hwp := hwp _ rfl
          refine r_aload_n C dX9_book_69 hl rfl ?_
          refine r_getr C hw clX9 0 rfl 0 1 rfl (Nat.le_of_ble_eq_true rfl) hi_X9_book_X9 hf_X9_book_9 dX9_book_70 ?_
          refine r_bipush C dX9_book_73 bpb_75 ?_
          refine r_const C dX9_book_75 ?_
          refine r_aload_n C dX9_book_76 hl rfl ?_
          refine r_getr C hw clX9 0 rfl 0 1 rfl (Nat.le_of_ble_eq_true rfl) hi_X9_book_X9 hf_X9_book_9 dX9_book_77 ?_
          refine r_bipush C dX9_book_80 bpb_7 ?_
          refine r_iald C hw 1 rfl rfl (by decide) (by decide) dX9_book_82 ?_
          refine r_imul C dX9_book_83 ?_
          refine r_iadd C dX9_book_84 ?_
          refine r_const C dX9_book_85 ?_
          refine r_iadd C dX9_book_86 ?_
          refine r_iload_n C dX9_book_87 hl rfl ?_
          obtain ⟨h0, h1, hwp⟩ := hwp
          refine r_iast C hw 1 rfl rfl h0 h1 dX9_book_88 (fun H locs hw => ?_)
          have hwp := hwp _ rfl
          refine r_aload_n C dX9_book_89 hl rfl ?_
          refine r_getr C hw clX9 0 rfl 0 1 rfl (Nat.le_of_ble_eq_true rfl) hi_X9_book_X9 hf_X9_book_9 dX9_book_90 ?_
          refine r_bipush C dX9_book_93 bpb_7 ?_
          refine r_dup2 C dX9_book_95 rfl rfl ?_
          refine r_iald C hw 1 rfl rfl (by decide) (by decide) dX9_book_96 ?_
          refine r_const C dX9_book_97 ?_
          refine r_iadd C dX9_book_98 ?_
          refine r_dup_x2 C dX9_book_99 rfl rfl rfl ?_
          refine r_iast C hw 1 rfl rfl (by decide) (by decide) dX9_book_100 (fun H locs hw => ?_)
          have hwp := hwp _ rfl
          exact hR _ _ _ _ _ _ dX9_book_101 trivial hwp hw
        · have hwp := hF hc
          refine r_bipush C dX9_book_48 bpb_m4 ?_
          exact hR _ _ _ _ _ _ dX9_book_50 trivial hwp hw
      · have hwp := hF hc
        refine r_const C dX9_book_34 ?_
        exact hR _ _ _ _ _ _ dX9_book_35 trivial hwp hw
  · have hwp := hF hc
    refine r_aload_n C dX9_book_5 hl rfl ?_
    refine r_getr C hw clX9 0 rfl 0 1 rfl (Nat.le_of_ble_eq_true rfl) hi_X9_book_X9 hf_X9_book_9 dX9_book_6 ?_
    refine r_bipush C dX9_book_9 bpb_7 ?_
    refine r_const C dX9_book_11 ?_
    refine r_iast C hw 1 rfl rfl (by decide) (by decide) dX9_book_12 (fun H locs hw => ?_)
    have hwp := hwp _ rfl
    refine r_const C dX9_book_13 ?_
    exact hR _ _ _ _ _ _ dX9_book_14 trivial hwp hw
set_option maxRecDepth 100000 in
theorem c_X9_book {l : Launch} {D : va_G} {cA : FieldType → ClassId} {h : Nat → Nat} {σ : St} {sz : Nat} {v1 v2 : Int} {post : Int → St → Prop} (hwp : wp_X9_book σ v1 v2 post) : Met l yX9_book wsX9_book rm_X9_book (va_Pc [.ref (h 0), iv v1, iv v2] (preS D cA K_M h σ sz)) (QI D cA K_M h sz post) 0 0 (aA K_M.length h sz) := by
  refine mk_met (cc := cX9_book) (nL := 3) (ret := (some .int)) (own := RX9) 0 (by decide) rfl rfl rfl rfl ?_
  intro p e s m args below meth c ls hsz C hw hl hA
  subst hsz
  exact b_X9_book_0 C hA (rt_i C _) hwp hw hl
-- X9_looked
theorem hi_X9_looked_X9 : ∀ w ∈ u_ws RX9 TX9 20, w ∈ wsX9_looked := by decide +kernel
theorem hf_X9_looked_9 : Cond.fieldLink RX9 9 (TX9 0).1 (TX9 0).2.1 (TX9 0).2.2.1 ∈ wsX9_looked := by decide +kernel
theorem hf_X9_looked_129 : Cond.fieldLink RX9 129 (TX9 3).1 (TX9 3).2.1 (TX9 3).2.2.1 ∈ wsX9_looked := by decide +kernel
theorem hf_X9_looked_18 : Cond.fieldLink RX9 18 (TX9 4).1 (TX9 4).2.1 (TX9 4).2.2.1 ∈ wsX9_looked := by decide +kernel
def rm_X9_looked : Room := { frames := 3, cells := 0, slots := 0, locals := 71 }
set_option maxRecDepth 100000 in
theorem b_X9_looked_62 {post : Int → St → Prop} (C : cx p s m args meth c wsX9_looked RX9 cX9_looked 3 (some .int) D cA) (hA : ∀ q, s.heap.size ≤ q → A q) (hR : RtI p l e rm_X9_looked s m args below meth c Q cX9_looked D cA K_M h A (fun _ => True) post) : ∀ {v1 : Int} {σ : St} {H : Heap} {locs : List Loc} {ls : Array Slot}, wp_X9_looked_62 post v1 σ → wd D cA K_M h σ A s.heap H locs → lh ls 3 [none, some (iv v1), none] → W p l e rm_X9_looked s m args below meth c H locs 0 0 Q (F0 m 62 ls []) := by
  intro v1 σ H locs ls hwp hw hl
  refine r_iload_n C dX9_looked_62 hl rfl ?_
  exact hR _ _ _ _ _ _ dX9_looked_63 trivial hwp hw
set_option maxRecDepth 100000 in
theorem b_X9_looked_6 {post : Int → St → Prop} (C : cx p s m args meth c wsX9_looked RX9 cX9_looked 3 (some .int) D cA) (hA : ∀ q, s.heap.size ≤ q → A q) (hR : RtI p l e rm_X9_looked s m args below meth c Q cX9_looked D cA K_M h A (fun _ => True) post) : ∀ (n : Nat) {v1 : Int} {σ : St} {H : Heap} {locs : List Loc} {ls : Array Slot}, wp_X9_looked_6 post n v1 σ → wd D cA K_M h σ A s.heap H locs → lh ls 3 [some (.ref (h 0)), some (iv v1), none] → W p l e rm_X9_looked s m args below meth c H locs 0 0 Q (F0 m 6 ls []) := by
  intro n; induction n with
  | zero => intros; rename_i hwp _ _; exact hwp.elim
  | succ n ih =>
    intro v1 σ H locs ls hwp hw hl
    refine r_iload_n C dX9_looked_6 hl rfl ?_
    refine r_aload_n C dX9_looked_7 hl rfl ?_
    refine r_getr C hw clX9 0 rfl 0 1 rfl (Nat.le_of_ble_eq_true rfl) hi_X9_looked_X9 hf_X9_looked_9 dX9_looked_8 ?_
    refine r_bipush C dX9_looked_11 bpb_7 ?_
    refine r_iald C hw 1 rfl rfl (by decide) (by decide) dX9_looked_13 ?_
    obtain ⟨ra, rb, hT, hF⟩ := hwp
    refine r_icmp_ge C (tgt := 70) dX9_looked_14 rfl ra rb (fun hc => ?_) (fun hc => ?_)
    · have hwp := hT hc
      refine r_bipush C dX9_looked_70 bpb_m5 ?_
      exact hR _ _ _ _ _ _ dX9_looked_72 trivial hwp hw
    · have hwp := hF hc
      refine r_aload_n C dX9_looked_17 hl rfl ?_
      refine r_getr C hw clX9 0 rfl 0 1 rfl (Nat.le_of_ble_eq_true rfl) hi_X9_looked_X9 hf_X9_looked_9 dX9_looked_18 ?_
      refine r_bipush C dX9_looked_21 bpb_75 ?_
      refine r_const C dX9_looked_23 ?_
      refine r_iload_n C dX9_looked_24 hl rfl ?_
      refine r_imul C dX9_looked_25 ?_
      refine r_iadd C dX9_looked_26 ?_
      obtain ⟨h0, h1, hwp⟩ := hwp
      refine r_iald C hw 1 rfl rfl h0 h1 dX9_looked_27 ?_
      refine r_istore_n C dX9_looked_28 hl (Nat.le_of_ble_eq_true rfl) (Nat.le_of_ble_eq_true rfl) rfl (fun ls hl => ?_)
      refine r_iload_n C dX9_looked_29 hl rfl ?_
      refine r_aload_n C dX9_looked_30 hl rfl ?_
      refine r_get C hw clX9 0 rfl 3 3 rfl rfl (Nat.le_of_ble_eq_true rfl) hi_X9_looked_X9 hf_X9_looked_129 dX9_looked_31 ?_
      obtain ⟨ra, rb, hT, hF⟩ := hwp
      refine r_icmp_gt C (tgt := 62) dX9_looked_34 rfl ra rb (fun hc => ?_) (fun hc => ?_)
      · have hwp := hT hc
        exact b_X9_looked_62 C hA hR hwp hw (lh_mask hl [false, true, false])
      · have hwp := hF hc
        refine r_aload_n C dX9_looked_37 hl rfl ?_
        refine r_getr C hw clX9 0 rfl 4 3 rfl (Nat.le_of_ble_eq_true rfl) hi_X9_looked_X9 hf_X9_looked_18 dX9_looked_38 ?_
        refine r_bipush C dX9_looked_41 bpb_8 ?_
        refine r_iload_n C dX9_looked_43 hl rfl ?_
        refine r_imul C dX9_looked_44 ?_
        obtain ⟨h0, h1, hwp⟩ := hwp
        refine r_iald C hw 3 rfl rfl h0 h1 dX9_looked_45 ?_
        refine r_aload_n C dX9_looked_46 hl rfl ?_
        refine r_getr C hw clX9 0 rfl 0 1 rfl (Nat.le_of_ble_eq_true rfl) hi_X9_looked_X9 hf_X9_looked_9 dX9_looked_47 ?_
        refine r_bipush C dX9_looked_50 bpb_75 ?_
        refine r_const C dX9_looked_52 ?_
        refine r_iload_n C dX9_looked_53 hl rfl ?_
        refine r_imul C dX9_looked_54 ?_
        refine r_iadd C dX9_looked_55 ?_
        refine r_const C dX9_looked_56 ?_
        refine r_iadd C dX9_looked_57 ?_
        obtain ⟨h0, h1, hwp⟩ := hwp
        refine r_iald C hw 1 rfl rfl h0 h1 dX9_looked_58 ?_
        obtain ⟨ra, rb, hT, hF⟩ := hwp
        refine r_icmp_eq C (tgt := 64) dX9_looked_59 rfl ra rb (fun hc => ?_) (fun hc => ?_)
        · have hwp := hT hc
          refine r_iinc C dX9_looked_64 hl rfl (Nat.le_of_ble_eq_true rfl) rfl (fun ls hl => ?_)
          refine r_goto C (tgt := 6) dX9_looked_67 rfl ?_
          exact ih hwp hw (lh_mask hl [true, true, false])
        · have hwp := hF hc
          exact b_X9_looked_62 C hA hR hwp hw (lh_mask hl [false, true, false])
set_option maxRecDepth 100000 in
theorem b_X9_looked_0 {post : Int → St → Prop} (C : cx p s m args meth c wsX9_looked RX9 cX9_looked 3 (some .int) D cA) (hA : ∀ q, s.heap.size ≤ q → A q) (hR : RtI p l e rm_X9_looked s m args below meth c Q cX9_looked D cA K_M h A (fun _ => True) post) : ∀ {σ : St} {H : Heap} {locs : List Loc} {ls : Array Slot}, wp_X9_looked σ post → wd D cA K_M h σ A s.heap H locs → lh ls 3 [some (.ref (h 0)), none, none] → W p l e rm_X9_looked s m args below meth c H locs 0 0 Q (F0 m 0 ls []) := by
  intro σ H locs ls hwp hw hl
  refine r_aload_n C dX9_looked_0 hl rfl ?_
  refine r_cV0 hA hw (run_v0 C hw clX9 rfl (c_X9_rings hwp) (cwV 0 C.2.2.2.2.1 gX9_looked_X9_rings rfl rfl rfl hd_X9_rings ⟨Nat.le_of_ble_eq_true rfl, Nat.le_of_ble_eq_true rfl⟩) rfl rfl rfl hl dX9_looked_1 ⟨Nat.zero_le _, Nat.zero_le _⟩) (fun σ H locs hwp hw => ?_)
  refine r_const C dX9_looked_4 ?_
  refine r_istore_n C dX9_looked_5 hl (Nat.le_of_ble_eq_true rfl) (Nat.le_of_ble_eq_true rfl) rfl (fun ls hl => ?_)
  obtain ⟨n9, hwp⟩ := hwp
  exact b_X9_looked_6 C hA hR n9 hwp hw (lh_mask hl [true, true, false])
set_option maxRecDepth 100000 in
theorem c_X9_looked {l : Launch} {D : va_G} {cA : FieldType → ClassId} {h : Nat → Nat} {σ : St} {sz : Nat} {post : Int → St → Prop} (hwp : wp_X9_looked σ post) : Met l yX9_looked wsX9_looked rm_X9_looked (va_Pc [.ref (h 0)] (preS D cA K_M h σ sz)) (QI D cA K_M h sz post) 0 0 (aA K_M.length h sz) := by
  refine mk_met (cc := cX9_looked) (nL := 3) (ret := (some .int)) (own := RX9) 2 (by decide) rfl rfl rfl rfl ?_
  intro p e s m args below meth c ls hsz C hw hl hA
  subst hsz
  exact b_X9_looked_0 C hA (rt_i C _) hwp hw hl
-- X9_isTape
def rm_X9_isTape : Room := { frames := 1, cells := 0, slots := 0, locals := 22 }
set_option maxRecDepth 100000 in
theorem b_X9_isTape_0 {σ : St} {post : Int → Prop} (C : cx p s m args meth c wsX9_isTape RX9 cX9_isTape 1 (some .boolean) D cA) (hA : ∀ q, s.heap.size ≤ q → A q) (hR : RtI p l e rm_X9_isTape s m args below meth c Q cX9_isTape D cA K_0 h A (fun x => x = 0 ∨ x = 1) (fun r σ' => σ' = σ ∧ post r)) : ∀ {v0 : Int} {H : Heap} {locs : List Loc} {ls : Array Slot}, wp_X9_isTape v0 post → wd D cA K_0 h σ A s.heap H locs → lh ls 1 [some (iv v0)] → W p l e rm_X9_isTape s m args below meth c H locs 0 0 Q (F0 m 0 ls []) := by
  intro v0 H locs ls hwp hw hl
  refine r_iload_n C dX9_isTape_0 hl rfl ?_
  refine r_const C dX9_isTape_1 ?_
  refine r_const C dX9_isTape_2 ?_
  refine r_cIr hA hw sb_0_0_0_0 (run_s C hw sb_0_0_0_0 (c_X9_within hwp) (va_cwS 3 C.2.2.2.2.1 gX9_isTape_X9_within rfl rfl rfl hd_X9_within ⟨Nat.le_of_ble_eq_true rfl, Nat.le_of_ble_eq_true rfl⟩) rfl rfl rfl hl dX9_isTape_3 ⟨Nat.zero_le _, Nat.zero_le _⟩) (fun r H locs hwp hw => ?_)
  obtain ⟨hz, hwp⟩ := hwp
  exact hR _ _ _ _ _ _ dX9_isTape_6 hz ⟨rfl, hwp⟩ hw
set_option maxRecDepth 100000 in
theorem c_X9_isTape {l : Launch} {D : va_G} {cA : FieldType → ClassId} {h : Nat → Nat} {σ : St} {sz : Nat} {v0 : Int} {post : Int → Prop} (hwp : wp_X9_isTape v0 post) : Met l yX9_isTape wsX9_isTape rm_X9_isTape (va_Pc [iv v0] (preS D cA K_0 h σ sz)) (QI D cA K_0 h sz (fun r σ' => σ' = σ ∧ post r)) 0 0 (aA K_0.length h sz) := by
  refine mk_met (cc := cX9_isTape) (nL := 1) (ret := (some .boolean)) (own := RX9) 0 (by decide) rfl rfl rfl rfl ?_
  intro p e s m args below meth c ls hsz C hw hl hA
  subst hsz
  exact b_X9_isTape_0 C hA (rt_z C _) hwp hw hl
-- X9_judge
theorem hi_X9_judge_X9 : ∀ w ∈ u_ws RX9 TX9 20, w ∈ wsX9_judge := by decide +kernel
theorem hf_X9_judge_9 : Cond.fieldLink RX9 9 (TX9 0).1 (TX9 0).2.1 (TX9 0).2.2.1 ∈ wsX9_judge := by decide +kernel
theorem hf_X9_judge_129 : Cond.fieldLink RX9 129 (TX9 3).1 (TX9 3).2.1 (TX9 3).2.2.1 ∈ wsX9_judge := by decide +kernel
theorem hf_X9_judge_18 : Cond.fieldLink RX9 18 (TX9 4).1 (TX9 4).2.1 (TX9 4).2.2.1 ∈ wsX9_judge := by decide +kernel
theorem hf_X9_judge_39 : Cond.fieldLink RX9 39 (TX9 16).1 (TX9 16).2.1 (TX9 16).2.2.1 ∈ wsX9_judge := by decide +kernel
theorem hf_X9_judge_42 : Cond.fieldLink RX9 42 (TX9 17).1 (TX9 17).2.1 (TX9 17).2.2.1 ∈ wsX9_judge := by decide +kernel
theorem hf_X9_judge_45 : Cond.fieldLink RX9 45 (TX9 18).1 (TX9 18).2.1 (TX9 18).2.2.1 ∈ wsX9_judge := by decide +kernel
def rm_X9_judge : Room := { frames := 3, cells := 0, slots := 0, locals := 71 }
set_option maxRecDepth 100000 in
theorem b_X9_judge_57 {post : Int → St → Prop} (C : cx p s m args meth c wsX9_judge RX9 cX9_judge 5 (some .int) D cA) (hA : ∀ q, s.heap.size ≤ q → A q) (hR : RtI p l e rm_X9_judge s m args below meth c Q cX9_judge D cA K_M h A (fun _ => True) post) : ∀ (n : Nat) {v1 v2 v3 v4 : Int} {σ : St} {H : Heap} {locs : List Loc} {ls : Array Slot}, wp_X9_judge_57 post n v1 v2 v3 v4 σ → wd D cA K_M h σ A s.heap H locs → lh ls 5 [some (.ref (h 0)), some (iv v1), some (iv v2), some (iv v3), some (iv v4)] → W p l e rm_X9_judge s m args below meth c H locs 0 0 Q (F0 m 57 ls []) := by
  intro n; induction n with
  | zero => intros; rename_i hwp _ _; exact hwp.elim
  | succ n ih =>
    intro v1 v2 v3 v4 σ H locs ls hwp hw hl
    refine r_iload C dX9_judge_57 hl rfl ?_
    refine r_aload_n C dX9_judge_59 hl rfl ?_
    refine r_getr C hw clX9 0 rfl 0 1 rfl (Nat.le_of_ble_eq_true rfl) hi_X9_judge_X9 hf_X9_judge_9 dX9_judge_60 ?_
    refine r_const C dX9_judge_63 ?_
    refine r_iald C hw 1 rfl rfl (by decide) (by decide) dX9_judge_64 ?_
    obtain ⟨ra, rb, hT, hF⟩ := hwp
    refine r_icmp_ge C (tgt := 133) dX9_judge_65 rfl ra rb (fun hc => ?_) (fun hc => ?_)
    · have hwp := hT hc
      refine r_bipush C dX9_judge_133 bpb_m5 ?_
      exact hR _ _ _ _ _ _ dX9_judge_135 trivial hwp hw
    · have hwp := hF hc
      refine r_iload_n C dX9_judge_68 hl rfl ?_
      obtain ⟨ra, hwp⟩ := hwp
      refine r_i2l C dX9_judge_69 ra ?_
      refine r_iload C dX9_judge_70 hl rfl ?_
      obtain ⟨ra, hwp⟩ := hwp
      refine r_i2l C dX9_judge_72 ra ?_
      refine r_ladd C dX9_judge_73 ?_
      refine r_aload_n C dX9_judge_74 hl rfl ?_
      refine r_getr C hw clX9 0 rfl 17 11 rfl (Nat.le_of_ble_eq_true rfl) hi_X9_judge_X9 hf_X9_judge_42 dX9_judge_75 ?_
      refine r_iload_n C dX9_judge_78 hl rfl ?_
      obtain ⟨h0, h1, hwp⟩ := hwp
      refine r_iald C hw 11 rfl rfl h0 h1 dX9_judge_79 ?_
      obtain ⟨ra, hwp⟩ := hwp
      refine r_i2l C dX9_judge_80 ra ?_
      obtain ⟨ra, rb, hwp⟩ := hwp
      refine r_lcmp C dX9_judge_81 ra rb ?_
      obtain ⟨ra, hT, hF⟩ := hwp
      refine r_if_lt C (tgt := 91) dX9_judge_82 rfl ra (fun hc => ?_) (fun hc => ?_)
      · have hwp := hT hc
        refine r_aload_n C dX9_judge_91 hl rfl ?_
        refine r_getr C hw clX9 0 rfl 18 12 rfl (Nat.le_of_ble_eq_true rfl) hi_X9_judge_X9 hf_X9_judge_45 dX9_judge_92 ?_
        refine r_bipush C dX9_judge_95 bpb_60 ?_
        refine r_iload_n C dX9_judge_97 hl rfl ?_
        refine r_imul C dX9_judge_98 ?_
        refine r_iload_n C dX9_judge_99 hl rfl ?_
        refine r_iadd C dX9_judge_100 ?_
        refine r_iload C dX9_judge_101 hl rfl ?_
        refine r_iadd C dX9_judge_103 ?_
        obtain ⟨h0, h1, hwp⟩ := hwp
        refine r_lald C hw 12 rfl rfl h0 h1 dX9_judge_104 ?_
        refine r_aload_n C dX9_judge_105 hl rfl ?_
        refine r_getr C hw clX9 0 rfl 4 3 rfl (Nat.le_of_ble_eq_true rfl) hi_X9_judge_X9 hf_X9_judge_18 dX9_judge_106 ?_
        refine r_bipush C dX9_judge_109 bpb_8 ?_
        refine r_iload_n C dX9_judge_111 hl rfl ?_
        refine r_imul C dX9_judge_112 ?_
        refine r_iload C dX9_judge_113 hl rfl ?_
        refine r_iadd C dX9_judge_115 ?_
        obtain ⟨h0, h1, hwp⟩ := hwp
        refine r_iald C hw 3 rfl rfl h0 h1 dX9_judge_116 ?_
        obtain ⟨ra, hwp⟩ := hwp
        refine r_i2l C dX9_judge_117 ra ?_
        obtain ⟨ra, rb, hwp⟩ := hwp
        refine r_lcmp C dX9_judge_118 ra rb ?_
        obtain ⟨ra, hT, hF⟩ := hwp
        refine r_if_eq C (tgt := 127) dX9_judge_119 rfl ra (fun hc => ?_) (fun hc => ?_)
        · have hwp := hT hc
          refine r_iinc C dX9_judge_127 hl rfl (Nat.le_of_ble_eq_true rfl) rfl (fun ls hl => ?_)
          refine r_goto C (tgt := 57) dX9_judge_130 rfl ?_
          exact ih hwp hw (lh_mask hl [true, true, true, true, true])
        · have hwp := hF hc
          refine r_iload C dX9_judge_122 hl rfl ?_
          refine r_const C dX9_judge_124 ?_
          refine r_iadd C dX9_judge_125 ?_
          exact hR _ _ _ _ _ _ dX9_judge_126 trivial hwp hw
      · have hwp := hF hc
        refine r_bipush C dX9_judge_85 bpb_100 ?_
        refine r_iload C dX9_judge_87 hl rfl ?_
        refine r_iadd C dX9_judge_89 ?_
        exact hR _ _ _ _ _ _ dX9_judge_90 trivial hwp hw
set_option maxRecDepth 100000 in
theorem b_X9_judge_0 {post : Int → St → Prop} (C : cx p s m args meth c wsX9_judge RX9 cX9_judge 5 (some .int) D cA) (hA : ∀ q, s.heap.size ≤ q → A q) (hR : RtI p l e rm_X9_judge s m args below meth c Q cX9_judge D cA K_M h A (fun _ => True) post) : ∀ {v1 v2 v3 : Int} {σ : St} {H : Heap} {locs : List Loc} {ls : Array Slot}, wp_X9_judge σ v1 v2 v3 post → wd D cA K_M h σ A s.heap H locs → lh ls 5 [some (.ref (h 0)), some (iv v1), some (iv v2), some (iv v3), none] → W p l e rm_X9_judge s m args below meth c H locs 0 0 Q (F0 m 0 ls []) := by
  intro v1 v2 v3 σ H locs ls hwp hw hl
  refine r_aload_n C dX9_judge_0 hl rfl ?_
  refine r_cV0 hA hw (run_v0 C hw clX9 rfl (c_X9_rings hwp) (cwV 0 C.2.2.2.2.1 gX9_judge_X9_rings rfl rfl rfl hd_X9_rings ⟨Nat.le_of_ble_eq_true rfl, Nat.le_of_ble_eq_true rfl⟩) rfl rfl rfl hl dX9_judge_1 ⟨Nat.zero_le _, Nat.zero_le _⟩) (fun σ H locs hwp hw => ?_)
  refine r_iload_n C dX9_judge_4 hl rfl ?_
  refine r_const C dX9_judge_5 ?_
  refine r_aload_n C dX9_judge_6 hl rfl ?_
  refine r_get C hw clX9 0 rfl 3 3 rfl rfl (Nat.le_of_ble_eq_true rfl) hi_X9_judge_X9 hf_X9_judge_129 dX9_judge_7 ?_
  refine r_cIr hA hw sb_M_0_0_36 (run_s C hw sb_M_0_0_36 (c_X9_within hwp) (va_cwS 3 C.2.2.2.2.1 gX9_judge_X9_within rfl rfl rfl hd_X9_within ⟨Nat.le_of_ble_eq_true rfl, Nat.le_of_ble_eq_true rfl⟩) rfl rfl rfl hl dX9_judge_10 ⟨Nat.zero_le _, Nat.zero_le _⟩) (fun r H locs hwp hw => ?_)
  obtain ⟨ra, hT, hF⟩ := hwp
  refine r_if_eq C (tgt := 23) dX9_judge_13 rfl ra (fun hc => ?_) (fun hc => ?_)
  · have hwp := hT hc
    refine r_const C dX9_judge_23 ?_
    exact hR _ _ _ _ _ _ dX9_judge_24 trivial hwp hw
  · have hwp := hF hc
    refine r_iload_n C dX9_judge_16 hl rfl ?_
    refine r_cIr hA hw sb_M_0_0_36 (run_s C hw sb_M_0_0_36 (c_X9_isTape hwp) (va_cwS 1 C.2.2.2.2.1 gX9_judge_X9_isTape rfl rfl rfl hd_X9_isTape ⟨Nat.le_of_ble_eq_true rfl, Nat.le_of_ble_eq_true rfl⟩) rfl rfl rfl hl dX9_judge_17 ⟨Nat.zero_le _, Nat.zero_le _⟩) (fun r H locs hwp hw => ?_)
    obtain ⟨ra, hT, hF⟩ := hwp
    refine r_if_ne C (tgt := 25) dX9_judge_20 rfl ra (fun hc => ?_) (fun hc => ?_)
    · have hwp := hT hc
      refine r_aload_n C dX9_judge_25 hl rfl ?_
      refine r_getr C hw clX9 0 rfl 16 10 rfl (Nat.le_of_ble_eq_true rfl) hi_X9_judge_X9 hf_X9_judge_39 dX9_judge_26 ?_
      refine r_iload_n C dX9_judge_29 hl rfl ?_
      obtain ⟨h0, h1, hwp⟩ := hwp
      refine r_iald C hw 10 rfl rfl h0 h1 dX9_judge_30 ?_
      refine r_const C dX9_judge_31 ?_
      obtain ⟨ra, hT, hF⟩ := hwp
      refine r_icmp_le C (tgt := 38) dX9_judge_32 rfl ra (by decide) (fun hc => ?_) (fun hc => ?_)
      · have hwp := hT hc
        refine r_aload_n C dX9_judge_38 hl rfl ?_
        refine r_getr C hw clX9 0 rfl 16 10 rfl (Nat.le_of_ble_eq_true rfl) hi_X9_judge_X9 hf_X9_judge_39 dX9_judge_39 ?_
        refine r_iload_n C dX9_judge_42 hl rfl ?_
        obtain ⟨h0, h1, hwp⟩ := hwp
        refine r_iald C hw 10 rfl rfl h0 h1 dX9_judge_43 ?_
        obtain ⟨ra, hT, hF⟩ := hwp
        refine r_if_eq C (tgt := 51) dX9_judge_44 rfl ra (fun hc => ?_) (fun hc => ?_)
        · have hwp := hT hc
          refine r_bipush C dX9_judge_51 bpb_100 ?_
          exact hR _ _ _ _ _ _ dX9_judge_53 trivial hwp hw
        · have hwp := hF hc
          refine r_iload_n C dX9_judge_47 hl rfl ?_
          obtain ⟨ra, hT, hF⟩ := hwp
          refine r_if_ge C (tgt := 54) dX9_judge_48 rfl ra (fun hc => ?_) (fun hc => ?_)
          · have hwp := hT hc
            refine r_const C dX9_judge_54 ?_
            refine r_istore C dX9_judge_55 hl (Nat.le_of_ble_eq_true rfl) (Nat.le_of_ble_eq_true rfl) rfl (fun ls hl => ?_)
            obtain ⟨n9, hwp⟩ := hwp
            exact b_X9_judge_57 C hA hR n9 hwp hw (lh_mask hl [true, true, true, true, true])
          · have hwp := hF hc
            refine r_bipush C dX9_judge_51 bpb_100 ?_
            exact hR _ _ _ _ _ _ dX9_judge_53 trivial hwp hw
      · have hwp := hF hc
        refine r_bipush C dX9_judge_35 bpb_m12 ?_
        exact hR _ _ _ _ _ _ dX9_judge_37 trivial hwp hw
    · have hwp := hF hc
      refine r_const C dX9_judge_23 ?_
      exact hR _ _ _ _ _ _ dX9_judge_24 trivial hwp hw
set_option maxRecDepth 100000 in
theorem c_X9_judge {l : Launch} {D : va_G} {cA : FieldType → ClassId} {h : Nat → Nat} {σ : St} {sz : Nat} {v1 v2 v3 : Int} {post : Int → St → Prop} (hwp : wp_X9_judge σ v1 v2 v3 post) : Met l yX9_judge wsX9_judge rm_X9_judge (va_Pc [.ref (h 0), iv v1, iv v2, iv v3] (preS D cA K_M h σ sz)) (QI D cA K_M h sz post) 0 0 (aA K_M.length h sz) := by
  refine mk_met (cc := cX9_judge) (nL := 5) (ret := (some .int)) (own := RX9) 1 (by decide) rfl rfl rfl rfl ?_
  intro p e s m args below meth c ls hsz C hw hl hA
  subst hsz
  exact b_X9_judge_0 C hA (rt_i C _) hwp hw hl
-- X9_image
theorem hi_X9_image_X9 : ∀ w ∈ u_ws RX9 TX9 20, w ∈ wsX9_image := by decide +kernel
theorem hf_X9_image_9 : Cond.fieldLink RX9 9 (TX9 0).1 (TX9 0).2.1 (TX9 0).2.2.1 ∈ wsX9_image := by decide +kernel
theorem hf_X9_image_15 : Cond.fieldLink RX9 15 (TX9 1).1 (TX9 1).2.1 (TX9 1).2.2.1 ∈ wsX9_image := by decide +kernel
theorem hf_X9_image_184 : Cond.fieldLink RX9 184 (TX9 2).1 (TX9 2).2.1 (TX9 2).2.2.1 ∈ wsX9_image := by decide +kernel
def rm_X9_image : Room := { frames := 0, cells := 0, slots := 0, locals := 0 }
set_option maxRecDepth 100000 in
theorem b_X9_image_7 {post : Int → St → Prop} (C : cx p s m args meth c wsX9_image RX9 cX9_image 2 (some .int) D cA) (hA : ∀ q, s.heap.size ≤ q → A q) (hR : RtI p l e rm_X9_image s m args below meth c Q cX9_image D cA K_M h A (fun _ => True) post) : ∀ (n : Nat) {v1 : Int} {σ : St} {H : Heap} {locs : List Loc} {ls : Array Slot}, wp_X9_image_7 post n v1 σ → wd D cA K_M h σ A s.heap H locs → lh ls 2 [some (.ref (h 0)), some (iv v1)] → W p l e rm_X9_image s m args below meth c H locs 0 0 Q (F0 m 7 ls []) := by
  intro n; induction n with
  | zero => intros; rename_i hwp _ _; exact hwp.elim
  | succ n ih =>
    intro v1 σ H locs ls hwp hw hl
    refine r_iload_n C dX9_image_7 hl rfl ?_
    refine r_bipush C dX9_image_8 bpb_91 ?_
    obtain ⟨ra, hT, hF⟩ := hwp
    refine r_icmp_ge C (tgt := 31) dX9_image_10 rfl ra (by decide) (fun hc => ?_) (fun hc => ?_)
    · have hwp := hT hc
      refine r_aload_n C dX9_image_31 hl rfl ?_
      refine r_getr C hw clX9 0 rfl 0 1 rfl (Nat.le_of_ble_eq_true rfl) hi_X9_image_X9 hf_X9_image_9 dX9_image_32 ?_
      refine r_const C dX9_image_35 ?_
      refine r_iald C hw 1 rfl rfl (by decide) (by decide) dX9_image_36 ?_
      exact hR _ _ _ _ _ _ dX9_image_37 trivial hwp hw
    · have hwp := hF hc
      refine r_aload_n C dX9_image_13 hl rfl ?_
      refine r_getr C hw clX9 0 rfl 1 2 rfl (Nat.le_of_ble_eq_true rfl) hi_X9_image_X9 hf_X9_image_15 dX9_image_14 ?_
      refine r_iload_n C dX9_image_17 hl rfl ?_
      refine r_aload_n C dX9_image_18 hl rfl ?_
      refine r_getr C hw clX9 0 rfl 0 1 rfl (Nat.le_of_ble_eq_true rfl) hi_X9_image_X9 hf_X9_image_9 dX9_image_19 ?_
      refine r_iload_n C dX9_image_22 hl rfl ?_
      obtain ⟨h0, h1, hwp⟩ := hwp
      refine r_iald C hw 1 rfl rfl h0 h1 dX9_image_23 ?_
      obtain ⟨h0, h1, hwp⟩ := hwp
      refine r_iast C hw 2 rfl rfl h0 h1 dX9_image_24 (fun H locs hw => ?_)
      have hwp := hwp _ rfl
      refine r_iinc C dX9_image_25 hl rfl (Nat.le_of_ble_eq_true rfl) rfl (fun ls hl => ?_)
      refine r_goto C (tgt := 7) dX9_image_28 rfl ?_
      exact ih hwp hw (lh_mask hl [true, true])
set_option maxRecDepth 100000 in
theorem b_X9_image_0 {post : Int → St → Prop} (C : cx p s m args meth c wsX9_image RX9 cX9_image 2 (some .int) D cA) (hA : ∀ q, s.heap.size ≤ q → A q) (hR : RtI p l e rm_X9_image s m args below meth c Q cX9_image D cA K_M h A (fun _ => True) post) : ∀ {σ : St} {H : Heap} {locs : List Loc} {ls : Array Slot}, wp_X9_image σ post → wd D cA K_M h σ A s.heap H locs → lh ls 2 [some (.ref (h 0)), none] → W p l e rm_X9_image s m args below meth c H locs 0 0 Q (F0 m 0 ls []) := by
  intro σ H locs ls hwp hw hl
  refine r_aload_n C dX9_image_0 hl rfl ?_
  refine r_const C dX9_image_1 ?_
  refine r_put C hw clX9 0 rfl 2 2 rfl rfl (Nat.le_of_ble_eq_true rfl) hi_X9_image_X9 hf_X9_image_184 rfl (oi_z (Or.inr rfl)) dX9_image_2 (fun H locs hw => ?_)
  have hwp := hwp _ rfl
  refine r_const C dX9_image_5 ?_
  refine r_istore_n C dX9_image_6 hl (Nat.le_of_ble_eq_true rfl) (Nat.le_of_ble_eq_true rfl) rfl (fun ls hl => ?_)
  obtain ⟨n9, hwp⟩ := hwp
  exact b_X9_image_7 C hA hR n9 hwp hw (lh_mask hl [true, true])
set_option maxRecDepth 100000 in
theorem c_X9_image {l : Launch} {D : va_G} {cA : FieldType → ClassId} {h : Nat → Nat} {σ : St} {sz : Nat} {post : Int → St → Prop} (hwp : wp_X9_image σ post) : Met l yX9_image wsX9_image rm_X9_image (va_Pc [.ref (h 0)] (preS D cA K_M h σ sz)) (QI D cA K_M h sz post) 0 0 (aA K_M.length h sz) := by
  refine mk_met (cc := cX9_image) (nL := 2) (ret := (some .int)) (own := RX9) 1 (by decide) rfl rfl rfl rfl ?_
  intro p e s m args below meth c ls hsz C hw hl hA
  subst hsz
  exact b_X9_image_0 C hA (rt_i C _) hwp hw hl
-- X9_undo
theorem hi_X9_undo_X9 : ∀ w ∈ u_ws RX9 TX9 20, w ∈ wsX9_undo := by decide +kernel
theorem hf_X9_undo_9 : Cond.fieldLink RX9 9 (TX9 0).1 (TX9 0).2.1 (TX9 0).2.2.1 ∈ wsX9_undo := by decide +kernel
theorem hf_X9_undo_15 : Cond.fieldLink RX9 15 (TX9 1).1 (TX9 1).2.1 (TX9 1).2.2.1 ∈ wsX9_undo := by decide +kernel
theorem hf_X9_undo_184 : Cond.fieldLink RX9 184 (TX9 2).1 (TX9 2).2.1 (TX9 2).2.2.1 ∈ wsX9_undo := by decide +kernel
def rm_X9_undo : Room := { frames := 0, cells := 0, slots := 0, locals := 0 }
set_option maxRecDepth 100000 in
theorem b_X9_undo_12 {post : Int → St → Prop} (C : cx p s m args meth c wsX9_undo RX9 cX9_undo 2 (some .int) D cA) (hA : ∀ q, s.heap.size ≤ q → A q) (hR : RtI p l e rm_X9_undo s m args below meth c Q cX9_undo D cA K_M h A (fun _ => True) post) : ∀ (n : Nat) {v1 : Int} {σ : St} {H : Heap} {locs : List Loc} {ls : Array Slot}, wp_X9_undo_12 post n v1 σ → wd D cA K_M h σ A s.heap H locs → lh ls 2 [some (.ref (h 0)), some (iv v1)] → W p l e rm_X9_undo s m args below meth c H locs 0 0 Q (F0 m 12 ls []) := by
  intro n; induction n with
  | zero => intros; rename_i hwp _ _; exact hwp.elim
  | succ n ih =>
    intro v1 σ H locs ls hwp hw hl
    refine r_iload_n C dX9_undo_12 hl rfl ?_
    refine r_bipush C dX9_undo_13 bpb_91 ?_
    obtain ⟨ra, hT, hF⟩ := hwp
    refine r_icmp_ge C (tgt := 36) dX9_undo_15 rfl ra (by decide) (fun hc => ?_) (fun hc => ?_)
    · have hwp := hT hc
      refine r_aload_n C dX9_undo_36 hl rfl ?_
      refine r_getr C hw clX9 0 rfl 0 1 rfl (Nat.le_of_ble_eq_true rfl) hi_X9_undo_X9 hf_X9_undo_9 dX9_undo_37 ?_
      refine r_const C dX9_undo_40 ?_
      refine r_iald C hw 1 rfl rfl (by decide) (by decide) dX9_undo_41 ?_
      exact hR _ _ _ _ _ _ dX9_undo_42 trivial hwp hw
    · have hwp := hF hc
      refine r_aload_n C dX9_undo_18 hl rfl ?_
      refine r_getr C hw clX9 0 rfl 0 1 rfl (Nat.le_of_ble_eq_true rfl) hi_X9_undo_X9 hf_X9_undo_9 dX9_undo_19 ?_
      refine r_iload_n C dX9_undo_22 hl rfl ?_
      refine r_aload_n C dX9_undo_23 hl rfl ?_
      refine r_getr C hw clX9 0 rfl 1 2 rfl (Nat.le_of_ble_eq_true rfl) hi_X9_undo_X9 hf_X9_undo_15 dX9_undo_24 ?_
      refine r_iload_n C dX9_undo_27 hl rfl ?_
      obtain ⟨h0, h1, hwp⟩ := hwp
      refine r_iald C hw 2 rfl rfl h0 h1 dX9_undo_28 ?_
      obtain ⟨h0, h1, hwp⟩ := hwp
      refine r_iast C hw 1 rfl rfl h0 h1 dX9_undo_29 (fun H locs hw => ?_)
      have hwp := hwp _ rfl
      refine r_iinc C dX9_undo_30 hl rfl (Nat.le_of_ble_eq_true rfl) rfl (fun ls hl => ?_)
      refine r_goto C (tgt := 12) dX9_undo_33 rfl ?_
      exact ih hwp hw (lh_mask hl [true, true])
set_option maxRecDepth 100000 in
theorem b_X9_undo_0 {post : Int → St → Prop} (C : cx p s m args meth c wsX9_undo RX9 cX9_undo 2 (some .int) D cA) (hA : ∀ q, s.heap.size ≤ q → A q) (hR : RtI p l e rm_X9_undo s m args below meth c Q cX9_undo D cA K_M h A (fun _ => True) post) : ∀ {σ : St} {H : Heap} {locs : List Loc} {ls : Array Slot}, wp_X9_undo σ post → wd D cA K_M h σ A s.heap H locs → lh ls 2 [some (.ref (h 0)), none] → W p l e rm_X9_undo s m args below meth c H locs 0 0 Q (F0 m 0 ls []) := by
  intro σ H locs ls hwp hw hl
  refine r_aload_n C dX9_undo_0 hl rfl ?_
  refine r_get C hw clX9 0 rfl 2 2 rfl rfl (Nat.le_of_ble_eq_true rfl) hi_X9_undo_X9 hf_X9_undo_184 dX9_undo_1 ?_
  obtain ⟨ra, hT, hF⟩ := hwp
  refine r_if_ne C (tgt := 10) dX9_undo_4 rfl ra (fun hc => ?_) (fun hc => ?_)
  · have hwp := hT hc
    refine r_const C dX9_undo_10 ?_
    refine r_istore_n C dX9_undo_11 hl (Nat.le_of_ble_eq_true rfl) (Nat.le_of_ble_eq_true rfl) rfl (fun ls hl => ?_)
    obtain ⟨n9, hwp⟩ := hwp
    exact b_X9_undo_12 C hA hR n9 hwp hw (lh_mask hl [true, true])
  · have hwp := hF hc
    refine r_bipush C dX9_undo_7 bpb_m3 ?_
    exact hR _ _ _ _ _ _ dX9_undo_9 trivial hwp hw
set_option maxRecDepth 100000 in
theorem c_X9_undo {l : Launch} {D : va_G} {cA : FieldType → ClassId} {h : Nat → Nat} {σ : St} {sz : Nat} {post : Int → St → Prop} (hwp : wp_X9_undo σ post) : Met l yX9_undo wsX9_undo rm_X9_undo (va_Pc [.ref (h 0)] (preS D cA K_M h σ sz)) (QI D cA K_M h sz post) 0 0 (aA K_M.length h sz) := by
  refine mk_met (cc := cX9_undo) (nL := 2) (ret := (some .int)) (own := RX9) 1 (by decide) rfl rfl rfl rfl ?_
  intro p e s m args below meth c ls hsz C hw hl hA
  subst hsz
  exact b_X9_undo_0 C hA (rt_i C _) hwp hw hl
-- X9_count
theorem hi_X9_count_X9 : ∀ w ∈ u_ws RX9 TX9 20, w ∈ wsX9_count := by decide +kernel
theorem hf_X9_count_9 : Cond.fieldLink RX9 9 (TX9 0).1 (TX9 0).2.1 (TX9 0).2.2.1 ∈ wsX9_count := by decide +kernel
theorem hf_X9_count_71 : Cond.fieldLink RX9 71 (TX9 6).1 (TX9 6).2.1 (TX9 6).2.2.1 ∈ wsX9_count := by decide +kernel
def rm_X9_count : Room := { frames := 1, cells := 0, slots := 0, locals := 22 }
set_option maxRecDepth 100000 in
theorem b_X9_count_0 {σ : St} {post : Int → Prop} (C : cx p s m args meth c wsX9_count RX9 cX9_count 2 (some .int) D cA) (hA : ∀ q, s.heap.size ≤ q → A q) (hR : RtI p l e rm_X9_count s m args below meth c Q cX9_count D cA K_M h A (fun _ => True) (fun r σ' => σ' = σ ∧ post r)) : ∀ {v1 : Int} {H : Heap} {locs : List Loc} {ls : Array Slot}, wp_X9_count σ v1 post → wd D cA K_M h σ A s.heap H locs → lh ls 2 [some (.ref (h 0)), some (iv v1)] → W p l e rm_X9_count s m args below meth c H locs 0 0 Q (F0 m 0 ls []) := by
  intro v1 H locs ls hwp hw hl
  refine r_iload_n C dX9_count_0 hl rfl ?_
  refine r_const C dX9_count_1 ?_
  refine r_const C dX9_count_2 ?_
  refine r_cIr hA hw sb_M_0_0_36 (run_s C hw sb_M_0_0_36 (c_X9_within hwp) (va_cwS 3 C.2.2.2.2.1 gX9_count_X9_within rfl rfl rfl hd_X9_within ⟨Nat.le_of_ble_eq_true rfl, Nat.le_of_ble_eq_true rfl⟩) rfl rfl rfl hl dX9_count_3 ⟨Nat.zero_le _, Nat.zero_le _⟩) (fun r H locs hwp hw => ?_)
  obtain ⟨ra, hT, hF⟩ := hwp
  refine r_if_eq C (tgt := 20) dX9_count_6 rfl ra (fun hc => ?_) (fun hc => ?_)
  · have hwp := hT hc
    refine r_iload_n C dX9_count_20 hl rfl ?_
    refine r_const C dX9_count_21 ?_
    obtain ⟨ra, hT, hF⟩ := hwp
    refine r_icmp_ne C (tgt := 32) dX9_count_22 rfl ra (by decide) (fun hc => ?_) (fun hc => ?_)
    · have hwp := hT hc
      refine r_bipush C dX9_count_32 bpb_m2 ?_
      exact hR _ _ _ _ _ _ dX9_count_34 trivial ⟨rfl, hwp⟩ hw
    · have hwp := hF hc
      refine r_aload_n C dX9_count_25 hl rfl ?_
      refine r_get C hw clX9 0 rfl 6 6 rfl rfl (Nat.le_of_ble_eq_true rfl) hi_X9_count_X9 hf_X9_count_71 dX9_count_26 ?_
      refine r_goto C (tgt := 34) dX9_count_29 rfl ?_
      exact hR _ _ _ _ _ _ dX9_count_34 trivial ⟨rfl, hwp⟩ hw
  · have hwp := hF hc
    refine r_aload_n C dX9_count_9 hl rfl ?_
    refine r_getr C hw clX9 0 rfl 0 1 rfl (Nat.le_of_ble_eq_true rfl) hi_X9_count_X9 hf_X9_count_9 dX9_count_10 ?_
    refine r_const C dX9_count_13 ?_
    refine r_iload_n C dX9_count_14 hl rfl ?_
    refine r_iadd C dX9_count_15 ?_
    obtain ⟨h0, h1, hwp⟩ := hwp
    refine r_iald C hw 1 rfl rfl h0 h1 dX9_count_16 ?_
    refine r_goto C (tgt := 34) dX9_count_17 rfl ?_
    exact hR _ _ _ _ _ _ dX9_count_34 trivial ⟨rfl, hwp⟩ hw
set_option maxRecDepth 100000 in
theorem c_X9_count {l : Launch} {D : va_G} {cA : FieldType → ClassId} {h : Nat → Nat} {σ : St} {sz : Nat} {v1 : Int} {post : Int → Prop} (hwp : wp_X9_count σ v1 post) : Met l yX9_count wsX9_count rm_X9_count (va_Pc [.ref (h 0), iv v1] (preS D cA K_M h σ sz)) (QI D cA K_M h sz (fun r σ' => σ' = σ ∧ post r)) 0 0 (aA K_M.length h sz) := by
  refine mk_met (cc := cX9_count) (nL := 2) (ret := (some .int)) (own := RX9) 0 (by decide) rfl rfl rfl rfl ?_
  intro p e s m args below meth c ls hsz C hw hl hA
  subst hsz
  exact b_X9_count_0 C hA (rt_i C _) hwp hw hl
-- X9_tape
theorem hi_X9_tape_X9 : ∀ w ∈ u_ws RX9 TX9 20, w ∈ wsX9_tape := by decide +kernel
theorem hf_X9_tape_39 : Cond.fieldLink RX9 39 (TX9 16).1 (TX9 16).2.1 (TX9 16).2.2.1 ∈ wsX9_tape := by decide +kernel
theorem hf_X9_tape_42 : Cond.fieldLink RX9 42 (TX9 17).1 (TX9 17).2.1 (TX9 17).2.2.1 ∈ wsX9_tape := by decide +kernel
theorem hf_X9_tape_45 : Cond.fieldLink RX9 45 (TX9 18).1 (TX9 18).2.1 (TX9 18).2.2.1 ∈ wsX9_tape := by decide +kernel
def rm_X9_tape : Room := { frames := 2, cells := 0, slots := 0, locals := 42 }
set_option maxRecDepth 100000 in
theorem b_X9_tape_69 {post : Int → St → Prop} (C : cx p s m args meth c wsX9_tape RX9 cX9_tape 5 (some .int) D cA) (hA : ∀ q, s.heap.size ≤ q → A q) (hR : RtI p l e rm_X9_tape s m args below meth c Q cX9_tape D cA K_M h A (fun _ => True) post) : ∀ (n : Nat) {v1 v4 : Int} {σ : St} {H : Heap} {locs : List Loc} {ls : Array Slot}, wp_X9_tape_69 post n v1 v4 σ → wd D cA K_M h σ A s.heap H locs → lh ls 5 [some (.ref (h 0)), some (iv v1), none, none, some (iv v4)] → W p l e rm_X9_tape s m args below meth c H locs 0 0 Q (F0 m 69 ls []) := by
  intro n; induction n with
  | zero => intros; rename_i hwp _ _; exact hwp.elim
  | succ n ih =>
    intro v1 v4 σ H locs ls hwp hw hl
    refine r_iload C dX9_tape_69 hl rfl ?_
    refine r_bipush C dX9_tape_71 bpb_60 ?_
    obtain ⟨ra, hT, hF⟩ := hwp
    refine r_icmp_ge C (tgt := 95) dX9_tape_73 rfl ra (by decide) (fun hc => ?_) (fun hc => ?_)
    · have hwp := hT hc
      refine r_const C dX9_tape_95 ?_
      exact hR _ _ _ _ _ _ dX9_tape_96 trivial hwp hw
    · have hwp := hF hc
      refine r_aload_n C dX9_tape_76 hl rfl ?_
      refine r_getr C hw clX9 0 rfl 18 12 rfl (Nat.le_of_ble_eq_true rfl) hi_X9_tape_X9 hf_X9_tape_45 dX9_tape_77 ?_
      refine r_bipush C dX9_tape_80 bpb_60 ?_
      refine r_iload_n C dX9_tape_82 hl rfl ?_
      refine r_imul C dX9_tape_83 ?_
      refine r_iload C dX9_tape_84 hl rfl ?_
      refine r_iadd C dX9_tape_86 ?_
      refine r_lconst C 0 rfl dX9_tape_87 ?_
      obtain ⟨h0, h1, hwp⟩ := hwp
      refine r_last C hw 12 rfl rfl h0 h1 dX9_tape_88 (fun H locs hw => ?_)
      have hwp := hwp _ rfl
      refine r_iinc C dX9_tape_89 hl rfl (Nat.le_of_ble_eq_true rfl) rfl (fun ls hl => ?_)
      refine r_goto C (tgt := 69) dX9_tape_92 rfl ?_
      exact ih hwp hw (lh_mask hl [true, true, false, false, true])
set_option maxRecDepth 100000 in
theorem b_X9_tape_65 {post : Int → St → Prop} (C : cx p s m args meth c wsX9_tape RX9 cX9_tape 5 (some .int) D cA) (hA : ∀ q, s.heap.size ≤ q → A q) (hR : RtI p l e rm_X9_tape s m args below meth c Q cX9_tape D cA K_M h A (fun _ => True) post) : ∀ {v1 s1 s2 : Int} {σ : St} {H : Heap} {locs : List Loc} {ls : Array Slot}, wp_X9_tape_65 post v1 s1 s2 σ → wd D cA K_M h σ A s.heap H locs → lh ls 5 [some (.ref (h 0)), some (iv v1), none, none, none] → W p l e rm_X9_tape s m args below meth c H locs 0 0 Q (F0 m 65 ls [iv s2, iv s1, .ref (h 11)]) := by
  intro v1 s1 s2 σ H locs ls hwp hw hl
  obtain ⟨h0, h1, hwp⟩ := hwp
  refine r_iast C hw 11 rfl rfl h0 h1 dX9_tape_65 (fun H locs hw => ?_)
  have hwp := hwp _ rfl
  refine r_const C dX9_tape_66 ?_
  refine r_istore C dX9_tape_67 hl (Nat.le_of_ble_eq_true rfl) (Nat.le_of_ble_eq_true rfl) rfl (fun ls hl => ?_)
  obtain ⟨n9, hwp⟩ := hwp
  exact b_X9_tape_69 C hA hR n9 hwp hw (lh_mask hl [true, true, false, false, true])
set_option maxRecDepth 100000 in
theorem b_X9_tape_42 {post : Int → St → Prop} (C : cx p s m args meth c wsX9_tape RX9 cX9_tape 5 (some .int) D cA) (hA : ∀ q, s.heap.size ≤ q → A q) (hR : RtI p l e rm_X9_tape s m args below meth c Q cX9_tape D cA K_M h A (fun _ => True) post) : ∀ {v1 v2 v3 : Int} {σ : St} {H : Heap} {locs : List Loc} {ls : Array Slot}, wp_X9_tape_42 post v1 v2 v3 σ → wd D cA K_M h σ A s.heap H locs → lh ls 5 [some (.ref (h 0)), some (iv v1), some (iv v2), some (iv v3), none] → W p l e rm_X9_tape s m args below meth c H locs 0 0 Q (F0 m 42 ls []) := by
  intro v1 v2 v3 σ H locs ls hwp hw hl
  refine r_aload_n C dX9_tape_42 hl rfl ?_
  refine r_getr C hw clX9 0 rfl 16 10 rfl (Nat.le_of_ble_eq_true rfl) hi_X9_tape_X9 hf_X9_tape_39 dX9_tape_43 ?_
  refine r_iload_n C dX9_tape_46 hl rfl ?_
  refine r_iload_n C dX9_tape_47 hl rfl ?_
  refine r_const C dX9_tape_48 ?_
  refine r_iadd C dX9_tape_49 ?_
  obtain ⟨h0, h1, hwp⟩ := hwp
  refine r_iast C hw 10 rfl rfl h0 h1 dX9_tape_50 (fun H locs hw => ?_)
  have hwp := hwp _ rfl
  refine r_aload_n C dX9_tape_51 hl rfl ?_
  refine r_getr C hw clX9 0 rfl 17 11 rfl (Nat.le_of_ble_eq_true rfl) hi_X9_tape_X9 hf_X9_tape_42 dX9_tape_52 ?_
  refine r_iload_n C dX9_tape_55 hl rfl ?_
  refine r_iload_n C dX9_tape_56 hl rfl ?_
  obtain ⟨ra, hT, hF⟩ := hwp
  refine r_if_ge C (tgt := 64) dX9_tape_57 rfl ra (fun hc => ?_) (fun hc => ?_)
  · have hwp := hT hc
    refine r_iload_n C dX9_tape_64 hl rfl ?_
    exact b_X9_tape_65 C hA hR hwp hw (lh_mask hl [true, true, false, false, false])
  · have hwp := hF hc
    refine r_const C dX9_tape_60 ?_
    refine r_goto C (tgt := 65) dX9_tape_61 rfl ?_
    exact b_X9_tape_65 C hA hR hwp hw (lh_mask hl [true, true, false, false, false])
set_option maxRecDepth 100000 in
theorem b_X9_tape_31 {post : Int → St → Prop} (C : cx p s m args meth c wsX9_tape RX9 cX9_tape 5 (some .int) D cA) (hA : ∀ q, s.heap.size ≤ q → A q) (hR : RtI p l e rm_X9_tape s m args below meth c Q cX9_tape D cA K_M h A (fun _ => True) post) : ∀ {v1 v2 v3 : Int} {σ : St} {H : Heap} {locs : List Loc} {ls : Array Slot}, wp_X9_tape_31 post v1 v2 v3 σ → wd D cA K_M h σ A s.heap H locs → lh ls 5 [some (.ref (h 0)), some (iv v1), some (iv v2), some (iv v3), none] → W p l e rm_X9_tape s m args below meth c H locs 0 0 Q (F0 m 31 ls []) := by
  intro v1 v2 v3 σ H locs ls hwp hw hl
  refine r_iload_n C dX9_tape_31 hl rfl ?_
  obtain ⟨ra, hT, hF⟩ := hwp
  refine r_if_lt C (tgt := 42) dX9_tape_32 rfl ra (fun hc => ?_) (fun hc => ?_)
  · have hwp := hT hc
    exact b_X9_tape_42 C hA hR hwp hw (lh_mask hl [true, true, true, true, false])
  · have hwp := hF hc
    refine r_iload_n C dX9_tape_35 hl rfl ?_
    obtain ⟨ra, hT, hF⟩ := hwp
    refine r_if_ge C (tgt := 42) dX9_tape_36 rfl ra (fun hc => ?_) (fun hc => ?_)
    · have hwp := hT hc
      exact b_X9_tape_42 C hA hR hwp hw (lh_mask hl [true, true, true, true, false])
    · have hwp := hF hc
      refine r_bipush C dX9_tape_39 bpb_m14 ?_
      exact hR _ _ _ _ _ _ dX9_tape_41 trivial hwp hw
set_option maxRecDepth 100000 in
theorem b_X9_tape_0 {post : Int → St → Prop} (C : cx p s m args meth c wsX9_tape RX9 cX9_tape 5 (some .int) D cA) (hA : ∀ q, s.heap.size ≤ q → A q) (hR : RtI p l e rm_X9_tape s m args below meth c Q cX9_tape D cA K_M h A (fun _ => True) post) : ∀ {v1 v2 v3 : Int} {σ : St} {H : Heap} {locs : List Loc} {ls : Array Slot}, wp_X9_tape σ v1 v2 v3 post → wd D cA K_M h σ A s.heap H locs → lh ls 5 [some (.ref (h 0)), some (iv v1), some (iv v2), some (iv v3), none] → W p l e rm_X9_tape s m args below meth c H locs 0 0 Q (F0 m 0 ls []) := by
  intro v1 v2 v3 σ H locs ls hwp hw hl
  refine r_iload_n C dX9_tape_0 hl rfl ?_
  refine r_cIr hA hw sb_M_0_0_36 (run_s C hw sb_M_0_0_36 (c_X9_isTape hwp) (va_cwS 1 C.2.2.2.2.1 gX9_tape_X9_isTape rfl rfl rfl hd_X9_isTape ⟨Nat.le_of_ble_eq_true rfl, Nat.le_of_ble_eq_true rfl⟩) rfl rfl rfl hl dX9_tape_1 ⟨Nat.zero_le _, Nat.zero_le _⟩) (fun r H locs hwp hw => ?_)
  obtain ⟨ra, hT, hF⟩ := hwp
  refine r_if_ne C (tgt := 9) dX9_tape_4 rfl ra (fun hc => ?_) (fun hc => ?_)
  · have hwp := hT hc
    refine r_iload_n C dX9_tape_9 hl rfl ?_
    refine r_const C dX9_tape_10 ?_
    refine r_const C dX9_tape_11 ?_
    refine r_cIr hA hw sb_M_0_0_36 (run_s C hw sb_M_0_0_36 (c_X9_within hwp) (va_cwS 3 C.2.2.2.2.1 gX9_tape_X9_within rfl rfl rfl hd_X9_within ⟨Nat.le_of_ble_eq_true rfl, Nat.le_of_ble_eq_true rfl⟩) rfl rfl rfl hl dX9_tape_12 ⟨Nat.zero_le _, Nat.zero_le _⟩) (fun r H locs hwp hw => ?_)
    obtain ⟨ra, hT, hF⟩ := hwp
    refine r_if_eq C (tgt := 28) dX9_tape_15 rfl ra (fun hc => ?_) (fun hc => ?_)
    · have hwp := hT hc
      refine r_bipush C dX9_tape_28 bpb_m2 ?_
      exact hR _ _ _ _ _ _ dX9_tape_30 trivial hwp hw
    · have hwp := hF hc
      refine r_iload_n C dX9_tape_18 hl rfl ?_
      obtain ⟨ra, hT, hF⟩ := hwp
      refine r_if_lt C (tgt := 31) dX9_tape_19 rfl ra (fun hc => ?_) (fun hc => ?_)
      · have hwp := hT hc
        exact b_X9_tape_31 C hA hR hwp hw (lh_mask hl [true, true, true, true, false])
      · have hwp := hF hc
        refine r_iload_n C dX9_tape_22 hl rfl ?_
        refine r_bipush C dX9_tape_23 bpb_60 ?_
        obtain ⟨ra, hT, hF⟩ := hwp
        refine r_icmp_le C (tgt := 31) dX9_tape_25 rfl ra (by decide) (fun hc => ?_) (fun hc => ?_)
        · have hwp := hT hc
          exact b_X9_tape_31 C hA hR hwp hw (lh_mask hl [true, true, true, true, false])
        · have hwp := hF hc
          refine r_bipush C dX9_tape_28 bpb_m2 ?_
          exact hR _ _ _ _ _ _ dX9_tape_30 trivial hwp hw
  · have hwp := hF hc
    refine r_const C dX9_tape_7 ?_
    exact hR _ _ _ _ _ _ dX9_tape_8 trivial hwp hw
set_option maxRecDepth 100000 in
theorem c_X9_tape {l : Launch} {D : va_G} {cA : FieldType → ClassId} {h : Nat → Nat} {σ : St} {sz : Nat} {v1 v2 v3 : Int} {post : Int → St → Prop} (hwp : wp_X9_tape σ v1 v2 v3 post) : Met l yX9_tape wsX9_tape rm_X9_tape (va_Pc [.ref (h 0), iv v1, iv v2, iv v3] (preS D cA K_M h σ sz)) (QI D cA K_M h sz post) 0 0 (aA K_M.length h sz) := by
  refine mk_met (cc := cX9_tape) (nL := 5) (ret := (some .int)) (own := RX9) 1 (by decide) rfl rfl rfl rfl ?_
  intro p e s m args below meth c ls hsz C hw hl hA
  subst hsz
  exact b_X9_tape_0 C hA (rt_i C _) hwp hw hl
-- X9_item
theorem hi_X9_item_X9 : ∀ w ∈ u_ws RX9 TX9 20, w ∈ wsX9_item := by decide +kernel
theorem hf_X9_item_39 : Cond.fieldLink RX9 39 (TX9 16).1 (TX9 16).2.1 (TX9 16).2.2.1 ∈ wsX9_item := by decide +kernel
theorem hf_X9_item_42 : Cond.fieldLink RX9 42 (TX9 17).1 (TX9 17).2.1 (TX9 17).2.2.1 ∈ wsX9_item := by decide +kernel
theorem hf_X9_item_45 : Cond.fieldLink RX9 45 (TX9 18).1 (TX9 18).2.1 (TX9 18).2.2.1 ∈ wsX9_item := by decide +kernel
def rm_X9_item : Room := { frames := 2, cells := 0, slots := 0, locals := 42 }
set_option maxRecDepth 100000 in
theorem b_X9_item_117 {post : Int → St → Prop} (C : cx p s m args meth c wsX9_item RX9 cX9_item 6 (some .int) D cA) (hA : ∀ q, s.heap.size ≤ q → A q) (hR : RtI p l e rm_X9_item s m args below meth c Q cX9_item D cA K_M h A (fun _ => True) post) : ∀ {s1 s2 : Int} {σ : St} {H : Heap} {locs : List Loc} {ls : Array Slot}, wp_X9_item_117 post s1 s2 σ → wd D cA K_M h σ A s.heap H locs → lh ls 6 [none, none, none, none, none, none] → W p l e rm_X9_item s m args below meth c H locs 0 0 Q (F0 m 117 ls [jv s2, iv s1, .ref (h 12)]) := by
  intro s1 s2 σ H locs ls hwp hw hl
  obtain ⟨h0, h1, hwp⟩ := hwp
  refine r_last C hw 12 rfl rfl h0 h1 dX9_item_117 (fun H locs hw => ?_)
  have hwp := hwp _ rfl
  refine r_const C dX9_item_118 ?_
  exact hR _ _ _ _ _ _ dX9_item_119 trivial hwp hw
set_option maxRecDepth 100000 in
theorem b_X9_item_0 {post : Int → St → Prop} (C : cx p s m args meth c wsX9_item RX9 cX9_item 6 (some .int) D cA) (hA : ∀ q, s.heap.size ≤ q → A q) (hR : RtI p l e rm_X9_item s m args below meth c Q cX9_item D cA K_M h A (fun _ => True) post) : ∀ {v1 v2 v3 : Int} {σ : St} {H : Heap} {locs : List Loc} {ls : Array Slot}, wp_X9_item σ v1 v2 v3 post → wd D cA K_M h σ A s.heap H locs → lh ls 6 [some (.ref (h 0)), some (iv v1), some (iv v2), some (jv v3), none, none] → W p l e rm_X9_item s m args below meth c H locs 0 0 Q (F0 m 0 ls []) := by
  intro v1 v2 v3 σ H locs ls hwp hw hl
  refine r_iload_n C dX9_item_0 hl rfl ?_
  refine r_cIr hA hw sb_M_0_0_36 (run_s C hw sb_M_0_0_36 (c_X9_isTape hwp) (va_cwS 1 C.2.2.2.2.1 gX9_item_X9_isTape rfl rfl rfl hd_X9_isTape ⟨Nat.le_of_ble_eq_true rfl, Nat.le_of_ble_eq_true rfl⟩) rfl rfl rfl hl dX9_item_1 ⟨Nat.zero_le _, Nat.zero_le _⟩) (fun r H locs hwp hw => ?_)
  obtain ⟨ra, hT, hF⟩ := hwp
  refine r_if_ne C (tgt := 9) dX9_item_4 rfl ra (fun hc => ?_) (fun hc => ?_)
  · have hwp := hT hc
    refine r_aload_n C dX9_item_9 hl rfl ?_
    refine r_getr C hw clX9 0 rfl 16 10 rfl (Nat.le_of_ble_eq_true rfl) hi_X9_item_X9 hf_X9_item_39 dX9_item_10 ?_
    refine r_iload_n C dX9_item_13 hl rfl ?_
    obtain ⟨h0, h1, hwp⟩ := hwp
    refine r_iald C hw 10 rfl rfl h0 h1 dX9_item_14 ?_
    obtain ⟨ra, hT, hF⟩ := hwp
    refine r_if_ne C (tgt := 21) dX9_item_15 rfl ra (fun hc => ?_) (fun hc => ?_)
    · have hwp := hT hc
      refine r_iload_n C dX9_item_21 hl rfl ?_
      refine r_const C dX9_item_22 ?_
      refine r_aload_n C dX9_item_23 hl rfl ?_
      refine r_getr C hw clX9 0 rfl 17 11 rfl (Nat.le_of_ble_eq_true rfl) hi_X9_item_X9 hf_X9_item_42 dX9_item_24 ?_
      refine r_iload_n C dX9_item_27 hl rfl ?_
      obtain ⟨h0, h1, hwp⟩ := hwp
      refine r_iald C hw 11 rfl rfl h0 h1 dX9_item_28 ?_
      refine r_const C dX9_item_29 ?_
      refine r_isub C dX9_item_30 ?_
      refine r_cIr hA hw sb_M_0_0_36 (run_s C hw sb_M_0_0_36 (c_X9_within hwp) (va_cwS 3 C.2.2.2.2.1 gX9_item_X9_within rfl rfl rfl hd_X9_within ⟨Nat.le_of_ble_eq_true rfl, Nat.le_of_ble_eq_true rfl⟩) rfl rfl rfl hl dX9_item_31 ⟨Nat.zero_le _, Nat.zero_le _⟩) (fun r H locs hwp hw => ?_)
      obtain ⟨ra, hT, hF⟩ := hwp
      refine r_if_ne C (tgt := 40) dX9_item_34 rfl ra (fun hc => ?_) (fun hc => ?_)
      · have hwp := hT hc
        refine r_aload_n C dX9_item_40 hl rfl ?_
        refine r_getr C hw clX9 0 rfl 16 10 rfl (Nat.le_of_ble_eq_true rfl) hi_X9_item_X9 hf_X9_item_39 dX9_item_41 ?_
        refine r_iload_n C dX9_item_44 hl rfl ?_
        obtain ⟨h0, h1, hwp⟩ := hwp
        refine r_iald C hw 10 rfl rfl h0 h1 dX9_item_45 ?_
        refine r_istore C dX9_item_46 hl (Nat.le_of_ble_eq_true rfl) (Nat.le_of_ble_eq_true rfl) rfl (fun ls hl => ?_)
        refine r_aload_n C dX9_item_48 hl rfl ?_
        refine r_getr C hw clX9 0 rfl 18 12 rfl (Nat.le_of_ble_eq_true rfl) hi_X9_item_X9 hf_X9_item_45 dX9_item_49 ?_
        refine r_bipush C dX9_item_52 bpb_60 ?_
        refine r_iload_n C dX9_item_54 hl rfl ?_
        refine r_imul C dX9_item_55 ?_
        refine r_iload_n C dX9_item_56 hl rfl ?_
        refine r_iadd C dX9_item_57 ?_
        refine r_iload C dX9_item_58 hl rfl ?_
        refine r_const C dX9_item_60 ?_
        obtain ⟨ra, hT, hF⟩ := hwp
        refine r_icmp_ne C (tgt := 71) dX9_item_61 rfl ra (by decide) (fun hc => ?_) (fun hc => ?_)
        · have hwp := hT hc
          refine r_iload C dX9_item_71 hl rfl ?_
          refine r_const C dX9_item_73 ?_
          obtain ⟨ra, hT, hF⟩ := hwp
          refine r_icmp_ne C (tgt := 84) dX9_item_74 rfl ra (by decide) (fun hc => ?_) (fun hc => ?_)
          · have hwp := hT hc
            refine r_iload C dX9_item_84 hl rfl ?_
            refine r_const C dX9_item_86 ?_
            obtain ⟨ra, hT, hF⟩ := hwp
            refine r_icmp_ne C (tgt := 96) dX9_item_87 rfl ra (by decide) (fun hc => ?_) (fun hc => ?_)
            · have hwp := hT hc
              refine r_iload C dX9_item_96 hl rfl ?_
              refine r_const C dX9_item_98 ?_
              obtain ⟨ra, hT, hF⟩ := hwp
              refine r_icmp_ne C (tgt := 106) dX9_item_99 rfl ra (by decide) (fun hc => ?_) (fun hc => ?_)
              · have hwp := hT hc
                refine r_lload_n C dX9_item_106 hl rfl ?_
                refine r_lconst C 0 rfl dX9_item_107 ?_
                obtain ⟨ra, rb, hwp⟩ := hwp
                refine r_lcmp C dX9_item_108 ra rb ?_
                obtain ⟨ra, hT, hF⟩ := hwp
                refine r_if_eq C (tgt := 116) dX9_item_109 rfl ra (fun hc => ?_) (fun hc => ?_)
                · have hwp := hT hc
                  refine r_lconst C 0 rfl dX9_item_116 ?_
                  exact b_X9_item_117 C hA hR hwp hw (lh_mask hl [false, false, false, false, false, false])
                · have hwp := hF hc
                  refine r_lconst C 1 rfl dX9_item_112 ?_
                  refine r_goto C (tgt := 117) dX9_item_113 rfl ?_
                  exact b_X9_item_117 C hA hR hwp hw (lh_mask hl [false, false, false, false, false, false])
              · have hwp := hF hc
                refine r_lload_n C dX9_item_102 hl rfl ?_
                refine r_goto C (tgt := 117) dX9_item_103 rfl ?_
                exact b_X9_item_117 C hA hR hwp hw (lh_mask hl [false, false, false, false, false, false])
            · have hwp := hF hc
              refine r_lload_n C dX9_item_90 hl rfl ?_
              refine r_l2i C dX9_item_91 ?_
              obtain ⟨ra, hwp⟩ := hwp
              refine r_i2l C dX9_item_92 ra ?_
              refine r_goto C (tgt := 117) dX9_item_93 rfl ?_
              exact b_X9_item_117 C hA hR hwp hw (lh_mask hl [false, false, false, false, false, false])
          · have hwp := hF hc
            refine r_lload_n C dX9_item_77 hl rfl ?_
            refine r_l2i C dX9_item_78 ?_
            refine r_i2s C dX9_item_79 ?_
            obtain ⟨ra, hwp⟩ := hwp
            refine r_i2l C dX9_item_80 ra ?_
            refine r_goto C (tgt := 117) dX9_item_81 rfl ?_
            exact b_X9_item_117 C hA hR hwp hw (lh_mask hl [false, false, false, false, false, false])
        · have hwp := hF hc
          refine r_lload_n C dX9_item_64 hl rfl ?_
          refine r_l2i C dX9_item_65 ?_
          refine r_i2b C dX9_item_66 ?_
          obtain ⟨ra, hwp⟩ := hwp
          refine r_i2l C dX9_item_67 ra ?_
          refine r_goto C (tgt := 117) dX9_item_68 rfl ?_
          exact b_X9_item_117 C hA hR hwp hw (lh_mask hl [false, false, false, false, false, false])
      · have hwp := hF hc
        refine r_bipush C dX9_item_37 bpb_m13 ?_
        exact hR _ _ _ _ _ _ dX9_item_39 trivial hwp hw
    · have hwp := hF hc
      refine r_bipush C dX9_item_18 bpb_m11 ?_
      exact hR _ _ _ _ _ _ dX9_item_20 trivial hwp hw
  · have hwp := hF hc
    refine r_const C dX9_item_7 ?_
    exact hR _ _ _ _ _ _ dX9_item_8 trivial hwp hw
set_option maxRecDepth 100000 in
theorem c_X9_item {l : Launch} {D : va_G} {cA : FieldType → ClassId} {h : Nat → Nat} {σ : St} {sz : Nat} {v1 v2 v3 : Int} {post : Int → St → Prop} (hwp : wp_X9_item σ v1 v2 v3 post) : Met l yX9_item wsX9_item rm_X9_item (va_Pc [.ref (h 0), iv v1, iv v2, jv v3] (preS D cA K_M h σ sz)) (QI D cA K_M h sz post) 0 0 (aA K_M.length h sz) := by
  refine mk_met (cc := cX9_item) (nL := 6) (ret := (some .int)) (own := RX9) 1 (by decide) rfl rfl rfl rfl ?_
  intro p e s m args below meth c ls hsz C hw hl hA
  subst hsz
  exact b_X9_item_0 C hA (rt_i C _) hwp hw hl
-- X9_peek
theorem hi_X9_peek_X9 : ∀ w ∈ u_ws RX9 TX9 20, w ∈ wsX9_peek := by decide +kernel
theorem hf_X9_peek_42 : Cond.fieldLink RX9 42 (TX9 17).1 (TX9 17).2.1 (TX9 17).2.2.1 ∈ wsX9_peek := by decide +kernel
theorem hf_X9_peek_45 : Cond.fieldLink RX9 45 (TX9 18).1 (TX9 18).2.1 (TX9 18).2.2.1 ∈ wsX9_peek := by decide +kernel
def rm_X9_peek : Room := { frames := 2, cells := 0, slots := 0, locals := 42 }
set_option maxRecDepth 100000 in
theorem b_X9_peek_37 {σ : St} {post : Int → Prop} (C : cx p s m args meth c wsX9_peek RX9 cX9_peek 3 (some .long) D cA) (hA : ∀ q, s.heap.size ≤ q → A q) (hR : RtL p l e rm_X9_peek s m args below meth c Q cX9_peek D cA K_M h A (fun r σ' => σ' = σ ∧ post r)) : ∀ {H : Heap} {locs : List Loc} {ls : Array Slot}, wp_X9_peek_37 post σ → wd D cA K_M h σ A s.heap H locs → lh ls 3 [none, none, none] → W p l e rm_X9_peek s m args below meth c H locs 0 0 Q (F0 m 37 ls []) := by
  intro H locs ls hwp hw hl
  refine r_ldc2 C (n := -9223372036854775808) (by decide +kernel) dX9_peek_37 ?_
  exact hR _ _ _ _ _ _ dX9_peek_40 ⟨rfl, hwp⟩ hw
set_option maxRecDepth 100000 in
theorem b_X9_peek_0 {σ : St} {post : Int → Prop} (C : cx p s m args meth c wsX9_peek RX9 cX9_peek 3 (some .long) D cA) (hA : ∀ q, s.heap.size ≤ q → A q) (hR : RtL p l e rm_X9_peek s m args below meth c Q cX9_peek D cA K_M h A (fun r σ' => σ' = σ ∧ post r)) : ∀ {v1 v2 : Int} {H : Heap} {locs : List Loc} {ls : Array Slot}, wp_X9_peek σ v1 v2 post → wd D cA K_M h σ A s.heap H locs → lh ls 3 [some (.ref (h 0)), some (iv v1), some (iv v2)] → W p l e rm_X9_peek s m args below meth c H locs 0 0 Q (F0 m 0 ls []) := by
  intro v1 v2 H locs ls hwp hw hl
  refine r_iload_n C dX9_peek_0 hl rfl ?_
  refine r_cIr hA hw sb_M_0_0_36 (run_s C hw sb_M_0_0_36 (c_X9_isTape hwp) (va_cwS 1 C.2.2.2.2.1 gX9_peek_X9_isTape rfl rfl rfl hd_X9_isTape ⟨Nat.le_of_ble_eq_true rfl, Nat.le_of_ble_eq_true rfl⟩) rfl rfl rfl hl dX9_peek_1 ⟨Nat.zero_le _, Nat.zero_le _⟩) (fun r H locs hwp hw => ?_)
  obtain ⟨ra, hT, hF⟩ := hwp
  refine r_if_eq C (tgt := 37) dX9_peek_4 rfl ra (fun hc => ?_) (fun hc => ?_)
  · have hwp := hT hc
    exact b_X9_peek_37 C hA hR hwp hw (lh_mask hl [false, false, false])
  · have hwp := hF hc
    refine r_iload_n C dX9_peek_7 hl rfl ?_
    refine r_const C dX9_peek_8 ?_
    refine r_aload_n C dX9_peek_9 hl rfl ?_
    refine r_getr C hw clX9 0 rfl 17 11 rfl (Nat.le_of_ble_eq_true rfl) hi_X9_peek_X9 hf_X9_peek_42 dX9_peek_10 ?_
    refine r_iload_n C dX9_peek_13 hl rfl ?_
    obtain ⟨h0, h1, hwp⟩ := hwp
    refine r_iald C hw 11 rfl rfl h0 h1 dX9_peek_14 ?_
    refine r_const C dX9_peek_15 ?_
    refine r_isub C dX9_peek_16 ?_
    refine r_cIr hA hw sb_M_0_0_36 (run_s C hw sb_M_0_0_36 (c_X9_within hwp) (va_cwS 3 C.2.2.2.2.1 gX9_peek_X9_within rfl rfl rfl hd_X9_within ⟨Nat.le_of_ble_eq_true rfl, Nat.le_of_ble_eq_true rfl⟩) rfl rfl rfl hl dX9_peek_17 ⟨Nat.zero_le _, Nat.zero_le _⟩) (fun r H locs hwp hw => ?_)
    obtain ⟨ra, hT, hF⟩ := hwp
    refine r_if_eq C (tgt := 37) dX9_peek_20 rfl ra (fun hc => ?_) (fun hc => ?_)
    · have hwp := hT hc
      exact b_X9_peek_37 C hA hR hwp hw (lh_mask hl [false, false, false])
    · have hwp := hF hc
      refine r_aload_n C dX9_peek_23 hl rfl ?_
      refine r_getr C hw clX9 0 rfl 18 12 rfl (Nat.le_of_ble_eq_true rfl) hi_X9_peek_X9 hf_X9_peek_45 dX9_peek_24 ?_
      refine r_bipush C dX9_peek_27 bpb_60 ?_
      refine r_iload_n C dX9_peek_29 hl rfl ?_
      refine r_imul C dX9_peek_30 ?_
      refine r_iload_n C dX9_peek_31 hl rfl ?_
      refine r_iadd C dX9_peek_32 ?_
      obtain ⟨h0, h1, hwp⟩ := hwp
      refine r_lald C hw 12 rfl rfl h0 h1 dX9_peek_33 ?_
      refine r_goto C (tgt := 40) dX9_peek_34 rfl ?_
      exact hR _ _ _ _ _ _ dX9_peek_40 ⟨rfl, hwp⟩ hw
set_option maxRecDepth 100000 in
theorem c_X9_peek {l : Launch} {D : va_G} {cA : FieldType → ClassId} {h : Nat → Nat} {σ : St} {sz : Nat} {v1 v2 : Int} {post : Int → Prop} (hwp : wp_X9_peek σ v1 v2 post) : Met l yX9_peek wsX9_peek rm_X9_peek (va_Pc [.ref (h 0), iv v1, iv v2] (preS D cA K_M h σ sz)) (QL D cA K_M h sz (fun r σ' => σ' = σ ∧ post r)) 0 0 (aA K_M.length h sz) := by
  refine mk_met (cc := cX9_peek) (nL := 3) (ret := (some .long)) (own := RX9) 0 (by decide) rfl rfl rfl rfl ?_
  intro p e s m args below meth c ls hsz C hw hl hA
  subst hsz
  exact b_X9_peek_0 C hA (rt_l C _) hwp hw hl
-- X9_shift
theorem hi_X9_shift_X9 : ∀ w ∈ u_ws RX9 TX9 20, w ∈ wsX9_shift := by decide +kernel
theorem hf_X9_shift_39 : Cond.fieldLink RX9 39 (TX9 16).1 (TX9 16).2.1 (TX9 16).2.2.1 ∈ wsX9_shift := by decide +kernel
theorem hf_X9_shift_42 : Cond.fieldLink RX9 42 (TX9 17).1 (TX9 17).2.1 (TX9 17).2.2.1 ∈ wsX9_shift := by decide +kernel
theorem hf_X9_shift_45 : Cond.fieldLink RX9 45 (TX9 18).1 (TX9 18).2.1 (TX9 18).2.2.1 ∈ wsX9_shift := by decide +kernel
theorem hf_X9_shift_49 : Cond.fieldLink RX9 49 (TX9 19).1 (TX9 19).2.1 (TX9 19).2.2.1 ∈ wsX9_shift := by decide +kernel
def rm_X9_shift : Room := { frames := 2, cells := 0, slots := 0, locals := 42 }
set_option maxRecDepth 100000 in
theorem b_X9_shift_147 {post : Int → St → Prop} (C : cx p s m args meth c wsX9_shift RX9 cX9_shift 7 (some .int) D cA) (hA : ∀ q, s.heap.size ≤ q → A q) (hR : RtI p l e rm_X9_shift s m args below meth c Q cX9_shift D cA K_M h A (fun _ => True) post) : ∀ (n : Nat) {v3 v4 v5 v6 : Int} {σ : St} {H : Heap} {locs : List Loc} {ls : Array Slot}, wp_X9_shift_147 post n v3 v4 v5 v6 σ → wd D cA K_M h σ A s.heap H locs → lh ls 7 [some (.ref (h 0)), none, none, some (iv v3), some (iv v4), some (iv v5), some (iv v6)] → W p l e rm_X9_shift s m args below meth c H locs 0 0 Q (F0 m 147 ls []) := by
  intro n; induction n with
  | zero => intros; rename_i hwp _ _; exact hwp.elim
  | succ n ih =>
    intro v3 v4 v5 v6 σ H locs ls hwp hw hl
    refine r_iload C dX9_shift_147 hl rfl ?_
    refine r_iload C dX9_shift_149 hl rfl ?_
    obtain ⟨ra, rb, hT, hF⟩ := hwp
    refine r_icmp_ge C (tgt := 182) dX9_shift_151 rfl ra rb (fun hc => ?_) (fun hc => ?_)
    · have hwp := hT hc
      refine r_iload C dX9_shift_182 hl rfl ?_
      exact hR _ _ _ _ _ _ dX9_shift_184 trivial hwp hw
    · have hwp := hF hc
      refine r_aload_n C dX9_shift_154 hl rfl ?_
      refine r_getr C hw clX9 0 rfl 18 12 rfl (Nat.le_of_ble_eq_true rfl) hi_X9_shift_X9 hf_X9_shift_45 dX9_shift_155 ?_
      refine r_bipush C dX9_shift_158 bpb_60 ?_
      refine r_iload_n C dX9_shift_160 hl rfl ?_
      refine r_imul C dX9_shift_161 ?_
      refine r_iload C dX9_shift_162 hl rfl ?_
      refine r_iadd C dX9_shift_164 ?_
      refine r_iload C dX9_shift_165 hl rfl ?_
      refine r_iadd C dX9_shift_167 ?_
      refine r_aload_n C dX9_shift_168 hl rfl ?_
      refine r_getr C hw clX9 0 rfl 19 13 rfl (Nat.le_of_ble_eq_true rfl) hi_X9_shift_X9 hf_X9_shift_49 dX9_shift_169 ?_
      refine r_iload C dX9_shift_172 hl rfl ?_
      obtain ⟨h0, h1, hwp⟩ := hwp
      refine r_lald C hw 13 rfl rfl h0 h1 dX9_shift_174 ?_
      obtain ⟨h0, h1, hwp⟩ := hwp
      refine r_last C hw 12 rfl rfl h0 h1 dX9_shift_175 (fun H locs hw => ?_)
      have hwp := hwp _ rfl
      refine r_iinc C dX9_shift_176 hl rfl (Nat.le_of_ble_eq_true rfl) rfl (fun ls hl => ?_)
      refine r_goto C (tgt := 147) dX9_shift_179 rfl ?_
      exact ih hwp hw (lh_mask hl [true, false, false, true, true, true, true])
set_option maxRecDepth 100000 in
theorem b_X9_shift_110 {post : Int → St → Prop} (C : cx p s m args meth c wsX9_shift RX9 cX9_shift 7 (some .int) D cA) (hA : ∀ q, s.heap.size ≤ q → A q) (hR : RtI p l e rm_X9_shift s m args below meth c Q cX9_shift D cA K_M h A (fun _ => True) post) : ∀ (n : Nat) {v1 v2 v3 v4 v5 v6 : Int} {σ : St} {H : Heap} {locs : List Loc} {ls : Array Slot}, wp_X9_shift_110 post n v1 v2 v3 v4 v5 v6 σ → wd D cA K_M h σ A s.heap H locs → lh ls 7 [some (.ref (h 0)), some (iv v1), some (iv v2), some (iv v3), some (iv v4), some (iv v5), some (iv v6)] → W p l e rm_X9_shift s m args below meth c H locs 0 0 Q (F0 m 110 ls []) := by
  intro n; induction n with
  | zero => intros; rename_i hwp _ _; exact hwp.elim
  | succ n ih =>
    intro v1 v2 v3 v4 v5 v6 σ H locs ls hwp hw hl
    refine r_iload C dX9_shift_110 hl rfl ?_
    refine r_iload C dX9_shift_112 hl rfl ?_
    obtain ⟨ra, rb, hT, hF⟩ := hwp
    refine r_icmp_ge C (tgt := 144) dX9_shift_114 rfl ra rb (fun hc => ?_) (fun hc => ?_)
    · have hwp := hT hc
      refine r_const C dX9_shift_144 ?_
      refine r_istore C dX9_shift_145 hl (Nat.le_of_ble_eq_true rfl) (Nat.le_of_ble_eq_true rfl) rfl (fun ls hl => ?_)
      obtain ⟨n9, hwp⟩ := hwp
      exact b_X9_shift_147 C hA hR n9 hwp hw (lh_mask hl [true, false, false, true, true, true, true])
    · have hwp := hF hc
      refine r_aload_n C dX9_shift_117 hl rfl ?_
      refine r_getr C hw clX9 0 rfl 19 13 rfl (Nat.le_of_ble_eq_true rfl) hi_X9_shift_X9 hf_X9_shift_49 dX9_shift_118 ?_
      refine r_iload C dX9_shift_121 hl rfl ?_
      refine r_aload_n C dX9_shift_123 hl rfl ?_
      refine r_getr C hw clX9 0 rfl 18 12 rfl (Nat.le_of_ble_eq_true rfl) hi_X9_shift_X9 hf_X9_shift_45 dX9_shift_124 ?_
      refine r_bipush C dX9_shift_127 bpb_60 ?_
      refine r_iload_n C dX9_shift_129 hl rfl ?_
      refine r_imul C dX9_shift_130 ?_
      refine r_iload_n C dX9_shift_131 hl rfl ?_
      refine r_iadd C dX9_shift_132 ?_
      refine r_iload C dX9_shift_133 hl rfl ?_
      refine r_iadd C dX9_shift_135 ?_
      obtain ⟨h0, h1, hwp⟩ := hwp
      refine r_lald C hw 12 rfl rfl h0 h1 dX9_shift_136 ?_
      obtain ⟨h0, h1, hwp⟩ := hwp
      refine r_last C hw 13 rfl rfl h0 h1 dX9_shift_137 (fun H locs hw => ?_)
      have hwp := hwp _ rfl
      refine r_iinc C dX9_shift_138 hl rfl (Nat.le_of_ble_eq_true rfl) rfl (fun ls hl => ?_)
      refine r_goto C (tgt := 110) dX9_shift_141 rfl ?_
      exact ih hwp hw (lh_mask hl [true, true, true, true, true, true, true])
set_option maxRecDepth 100000 in
theorem b_X9_shift_0 {post : Int → St → Prop} (C : cx p s m args meth c wsX9_shift RX9 cX9_shift 7 (some .int) D cA) (hA : ∀ q, s.heap.size ≤ q → A q) (hR : RtI p l e rm_X9_shift s m args below meth c Q cX9_shift D cA K_M h A (fun _ => True) post) : ∀ {v1 v2 v3 v4 v5 : Int} {σ : St} {H : Heap} {locs : List Loc} {ls : Array Slot}, wp_X9_shift σ v1 v2 v3 v4 v5 post → wd D cA K_M h σ A s.heap H locs → lh ls 7 [some (.ref (h 0)), some (iv v1), some (iv v2), some (iv v3), some (iv v4), some (iv v5), none] → W p l e rm_X9_shift s m args below meth c H locs 0 0 Q (F0 m 0 ls []) := by
  intro v1 v2 v3 v4 v5 σ H locs ls hwp hw hl
  refine r_iload_n C dX9_shift_0 hl rfl ?_
  refine r_cIr hA hw sb_M_0_0_36 (run_s C hw sb_M_0_0_36 (c_X9_isTape hwp) (va_cwS 1 C.2.2.2.2.1 gX9_shift_X9_isTape rfl rfl rfl hd_X9_isTape ⟨Nat.le_of_ble_eq_true rfl, Nat.le_of_ble_eq_true rfl⟩) rfl rfl rfl hl dX9_shift_1 ⟨Nat.zero_le _, Nat.zero_le _⟩) (fun r H locs hwp hw => ?_)
  obtain ⟨ra, hT, hF⟩ := hwp
  refine r_if_eq C (tgt := 14) dX9_shift_4 rfl ra (fun hc => ?_) (fun hc => ?_)
  · have hwp := hT hc
    refine r_const C dX9_shift_14 ?_
    exact hR _ _ _ _ _ _ dX9_shift_15 trivial hwp hw
  · have hwp := hF hc
    refine r_iload_n C dX9_shift_7 hl rfl ?_
    refine r_cIr hA hw sb_M_0_0_36 (run_s C hw sb_M_0_0_36 (c_X9_isTape hwp) (va_cwS 1 C.2.2.2.2.1 gX9_shift_X9_isTape rfl rfl rfl hd_X9_isTape ⟨Nat.le_of_ble_eq_true rfl, Nat.le_of_ble_eq_true rfl⟩) rfl rfl rfl hl dX9_shift_8 ⟨Nat.zero_le _, Nat.zero_le _⟩) (fun r H locs hwp hw => ?_)
    obtain ⟨ra, hT, hF⟩ := hwp
    refine r_if_ne C (tgt := 16) dX9_shift_11 rfl ra (fun hc => ?_) (fun hc => ?_)
    · have hwp := hT hc
      refine r_aload_n C dX9_shift_16 hl rfl ?_
      refine r_getr C hw clX9 0 rfl 16 10 rfl (Nat.le_of_ble_eq_true rfl) hi_X9_shift_X9 hf_X9_shift_39 dX9_shift_17 ?_
      refine r_iload_n C dX9_shift_20 hl rfl ?_
      obtain ⟨h0, h1, hwp⟩ := hwp
      refine r_iald C hw 10 rfl rfl h0 h1 dX9_shift_21 ?_
      obtain ⟨ra, hT, hF⟩ := hwp
      refine r_if_eq C (tgt := 34) dX9_shift_22 rfl ra (fun hc => ?_) (fun hc => ?_)
      · have hwp := hT hc
        refine r_bipush C dX9_shift_34 bpb_m11 ?_
        exact hR _ _ _ _ _ _ dX9_shift_36 trivial hwp hw
      · have hwp := hF hc
        refine r_aload_n C dX9_shift_25 hl rfl ?_
        refine r_getr C hw clX9 0 rfl 16 10 rfl (Nat.le_of_ble_eq_true rfl) hi_X9_shift_X9 hf_X9_shift_39 dX9_shift_26 ?_
        refine r_iload_n C dX9_shift_29 hl rfl ?_
        obtain ⟨h0, h1, hwp⟩ := hwp
        refine r_iald C hw 10 rfl rfl h0 h1 dX9_shift_30 ?_
        obtain ⟨ra, hT, hF⟩ := hwp
        refine r_if_ne C (tgt := 37) dX9_shift_31 rfl ra (fun hc => ?_) (fun hc => ?_)
        · have hwp := hT hc
          refine r_aload_n C dX9_shift_37 hl rfl ?_
          refine r_getr C hw clX9 0 rfl 16 10 rfl (Nat.le_of_ble_eq_true rfl) hi_X9_shift_X9 hf_X9_shift_39 dX9_shift_38 ?_
          refine r_iload_n C dX9_shift_41 hl rfl ?_
          obtain ⟨h0, h1, hwp⟩ := hwp
          refine r_iald C hw 10 rfl rfl h0 h1 dX9_shift_42 ?_
          refine r_aload_n C dX9_shift_43 hl rfl ?_
          refine r_getr C hw clX9 0 rfl 16 10 rfl (Nat.le_of_ble_eq_true rfl) hi_X9_shift_X9 hf_X9_shift_39 dX9_shift_44 ?_
          refine r_iload_n C dX9_shift_47 hl rfl ?_
          obtain ⟨h0, h1, hwp⟩ := hwp
          refine r_iald C hw 10 rfl rfl h0 h1 dX9_shift_48 ?_
          obtain ⟨ra, rb, hT, hF⟩ := hwp
          refine r_icmp_eq C (tgt := 55) dX9_shift_49 rfl ra rb (fun hc => ?_) (fun hc => ?_)
          · have hwp := hT hc
            refine r_iload C dX9_shift_55 hl rfl ?_
            obtain ⟨ra, hT, hF⟩ := hwp
            refine r_if_lt C (tgt := 104) dX9_shift_57 rfl ra (fun hc => ?_) (fun hc => ?_)
            · have hwp := hT hc
              refine r_bipush C dX9_shift_104 bpb_m13 ?_
              exact hR _ _ _ _ _ _ dX9_shift_106 trivial hwp hw
            · have hwp := hF hc
              refine r_iload_n C dX9_shift_60 hl rfl ?_
              obtain ⟨ra, hT, hF⟩ := hwp
              refine r_if_lt C (tgt := 104) dX9_shift_61 rfl ra (fun hc => ?_) (fun hc => ?_)
              · have hwp := hT hc
                refine r_bipush C dX9_shift_104 bpb_m13 ?_
                exact hR _ _ _ _ _ _ dX9_shift_106 trivial hwp hw
              · have hwp := hF hc
                refine r_iload C dX9_shift_64 hl rfl ?_
                obtain ⟨ra, hT, hF⟩ := hwp
                refine r_if_lt C (tgt := 104) dX9_shift_66 rfl ra (fun hc => ?_) (fun hc => ?_)
                · have hwp := hT hc
                  refine r_bipush C dX9_shift_104 bpb_m13 ?_
                  exact hR _ _ _ _ _ _ dX9_shift_106 trivial hwp hw
                · have hwp := hF hc
                  refine r_iload_n C dX9_shift_69 hl rfl ?_
                  obtain ⟨ra, hwp⟩ := hwp
                  refine r_i2l C dX9_shift_70 ra ?_
                  refine r_iload C dX9_shift_71 hl rfl ?_
                  obtain ⟨ra, hwp⟩ := hwp
                  refine r_i2l C dX9_shift_73 ra ?_
                  refine r_ladd C dX9_shift_74 ?_
                  refine r_aload_n C dX9_shift_75 hl rfl ?_
                  refine r_getr C hw clX9 0 rfl 17 11 rfl (Nat.le_of_ble_eq_true rfl) hi_X9_shift_X9 hf_X9_shift_42 dX9_shift_76 ?_
                  refine r_iload_n C dX9_shift_79 hl rfl ?_
                  obtain ⟨h0, h1, hwp⟩ := hwp
                  refine r_iald C hw 11 rfl rfl h0 h1 dX9_shift_80 ?_
                  obtain ⟨ra, hwp⟩ := hwp
                  refine r_i2l C dX9_shift_81 ra ?_
                  obtain ⟨ra, rb, hwp⟩ := hwp
                  refine r_lcmp C dX9_shift_82 ra rb ?_
                  obtain ⟨ra, hT, hF⟩ := hwp
                  refine r_if_gt C (tgt := 104) dX9_shift_83 rfl ra (fun hc => ?_) (fun hc => ?_)
                  · have hwp := hT hc
                    refine r_bipush C dX9_shift_104 bpb_m13 ?_
                    exact hR _ _ _ _ _ _ dX9_shift_106 trivial hwp hw
                  · have hwp := hF hc
                    refine r_iload C dX9_shift_86 hl rfl ?_
                    obtain ⟨ra, hwp⟩ := hwp
                    refine r_i2l C dX9_shift_88 ra ?_
                    refine r_iload C dX9_shift_89 hl rfl ?_
                    obtain ⟨ra, hwp⟩ := hwp
                    refine r_i2l C dX9_shift_91 ra ?_
                    refine r_ladd C dX9_shift_92 ?_
                    refine r_aload_n C dX9_shift_93 hl rfl ?_
                    refine r_getr C hw clX9 0 rfl 17 11 rfl (Nat.le_of_ble_eq_true rfl) hi_X9_shift_X9 hf_X9_shift_42 dX9_shift_94 ?_
                    refine r_iload_n C dX9_shift_97 hl rfl ?_
                    obtain ⟨h0, h1, hwp⟩ := hwp
                    refine r_iald C hw 11 rfl rfl h0 h1 dX9_shift_98 ?_
                    obtain ⟨ra, hwp⟩ := hwp
                    refine r_i2l C dX9_shift_99 ra ?_
                    obtain ⟨ra, rb, hwp⟩ := hwp
                    refine r_lcmp C dX9_shift_100 ra rb ?_
                    obtain ⟨ra, hT, hF⟩ := hwp
                    refine r_if_le C (tgt := 107) dX9_shift_101 rfl ra (fun hc => ?_) (fun hc => ?_)
                    · have hwp := hT hc
                      refine r_const C dX9_shift_107 ?_
                      refine r_istore C dX9_shift_108 hl (Nat.le_of_ble_eq_true rfl) (Nat.le_of_ble_eq_true rfl) rfl (fun ls hl => ?_)
                      obtain ⟨n9, hwp⟩ := hwp
                      exact b_X9_shift_110 C hA hR n9 hwp hw (lh_mask hl [true, true, true, true, true, true, true])
                    · have hwp := hF hc
                      refine r_bipush C dX9_shift_104 bpb_m13 ?_
                      exact hR _ _ _ _ _ _ dX9_shift_106 trivial hwp hw
          · have hwp := hF hc
            refine r_bipush C dX9_shift_52 bpb_m12 ?_
            exact hR _ _ _ _ _ _ dX9_shift_54 trivial hwp hw
        · have hwp := hF hc
          refine r_bipush C dX9_shift_34 bpb_m11 ?_
          exact hR _ _ _ _ _ _ dX9_shift_36 trivial hwp hw
    · have hwp := hF hc
      refine r_const C dX9_shift_14 ?_
      exact hR _ _ _ _ _ _ dX9_shift_15 trivial hwp hw
set_option maxRecDepth 100000 in
theorem c_X9_shift {l : Launch} {D : va_G} {cA : FieldType → ClassId} {h : Nat → Nat} {σ : St} {sz : Nat} {v1 v2 v3 v4 v5 : Int} {post : Int → St → Prop} (hwp : wp_X9_shift σ v1 v2 v3 v4 v5 post) : Met l yX9_shift wsX9_shift rm_X9_shift (va_Pc [.ref (h 0), iv v1, iv v2, iv v3, iv v4, iv v5] (preS D cA K_M h σ sz)) (QI D cA K_M h sz post) 0 0 (aA K_M.length h sz) := by
  refine mk_met (cc := cX9_shift) (nL := 7) (ret := (some .int)) (own := RX9) 1 (by decide) rfl rfl rfl rfl ?_
  intro p e s m args below meth c ls hsz C hw hl hA
  subst hsz
  exact b_X9_shift_0 C hA (rt_i C _) hwp hw hl
end
