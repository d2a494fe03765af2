section
variable {p : Program} {l : Launch} {e : Env} {s : State} {m : MethodId} {args : Array Value} {below : List Frame} {meth : Method} {c : Code} {Q : State → Prop} {D : va_G} {cA : FieldType → ClassId} {h : Nat → Nat} {A : Nat → Prop}
-- X6_begin
theorem hi_X6_begin_X6 : ∀ w ∈ u_ws RX6 TX6 3, w ∈ wsX6_begin := by decide +kernel
theorem hf_X6_begin_9 : Cond.fieldLink RX6 9 (TX6 0).1 (TX6 0).2.1 (TX6 0).2.2.1 ∈ wsX6_begin := by decide +kernel
theorem hf_X6_begin_15 : Cond.fieldLink RX6 15 (TX6 1).1 (TX6 1).2.1 (TX6 1).2.2.1 ∈ wsX6_begin := by decide +kernel
theorem hf_X6_begin_18 : Cond.fieldLink RX6 18 (TX6 2).1 (TX6 2).2.1 (TX6 2).2.2.1 ∈ wsX6_begin := by decide +kernel
def rm_X6_begin : Room := { frames := 0, cells := 0, slots := 0, locals := 0 }
set_option maxRecDepth 100000 in
theorem b_X6_begin_12 {post : St → Prop} (C : cx p s m args meth c wsX6_begin RX6 cX6_begin 4 none D cA) (hA : ∀ q, s.heap.size ≤ q → A q) (hR : RtV p l e rm_X6_begin s m args below meth c Q cX6_begin D cA K_Tape h A post) : ∀ (n : Nat) {v3 : Int} {σ : St} {H : Heap} {locs : List Loc} {ls : Array Slot}, wp_X6_begin_12 post n v3 σ → wd D cA K_Tape h σ A s.heap H locs → lh ls 4 [some (.ref (h 0)), none, none, some (iv v3)] → W p l e rm_X6_begin s m args below meth c H locs 0 0 Q (F0 m 12 ls []) := by
  intro n; induction n with
  | zero => intros; rename_i hwp _ _; exact hwp.elim
  | succ n ih =>
    intro v3 σ H locs ls hwp hw hl
    refine r_iload_n C dX6_begin_12 hl rfl ?_
    refine r_bipush C dX6_begin_13 bpb_60 ?_
    obtain ⟨ra, hT, hF⟩ := hwp
    refine r_icmp_ge C (tgt := 31) dX6_begin_15 rfl ra (by decide) (fun hc => ?_) (fun hc => ?_)
    · have hwp := hT hc
      exact hR _ _ _ _ _ dX6_begin_31 hwp hw
    · have hwp := hF hc
      refine r_aload_n C dX6_begin_18 hl rfl ?_
      refine r_getr C hw clX6 0 rfl 2 1 rfl (Nat.le_of_ble_eq_true rfl) hi_X6_begin_X6 hf_X6_begin_18 dX6_begin_19 ?_
      refine r_iload_n C dX6_begin_22 hl rfl ?_
      refine r_lconst C 0 rfl dX6_begin_23 ?_
      obtain ⟨h0, h1, hwp⟩ := hwp
      refine r_last C hw 1 rfl rfl h0 h1 dX6_begin_24 (fun H locs hw => ?_)
      have hwp := hwp _ rfl
      refine r_iinc C dX6_begin_25 hl rfl (Nat.le_of_ble_eq_true rfl) rfl (fun ls hl => ?_)
      refine r_goto C (tgt := 12) dX6_begin_28 rfl ?_
      exact ih hwp hw (lh_mask hl [true, false, false, true])
set_option maxRecDepth 100000 in
theorem b_X6_begin_0 {post : St → Prop} (C : cx p s m args meth c wsX6_begin RX6 cX6_begin 4 none D cA) (hA : ∀ q, s.heap.size ≤ q → A q) (hR : RtV p l e rm_X6_begin s m args below meth c Q cX6_begin D cA K_Tape h A post) : ∀ {v1 v2 : Int} {σ : St} {H : Heap} {locs : List Loc} {ls : Array Slot}, wp_X6_begin σ v1 v2 post → wd D cA K_Tape h σ A s.heap H locs → lh ls 4 [some (.ref (h 0)), some (iv v1), some (iv v2), none] → W p l e rm_X6_begin s m args below meth c H locs 0 0 Q (F0 m 0 ls []) := by
  intro v1 v2 σ H locs ls hwp hw hl
  refine r_aload_n C dX6_begin_0 hl rfl ?_
  refine r_iload_n C dX6_begin_1 hl rfl ?_
  refine r_put C hw clX6 0 rfl 0 0 rfl rfl (Nat.le_of_ble_eq_true rfl) hi_X6_begin_X6 hf_X6_begin_9 rfl ⟨nar_i _, fit_i _⟩ dX6_begin_2 (fun H locs hw => ?_)
  have hwp := hwp _ rfl
  refine r_aload_n C dX6_begin_5 hl rfl ?_
  refine r_iload_n C dX6_begin_6 hl rfl ?_
  refine r_put C hw clX6 0 rfl 1 1 rfl rfl (Nat.le_of_ble_eq_true rfl) hi_X6_begin_X6 hf_X6_begin_15 rfl ⟨nar_i _, fit_i _⟩ dX6_begin_7 (fun H locs hw => ?_)
  have hwp := hwp _ rfl
  refine r_const C dX6_begin_10 ?_
  refine r_istore_n C dX6_begin_11 hl (Nat.le_of_ble_eq_true rfl) (Nat.le_of_ble_eq_true rfl) rfl (fun ls hl => ?_)
  obtain ⟨n9, hwp⟩ := hwp
  exact b_X6_begin_12 C hA hR n9 hwp hw (lh_mask hl [true, false, false, true])
set_option maxRecDepth 100000 in
theorem c_X6_begin {l : Launch} {D : va_G} {cA : FieldType → ClassId} {h : Nat → Nat} {σ : St} {sz : Nat} {v1 v2 : Int} {post : St → Prop} (hwp : wp_X6_begin σ v1 v2 post) : Met l yX6_begin wsX6_begin rm_X6_begin (va_Pc [.ref (h 0), iv v1, iv v2] (preS D cA K_Tape h σ sz)) (QV D cA K_Tape h sz post) 0 0 (aA K_Tape.length h sz) := by
  refine mk_met (cc := cX6_begin) (nL := 4) (ret := none) (own := RX6) 1 (by decide) rfl rfl rfl rfl ?_
  intro p e s m args below meth c ls hsz C hw hl hA
  subst hsz
  exact b_X6_begin_0 C hA (rt_v C _) hwp hw hl
-- X6_has
theorem hi_X6_has_X6 : ∀ w ∈ u_ws RX6 TX6 3, w ∈ wsX6_has := by decide +kernel
theorem hf_X6_has_15 : Cond.fieldLink RX6 15 (TX6 1).1 (TX6 1).2.1 (TX6 1).2.2.1 ∈ wsX6_has := by decide +kernel
def rm_X6_has : Room := { frames := 0, cells := 0, slots := 0, locals := 0 }
set_option maxRecDepth 100000 in
theorem b_X6_has_0 {σ : St} {post : Int → Prop} (C : cx p s m args meth c wsX6_has RX6 cX6_has 3 (some .boolean) D cA) (hA : ∀ q, s.heap.size ≤ q → A q) (hR : RtI p l e rm_X6_has s m args below meth c Q cX6_has D cA K_Tape h A (fun x => x = 0 ∨ x = 1) (fun r σ' => σ' = σ ∧ post r)) : ∀ {v1 v2 : Int} {H : Heap} {locs : List Loc} {ls : Array Slot}, wp_X6_has σ v1 v2 post → wd D cA K_Tape h σ A s.heap H locs → lh ls 3 [some (.ref (h 0)), some (iv v1), some (iv v2)] → W p l e rm_X6_has s m args below meth c H locs 0 0 Q (F0 m 0 ls []) := by
  intro v1 v2 H locs ls hwp hw hl
  refine r_iload_n C dX6_has_0 hl rfl ?_
  obtain ⟨ra, hT, hF⟩ := hwp
  refine r_if_lt C (tgt := 30) dX6_has_1 rfl ra (fun hc => ?_) (fun hc => ?_)
  · have hwp := hT hc
    refine r_const C dX6_has_30 ?_
    exact hR _ _ _ _ _ _ dX6_has_31 (Or.inl rfl) ⟨rfl, hwp⟩ hw
  · have hwp := hF hc
    refine r_iload_n C dX6_has_4 hl rfl ?_
    obtain ⟨ra, hT, hF⟩ := hwp
    refine r_if_lt C (tgt := 30) dX6_has_5 rfl ra (fun hc => ?_) (fun hc => ?_)
    · have hwp := hT hc
      refine r_const C dX6_has_30 ?_
      exact hR _ _ _ _ _ _ dX6_has_31 (Or.inl rfl) ⟨rfl, hwp⟩ hw
    · have hwp := hF hc
      refine r_iload_n C dX6_has_8 hl rfl ?_
      refine r_aload_n C dX6_has_9 hl rfl ?_
      refine r_get C hw clX6 0 rfl 1 1 rfl rfl (Nat.le_of_ble_eq_true rfl) hi_X6_has_X6 hf_X6_has_15 dX6_has_10 ?_
      obtain ⟨ra, rb, hT, hF⟩ := hwp
      refine r_icmp_gt C (tgt := 30) dX6_has_13 rfl ra rb (fun hc => ?_) (fun hc => ?_)
      · have hwp := hT hc
        refine r_const C dX6_has_30 ?_
        exact hR _ _ _ _ _ _ dX6_has_31 (Or.inl rfl) ⟨rfl, hwp⟩ hw
      · have hwp := hF hc
        refine r_iload_n C dX6_has_16 hl rfl ?_
        refine r_aload_n C dX6_has_17 hl rfl ?_
        refine r_get C hw clX6 0 rfl 1 1 rfl rfl (Nat.le_of_ble_eq_true rfl) hi_X6_has_X6 hf_X6_has_15 dX6_has_18 ?_
        refine r_iload_n C dX6_has_21 hl rfl ?_
        refine r_isub C dX6_has_22 ?_
        obtain ⟨ra, rb, hT, hF⟩ := hwp
        refine r_icmp_gt C (tgt := 30) dX6_has_23 rfl ra rb (fun hc => ?_) (fun hc => ?_)
        · have hwp := hT hc
          refine r_const C dX6_has_30 ?_
          exact hR _ _ _ _ _ _ dX6_has_31 (Or.inl rfl) ⟨rfl, hwp⟩ hw
        · have hwp := hF hc
          refine r_const C dX6_has_26 ?_
          refine r_goto C (tgt := 31) dX6_has_27 rfl ?_
          exact hR _ _ _ _ _ _ dX6_has_31 (Or.inr rfl) ⟨rfl, hwp⟩ hw
set_option maxRecDepth 100000 in
theorem c_X6_has {l : Launch} {D : va_G} {cA : FieldType → ClassId} {h : Nat → Nat} {σ : St} {sz : Nat} {v1 v2 : Int} {post : Int → Prop} (hwp : wp_X6_has σ v1 v2 post) : Met l yX6_has wsX6_has rm_X6_has (va_Pc [.ref (h 0), iv v1, iv v2] (preS D cA K_Tape h σ sz)) (QI D cA K_Tape h sz (fun r σ' => σ' = σ ∧ post r)) 0 0 (aA K_Tape.length h sz) := by
  refine mk_met (cc := cX6_has) (nL := 3) (ret := (some .boolean)) (own := RX6) 0 (by decide) rfl rfl rfl rfl ?_
  intro p e s m args below meth c ls hsz C hw hl hA
  subst hsz
  exact b_X6_has_0 C hA (rt_z C _) hwp hw hl
-- X6_narrowed
def rm_X6_narrowed : Room := { frames := 0, cells := 0, slots := 0, locals := 0 }
set_option maxRecDepth 100000 in
theorem b_X6_narrowed_0 {σ : St} {post : Int → Prop} (C : cx p s m args meth c wsX6_narrowed RX6 cX6_narrowed 3 (some .long) D cA) (hA : ∀ q, s.heap.size ≤ q → A q) (hR : RtL p l e rm_X6_narrowed s m args below meth c Q cX6_narrowed D cA K_0 h A (fun r σ' => σ' = σ ∧ post r)) : ∀ {v0 v1 : Int} {H : Heap} {locs : List Loc} {ls : Array Slot}, wp_X6_narrowed v0 v1 post → wd D cA K_0 h σ A s.heap H locs → lh ls 3 [some (iv v0), some (jv v1), none] → W p l e rm_X6_narrowed s m args below meth c H locs 0 0 Q (F0 m 0 ls []) := by
  intro v0 v1 H locs ls hwp hw hl
  refine r_iload_n C dX6_narrowed_0 hl rfl ?_
  obtain ⟨ra, hS0, hS1, hS2, hS3, hD⟩ := hwp
  rcases sw_0_3 ra with hc | hc | hc | hc | hc
  · have hwp := hS0 hc
    refine r_tin C (tgt := 32) dX6_narrowed_1 ra 0 hc (by decide) (by decide) rfl rfl ?_
    refine r_lload_n C dX6_narrowed_32 hl rfl ?_
    refine r_l2i C dX6_narrowed_33 ?_
    refine r_i2b C dX6_narrowed_34 ?_
    obtain ⟨ra, hwp⟩ := hwp
    refine r_i2l C dX6_narrowed_35 ra ?_
    exact hR _ _ _ _ _ _ dX6_narrowed_36 ⟨rfl, hwp⟩ hw
  · have hwp := hS1 hc
    refine r_tin C (tgt := 37) dX6_narrowed_1 ra 1 hc (by decide) (by decide) rfl rfl ?_
    refine r_lload_n C dX6_narrowed_37 hl rfl ?_
    refine r_l2i C dX6_narrowed_38 ?_
    refine r_i2s C dX6_narrowed_39 ?_
    obtain ⟨ra, hwp⟩ := hwp
    refine r_i2l C dX6_narrowed_40 ra ?_
    exact hR _ _ _ _ _ _ dX6_narrowed_41 ⟨rfl, hwp⟩ hw
  · have hwp := hS2 hc
    refine r_tin C (tgt := 42) dX6_narrowed_1 ra 2 hc (by decide) (by decide) rfl rfl ?_
    refine r_lload_n C dX6_narrowed_42 hl rfl ?_
    refine r_l2i C dX6_narrowed_43 ?_
    obtain ⟨ra, hwp⟩ := hwp
    refine r_i2l C dX6_narrowed_44 ra ?_
    exact hR _ _ _ _ _ _ dX6_narrowed_45 ⟨rfl, hwp⟩ hw
  · have hwp := hS3 hc
    refine r_tin C (tgt := 46) dX6_narrowed_1 ra 3 hc (by decide) (by decide) rfl rfl ?_
    refine r_lload_n C dX6_narrowed_46 hl rfl ?_
    exact hR _ _ _ _ _ _ dX6_narrowed_47 ⟨rfl, hwp⟩ hw
  · have hwp := hD hc
    refine r_tout C (tgt := 48) dX6_narrowed_1 ra hc rfl ?_
    refine r_lload_n C dX6_narrowed_48 hl rfl ?_
    refine r_lconst C 0 rfl dX6_narrowed_49 ?_
    obtain ⟨ra, rb, hwp⟩ := hwp
    refine r_lcmp C dX6_narrowed_50 ra rb ?_
    obtain ⟨ra, hT, hF⟩ := hwp
    refine r_if_eq C (tgt := 58) dX6_narrowed_51 rfl ra (fun hc => ?_) (fun hc => ?_)
    · have hwp := hT hc
      refine r_lconst C 0 rfl dX6_narrowed_58 ?_
      exact hR _ _ _ _ _ _ dX6_narrowed_59 ⟨rfl, hwp⟩ hw
    · have hwp := hF hc
      refine r_lconst C 1 rfl dX6_narrowed_54 ?_
      refine r_goto C (tgt := 59) dX6_narrowed_55 rfl ?_
      exact hR _ _ _ _ _ _ dX6_narrowed_59 ⟨rfl, hwp⟩ hw
set_option maxRecDepth 100000 in
theorem c_X6_narrowed {l : Launch} {D : va_G} {cA : FieldType → ClassId} {h : Nat → Nat} {σ : St} {sz : Nat} {v0 v1 : Int} {post : Int → Prop} (hwp : wp_X6_narrowed v0 v1 post) : Met l yX6_narrowed wsX6_narrowed rm_X6_narrowed (va_Pc [iv v0, jv v1] (preS D cA K_0 h σ sz)) (QL D cA K_0 h sz (fun r σ' => σ' = σ ∧ post r)) 0 0 (aA K_0.length h sz) := by
  refine mk_met (cc := cX6_narrowed) (nL := 3) (ret := (some .long)) (own := RX6) 0 (by decide) rfl rfl rfl rfl ?_
  intro p e s m args below meth c ls hsz C hw hl hA
  subst hsz
  exact b_X6_narrowed_0 C hA (rt_l C _) hwp hw hl
end
