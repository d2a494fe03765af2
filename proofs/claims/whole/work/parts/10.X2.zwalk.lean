section
variable {p : Program} {l : Launch} {e : Env} {s : State} {m : MethodId} {args : Array Value} {below : List Frame} {meth : Method} {c : Code} {Q : State → Prop} {D : va_G} {cA : FieldType → ClassId} {h : Nat → Nat} {A : Nat → Prop}
-- X2_rounds
def rm_X2_rounds : Room := { frames := 0, cells := 0, slots := 0, locals := 0 }
set_option maxRecDepth 100000 in
theorem b_X2_rounds_4 {σ : St} {post : Int → Prop} (C : cx p s m args meth c wsX2_rounds RX2 cX2_rounds 3 (some .int) D cA) (hA : ∀ q, s.heap.size ≤ q → A q) (hR : RtI p l e rm_X2_rounds s m args below meth c Q cX2_rounds D cA K_0 h A (fun _ => True) (fun r σ' => σ' = σ ∧ post r)) : ∀ (n : Nat) {v0 v1 v2 : Int} {H : Heap} {locs : List Loc} {ls : Array Slot}, wp_X2_rounds_4 post n v0 v1 v2 → wd D cA K_0 h σ A s.heap H locs → lh ls 3 [some (iv v0), some (iv v1), some (iv v2)] → W p l e rm_X2_rounds s m args below meth c H locs 0 0 Q (F0 m 4 ls []) := by
  intro n; induction n with
  | zero => intros; rename_i hwp _ _; exact hwp.elim
  | succ n ih =>
    intro v0 v1 v2 H locs ls hwp hw hl
    refine r_iload_n C dX2_rounds_4 hl rfl ?_
    refine r_iload_n C dX2_rounds_5 hl rfl ?_
    obtain ⟨ra, rb, hT, hF⟩ := hwp
    refine r_icmp_gt C (tgt := 25) dX2_rounds_6 rfl ra rb (fun hc => ?_) (fun hc => ?_)
    · have hwp := hT hc
      refine r_iload_n C dX2_rounds_25 hl rfl ?_
      exact hR _ _ _ _ _ _ dX2_rounds_26 trivial ⟨rfl, hwp⟩ hw
    · have hwp := hF hc
      refine r_iload_n C dX2_rounds_9 hl rfl ?_
      refine r_iload_n C dX2_rounds_10 hl rfl ?_
      refine r_const C dX2_rounds_11 ?_
      refine r_iload_n C dX2_rounds_12 hl rfl ?_
      refine r_const C dX2_rounds_13 ?_
      refine r_isub C dX2_rounds_14 ?_
      refine r_imul C dX2_rounds_15 ?_
      refine r_ishl C dX2_rounds_16 ?_
      refine r_ior C dX2_rounds_17 ?_
      refine r_istore_n C dX2_rounds_18 hl (Nat.le_of_ble_eq_true rfl) (Nat.le_of_ble_eq_true rfl) rfl (fun ls hl => ?_)
      refine r_iinc C dX2_rounds_19 hl rfl (Nat.le_of_ble_eq_true rfl) rfl (fun ls hl => ?_)
      refine r_goto C (tgt := 4) dX2_rounds_22 rfl ?_
      exact ih hwp hw (lh_mask hl [true, true, true])
set_option maxRecDepth 100000 in
theorem b_X2_rounds_0 {σ : St} {post : Int → Prop} (C : cx p s m args meth c wsX2_rounds RX2 cX2_rounds 3 (some .int) D cA) (hA : ∀ q, s.heap.size ≤ q → A q) (hR : RtI p l e rm_X2_rounds s m args below meth c Q cX2_rounds D cA K_0 h A (fun _ => True) (fun r σ' => σ' = σ ∧ post r)) : ∀ {v0 : Int} {H : Heap} {locs : List Loc} {ls : Array Slot}, wp_X2_rounds v0 post → wd D cA K_0 h σ A s.heap H locs → lh ls 3 [some (iv v0), none, none] → W p l e rm_X2_rounds s m args below meth c H locs 0 0 Q (F0 m 0 ls []) := by
  intro v0 H locs ls hwp hw hl
  refine r_const C dX2_rounds_0 ?_
  refine r_istore_n C dX2_rounds_1 hl (Nat.le_of_ble_eq_true rfl) (Nat.le_of_ble_eq_true rfl) rfl (fun ls hl => ?_)
  refine r_const C dX2_rounds_2 ?_
  refine r_istore_n C dX2_rounds_3 hl (Nat.le_of_ble_eq_true rfl) (Nat.le_of_ble_eq_true rfl) rfl (fun ls hl => ?_)
  obtain ⟨n9, hwp⟩ := hwp
  exact b_X2_rounds_4 C hA hR n9 hwp hw (lh_mask hl [true, true, true])
set_option maxRecDepth 100000 in
theorem c_X2_rounds {l : Launch} {D : va_G} {cA : FieldType → ClassId} {h : Nat → Nat} {σ : St} {sz : Nat} {v0 : Int} {post : Int → Prop} (hwp : wp_X2_rounds v0 post) : Met l yX2_rounds wsX2_rounds rm_X2_rounds (va_Pc [iv v0] (preS D cA K_0 h σ sz)) (QI D cA K_0 h sz (fun r σ' => σ' = σ ∧ post r)) 0 0 (aA K_0.length h sz) := by
  refine mk_met (cc := cX2_rounds) (nL := 3) (ret := (some .int)) (own := RX2) 2 (by decide) rfl rfl rfl rfl ?_
  intro p e s m args below meth c ls hsz C hw hl hA
  subst hsz
  exact b_X2_rounds_0 C hA (rt_i C _) hwp hw hl
-- X2_bellIn
def rm_X2_bellIn : Room := { frames := 0, cells := 0, slots := 0, locals := 0 }
set_option maxRecDepth 100000 in
theorem b_X2_bellIn_0 {σ : St} {post : Int → Prop} (C : cx p s m args meth c wsX2_bellIn RX2 cX2_bellIn 2 (some .int) D cA) (hA : ∀ q, s.heap.size ≤ q → A q) (hR : RtI p l e rm_X2_bellIn s m args below meth c Q cX2_bellIn D cA K_0 h A (fun _ => True) (fun r σ' => σ' = σ ∧ post r)) : ∀ {v0 v1 : Int} {H : Heap} {locs : List Loc} {ls : Array Slot}, wp_X2_bellIn v0 v1 post → wd D cA K_0 h σ A s.heap H locs → lh ls 2 [some (iv v0), some (iv v1)] → W p l e rm_X2_bellIn s m args below meth c H locs 0 0 Q (F0 m 0 ls []) := by
  intro v0 v1 H locs ls hwp hw hl
  refine r_iload_n C dX2_bellIn_0 hl rfl ?_
  refine r_const C dX2_bellIn_1 ?_
  refine r_iload_n C dX2_bellIn_2 hl rfl ?_
  refine r_const C dX2_bellIn_3 ?_
  refine r_isub C dX2_bellIn_4 ?_
  refine r_imul C dX2_bellIn_5 ?_
  refine r_iushr C dX2_bellIn_6 ?_
  refine r_bipush C dX2_bellIn_7 bpb_15 ?_
  refine r_iand C dX2_bellIn_9 ?_
  exact hR _ _ _ _ _ _ dX2_bellIn_10 trivial ⟨rfl, hwp⟩ hw
set_option maxRecDepth 100000 in
theorem c_X2_bellIn {l : Launch} {D : va_G} {cA : FieldType → ClassId} {h : Nat → Nat} {σ : St} {sz : Nat} {v0 v1 : Int} {post : Int → Prop} (hwp : wp_X2_bellIn v0 v1 post) : Met l yX2_bellIn wsX2_bellIn rm_X2_bellIn (va_Pc [iv v0, iv v1] (preS D cA K_0 h σ sz)) (QI D cA K_0 h sz (fun r σ' => σ' = σ ∧ post r)) 0 0 (aA K_0.length h sz) := by
  refine mk_met (cc := cX2_bellIn) (nL := 2) (ret := (some .int)) (own := RX2) 0 (by decide) rfl rfl rfl rfl ?_
  intro p e s m args below meth c ls hsz C hw hl hA
  subst hsz
  exact b_X2_bellIn_0 C hA (rt_i C _) hwp hw hl
-- X2_placeOf
def rm_X2_placeOf : Room := { frames := 1, cells := 0, slots := 0, locals := 21 }
set_option maxRecDepth 100000 in
theorem b_X2_placeOf_2 {σ : St} {post : Int → Prop} (C : cx p s m args meth c wsX2_placeOf RX2 cX2_placeOf 3 (some .int) D cA) (hA : ∀ q, s.heap.size ≤ q → A q) (hR : RtI p l e rm_X2_placeOf s m args below meth c Q cX2_placeOf D cA K_0 h A (fun _ => True) (fun r σ' => σ' = σ ∧ post r)) : ∀ (n : Nat) {v0 v1 v2 : Int} {H : Heap} {locs : List Loc} {ls : Array Slot}, wp_X2_placeOf_2 post n v0 v1 v2 → wd D cA K_0 h σ A s.heap H locs → lh ls 3 [some (iv v0), some (iv v1), some (iv v2)] → W p l e rm_X2_placeOf s m args below meth c H locs 0 0 Q (F0 m 2 ls []) := by
  intro n; induction n with
  | zero => intros; rename_i hwp _ _; exact hwp.elim
  | succ n ih =>
    intro v0 v1 v2 H locs ls hwp hw hl
    refine r_iload_n C dX2_placeOf_2 hl rfl ?_
    refine r_bipush C dX2_placeOf_3 bpb_8 ?_
    obtain ⟨ra, hT, hF⟩ := hwp
    refine r_icmp_gt C (tgt := 25) dX2_placeOf_5 rfl ra (by decide) (fun hc => ?_) (fun hc => ?_)
    · have hwp := hT hc
      refine r_const C dX2_placeOf_25 ?_
      exact hR _ _ _ _ _ _ dX2_placeOf_26 trivial ⟨rfl, hwp⟩ hw
    · have hwp := hF hc
      refine r_iload_n C dX2_placeOf_8 hl rfl ?_
      refine r_iload_n C dX2_placeOf_9 hl rfl ?_
      refine r_cIr hA hw sb_0_0_0_0 (run_s C hw sb_0_0_0_0 (c_X2_bellIn hwp) (va_cwS 2 C.2.2.2.2.1 gX2_placeOf_X2_bellIn rfl rfl rfl hd_X2_bellIn ⟨Nat.le_of_ble_eq_true rfl, Nat.le_of_ble_eq_true rfl⟩) rfl rfl rfl hl dX2_placeOf_10 ⟨Nat.zero_le _, Nat.zero_le _⟩) (fun r H locs hwp hw => ?_)
      refine r_iload_n C dX2_placeOf_13 hl rfl ?_
      obtain ⟨ra, rb, hT, hF⟩ := hwp
      refine r_icmp_ne C (tgt := 19) dX2_placeOf_14 rfl ra rb (fun hc => ?_) (fun hc => ?_)
      · have hwp := hT hc
        refine r_iinc C dX2_placeOf_19 hl rfl (Nat.le_of_ble_eq_true rfl) rfl (fun ls hl => ?_)
        refine r_goto C (tgt := 2) dX2_placeOf_22 rfl ?_
        exact ih hwp hw (lh_mask hl [true, true, true])
      · have hwp := hF hc
        refine r_iload_n C dX2_placeOf_17 hl rfl ?_
        exact hR _ _ _ _ _ _ dX2_placeOf_18 trivial ⟨rfl, hwp⟩ hw
set_option maxRecDepth 100000 in
theorem b_X2_placeOf_0 {σ : St} {post : Int → Prop} (C : cx p s m args meth c wsX2_placeOf RX2 cX2_placeOf 3 (some .int) D cA) (hA : ∀ q, s.heap.size ≤ q → A q) (hR : RtI p l e rm_X2_placeOf s m args below meth c Q cX2_placeOf D cA K_0 h A (fun _ => True) (fun r σ' => σ' = σ ∧ post r)) : ∀ {v0 v1 : Int} {H : Heap} {locs : List Loc} {ls : Array Slot}, wp_X2_placeOf v0 v1 post → wd D cA K_0 h σ A s.heap H locs → lh ls 3 [some (iv v0), some (iv v1), none] → W p l e rm_X2_placeOf s m args below meth c H locs 0 0 Q (F0 m 0 ls []) := by
  intro v0 v1 H locs ls hwp hw hl
  refine r_const C dX2_placeOf_0 ?_
  refine r_istore_n C dX2_placeOf_1 hl (Nat.le_of_ble_eq_true rfl) (Nat.le_of_ble_eq_true rfl) rfl (fun ls hl => ?_)
  obtain ⟨n9, hwp⟩ := hwp
  exact b_X2_placeOf_2 C hA hR n9 hwp hw (lh_mask hl [true, true, true])
set_option maxRecDepth 100000 in
theorem c_X2_placeOf {l : Launch} {D : va_G} {cA : FieldType → ClassId} {h : Nat → Nat} {σ : St} {sz : Nat} {v0 v1 : Int} {post : Int → Prop} (hwp : wp_X2_placeOf v0 v1 post) : Met l yX2_placeOf wsX2_placeOf rm_X2_placeOf (va_Pc [iv v0, iv v1] (preS D cA K_0 h σ sz)) (QI D cA K_0 h sz (fun r σ' => σ' = σ ∧ post r)) 0 0 (aA K_0.length h sz) := by
  refine mk_met (cc := cX2_placeOf) (nL := 3) (ret := (some .int)) (own := RX2) 1 (by decide) rfl rfl rfl rfl ?_
  intro p e s m args below meth c ls hsz C hw hl hA
  subst hsz
  exact b_X2_placeOf_0 C hA (rt_i C _) hwp hw hl
-- X2_isRightAhead
def rm_X2_isRightAhead : Room := { frames := 2, cells := 0, slots := 0, locals := 43 }
set_option maxRecDepth 100000 in
theorem b_X2_isRightAhead_0 {σ : St} {post : Int → Prop} (C : cx p s m args meth c wsX2_isRightAhead RX2 cX2_isRightAhead 3 (some .boolean) D cA) (hA : ∀ q, s.heap.size ≤ q → A q) (hR : RtI p l e rm_X2_isRightAhead s m args below meth c Q cX2_isRightAhead D cA K_0 h A (fun x => x = 0 ∨ x = 1) (fun r σ' => σ' = σ ∧ post r)) : ∀ {v0 v1 v2 : Int} {H : Heap} {locs : List Loc} {ls : Array Slot}, wp_X2_isRightAhead v0 v1 v2 post → wd D cA K_0 h σ A s.heap H locs → lh ls 3 [some (iv v0), some (iv v1), some (iv v2)] → W p l e rm_X2_isRightAhead s m args below meth c H locs 0 0 Q (F0 m 0 ls []) := by
  intro v0 v1 v2 H locs ls hwp hw hl
  refine r_iload_n C dX2_isRightAhead_0 hl rfl ?_
  refine r_iload_n C dX2_isRightAhead_1 hl rfl ?_
  refine r_cIr hA hw sb_0_0_0_0 (run_s C hw sb_0_0_0_0 (c_X2_placeOf hwp) (va_cwS 2 C.2.2.2.2.1 gX2_isRightAhead_X2_placeOf rfl rfl rfl hd_X2_placeOf ⟨Nat.le_of_ble_eq_true rfl, Nat.le_of_ble_eq_true rfl⟩) rfl rfl rfl hl dX2_isRightAhead_2 ⟨Nat.zero_le _, Nat.zero_le _⟩) (fun r H locs hwp hw => ?_)
  refine r_const C dX2_isRightAhead_5 ?_
  refine r_iadd C dX2_isRightAhead_6 ?_
  refine r_iload_n C dX2_isRightAhead_7 hl rfl ?_
  refine r_iload_n C dX2_isRightAhead_8 hl rfl ?_
  refine r_cIr hA hw sb_0_0_0_0 (run_s C hw sb_0_0_0_0 (c_X2_placeOf hwp) (va_cwS 2 C.2.2.2.2.1 gX2_isRightAhead_X2_placeOf rfl rfl rfl hd_X2_placeOf ⟨Nat.le_of_ble_eq_true rfl, Nat.le_of_ble_eq_true rfl⟩) rfl rfl rfl hl dX2_isRightAhead_9 ⟨Nat.zero_le _, Nat.zero_le _⟩) (fun r H locs hwp hw => ?_)
  obtain ⟨ra, rb, hT, hF⟩ := hwp
  refine r_icmp_ne C (tgt := 19) dX2_isRightAhead_12 rfl ra rb (fun hc => ?_) (fun hc => ?_)
  · have hwp := hT hc
    refine r_const C dX2_isRightAhead_19 ?_
    exact hR _ _ _ _ _ _ dX2_isRightAhead_20 (Or.inl rfl) ⟨rfl, hwp⟩ hw
  · have hwp := hF hc
    refine r_const C dX2_isRightAhead_15 ?_
    refine r_goto C (tgt := 20) dX2_isRightAhead_16 rfl ?_
    exact hR _ _ _ _ _ _ dX2_isRightAhead_20 (Or.inr rfl) ⟨rfl, hwp⟩ hw
set_option maxRecDepth 100000 in
theorem c_X2_isRightAhead {l : Launch} {D : va_G} {cA : FieldType → ClassId} {h : Nat → Nat} {σ : St} {sz : Nat} {v0 v1 v2 : Int} {post : Int → Prop} (hwp : wp_X2_isRightAhead v0 v1 v2 post) : Met l yX2_isRightAhead wsX2_isRightAhead rm_X2_isRightAhead (va_Pc [iv v0, iv v1, iv v2] (preS D cA K_0 h σ sz)) (QI D cA K_0 h sz (fun r σ' => σ' = σ ∧ post r)) 0 0 (aA K_0.length h sz) := by
  refine mk_met (cc := cX2_isRightAhead) (nL := 3) (ret := (some .boolean)) (own := RX2) 0 (by decide) rfl rfl rfl rfl ?_
  intro p e s m args below meth c ls hsz C hw hl hA
  subst hsz
  exact b_X2_isRightAhead_0 C hA (rt_z C _) hwp hw hl
-- X2_isKept
def rm_X2_isKept : Room := { frames := 0, cells := 0, slots := 0, locals := 0 }
set_option maxRecDepth 100000 in
theorem b_X2_isKept_0 {σ : St} {post : Int → Prop} (C : cx p s m args meth c wsX2_isKept RX2 cX2_isKept 2 (some .boolean) D cA) (hA : ∀ q, s.heap.size ≤ q → A q) (hR : RtI p l e rm_X2_isKept s m args below meth c Q cX2_isKept D cA K_0 h A (fun x => x = 0 ∨ x = 1) (fun r σ' => σ' = σ ∧ post r)) : ∀ {v0 v1 : Int} {H : Heap} {locs : List Loc} {ls : Array Slot}, wp_X2_isKept v0 v1 post → wd D cA K_0 h σ A s.heap H locs → lh ls 2 [some (iv v0), some (iv v1)] → W p l e rm_X2_isKept s m args below meth c H locs 0 0 Q (F0 m 0 ls []) := by
  intro v0 v1 H locs ls hwp hw hl
  refine r_iload_n C dX2_isKept_0 hl rfl ?_
  refine r_iload_n C dX2_isKept_1 hl rfl ?_
  refine r_ishr C dX2_isKept_2 ?_
  refine r_const C dX2_isKept_3 ?_
  refine r_iand C dX2_isKept_4 ?_
  obtain ⟨ra, hT, hF⟩ := hwp
  refine r_if_eq C (tgt := 12) dX2_isKept_5 rfl ra (fun hc => ?_) (fun hc => ?_)
  · have hwp := hT hc
    refine r_const C dX2_isKept_12 ?_
    exact hR _ _ _ _ _ _ dX2_isKept_13 (Or.inl rfl) ⟨rfl, hwp⟩ hw
  · have hwp := hF hc
    refine r_const C dX2_isKept_8 ?_
    refine r_goto C (tgt := 13) dX2_isKept_9 rfl ?_
    exact hR _ _ _ _ _ _ dX2_isKept_13 (Or.inr rfl) ⟨rfl, hwp⟩ hw
set_option maxRecDepth 100000 in
theorem c_X2_isKept {l : Launch} {D : va_G} {cA : FieldType → ClassId} {h : Nat → Nat} {σ : St} {sz : Nat} {v0 v1 : Int} {post : Int → Prop} (hwp : wp_X2_isKept v0 v1 post) : Met l yX2_isKept wsX2_isKept rm_X2_isKept (va_Pc [iv v0, iv v1] (preS D cA K_0 h σ sz)) (QI D cA K_0 h sz (fun r σ' => σ' = σ ∧ post r)) 0 0 (aA K_0.length h sz) := by
  refine mk_met (cc := cX2_isKept) (nL := 2) (ret := (some .boolean)) (own := RX2) 0 (by decide) rfl rfl rfl rfl ?_
  intro p e s m args below meth c ls hsz C hw hl hA
  subst hsz
  exact b_X2_isKept_0 C hA (rt_z C _) hwp hw hl
-- X2_pairs
def rm_X2_pairs : Room := { frames := 1, cells := 0, slots := 0, locals := 21 }
set_option maxRecDepth 100000 in
theorem b_X2_pairs_16 {σ : St} {post : Int → Prop} (C : cx p s m args meth c wsX2_pairs RX2 cX2_pairs 4 (some .int) D cA) (hA : ∀ q, s.heap.size ≤ q → A q) (hR : RtI p l e rm_X2_pairs s m args below meth c Q cX2_pairs D cA K_0 h A (fun _ => True) (fun r σ' => σ' = σ ∧ post r)) : ∀ (n : Nat) {v0 v1 v2 v3 : Int} {H : Heap} {locs : List Loc} {ls : Array Slot}, wp_X2_pairs_16 post n v0 v1 v2 v3 → wd D cA K_0 h σ A s.heap H locs → lh ls 4 [some (iv v0), some (iv v1), some (iv v2), some (iv v3)] → W p l e rm_X2_pairs s m args below meth c H locs 0 0 Q (F0 m 16 ls []) := by
  intro n; induction n with
  | zero => intros; rename_i hwp _ _; exact hwp.elim
  | succ n ih =>
    intro v0 v1 v2 v3 H locs ls hwp hw hl
    refine r_iload_n C dX2_pairs_16 hl rfl ?_
    refine r_iload_n C dX2_pairs_17 hl rfl ?_
    obtain ⟨ra, rb, hT, hF⟩ := hwp
    refine r_icmp_ge C (tgt := 69) dX2_pairs_18 rfl ra rb (fun hc => ?_) (fun hc => ?_)
    · have hwp := hT hc
      refine r_iload_n C dX2_pairs_69 hl rfl ?_
      exact hR _ _ _ _ _ _ dX2_pairs_70 trivial ⟨rfl, hwp⟩ hw
    · have hwp := hF hc
      refine r_iload_n C dX2_pairs_21 hl rfl ?_
      refine r_iload_n C dX2_pairs_22 hl rfl ?_
      refine r_cIr hA hw sb_0_0_0_0 (run_s C hw sb_0_0_0_0 (c_X2_isKept hwp) (va_cwS 2 C.2.2.2.2.1 gX2_pairs_X2_isKept rfl rfl rfl hd_X2_isKept ⟨Nat.le_of_ble_eq_true rfl, Nat.le_of_ble_eq_true rfl⟩) rfl rfl rfl hl dX2_pairs_23 ⟨Nat.zero_le _, Nat.zero_le _⟩) (fun r H locs hwp hw => ?_)
      obtain ⟨ra, hT, hF⟩ := hwp
      refine r_if_eq C (tgt := 35) dX2_pairs_26 rfl ra (fun hc => ?_) (fun hc => ?_)
      · have hwp := hT hc
        refine r_iload_n C dX2_pairs_35 hl rfl ?_
        refine r_const C dX2_pairs_36 ?_
        refine r_iadd C dX2_pairs_37 ?_
        refine r_iload_n C dX2_pairs_38 hl rfl ?_
        obtain ⟨ra, rb, hT, hF⟩ := hwp
        refine r_icmp_ge C (tgt := 52) dX2_pairs_39 rfl ra rb (fun hc => ?_) (fun hc => ?_)
        · have hwp := hT hc
          refine r_const C dX2_pairs_52 ?_
          exact hR _ _ _ _ _ _ dX2_pairs_53 trivial ⟨rfl, hwp⟩ hw
        · have hwp := hF hc
          refine r_iload_n C dX2_pairs_42 hl rfl ?_
          refine r_iload_n C dX2_pairs_43 hl rfl ?_
          refine r_const C dX2_pairs_44 ?_
          refine r_iadd C dX2_pairs_45 ?_
          refine r_cIr hA hw sb_0_0_0_0 (run_s C hw sb_0_0_0_0 (c_X2_isKept hwp) (va_cwS 2 C.2.2.2.2.1 gX2_pairs_X2_isKept rfl rfl rfl hd_X2_isKept ⟨Nat.le_of_ble_eq_true rfl, Nat.le_of_ble_eq_true rfl⟩) rfl rfl rfl hl dX2_pairs_46 ⟨Nat.zero_le _, Nat.zero_le _⟩) (fun r H locs hwp hw => ?_)
          obtain ⟨ra, hT, hF⟩ := hwp
          refine r_if_eq C (tgt := 54) dX2_pairs_49 rfl ra (fun hc => ?_) (fun hc => ?_)
          · have hwp := hT hc
            refine r_iload_n C dX2_pairs_54 hl rfl ?_
            refine r_bipush C dX2_pairs_55 bpb_15 ?_
            refine r_const C dX2_pairs_57 ?_
            refine r_iload_n C dX2_pairs_58 hl rfl ?_
            refine r_imul C dX2_pairs_59 ?_
            refine r_ishl C dX2_pairs_60 ?_
            refine r_ior C dX2_pairs_61 ?_
            refine r_istore_n C dX2_pairs_62 hl (Nat.le_of_ble_eq_true rfl) (Nat.le_of_ble_eq_true rfl) rfl (fun ls hl => ?_)
            refine r_iinc C dX2_pairs_63 hl rfl (Nat.le_of_ble_eq_true rfl) rfl (fun ls hl => ?_)
            refine r_goto C (tgt := 16) dX2_pairs_66 rfl ?_
            exact ih hwp hw (lh_mask hl [true, true, true, true])
          · have hwp := hF hc
            refine r_const C dX2_pairs_52 ?_
            exact hR _ _ _ _ _ _ dX2_pairs_53 trivial ⟨rfl, hwp⟩ hw
      · have hwp := hF hc
        refine r_iinc C dX2_pairs_29 hl rfl (Nat.le_of_ble_eq_true rfl) rfl (fun ls hl => ?_)
        refine r_goto C (tgt := 16) dX2_pairs_32 rfl ?_
        exact ih hwp hw (lh_mask hl [true, true, true, true])
set_option maxRecDepth 100000 in
theorem b_X2_pairs_0 {σ : St} {post : Int → Prop} (C : cx p s m args meth c wsX2_pairs RX2 cX2_pairs 4 (some .int) D cA) (hA : ∀ q, s.heap.size ≤ q → A q) (hR : RtI p l e rm_X2_pairs s m args below meth c Q cX2_pairs D cA K_0 h A (fun _ => True) (fun r σ' => σ' = σ ∧ post r)) : ∀ {v0 v1 : Int} {H : Heap} {locs : List Loc} {ls : Array Slot}, wp_X2_pairs v0 v1 post → wd D cA K_0 h σ A s.heap H locs → lh ls 4 [some (iv v0), some (iv v1), none, none] → W p l e rm_X2_pairs s m args below meth c H locs 0 0 Q (F0 m 0 ls []) := by
  intro v0 v1 H locs ls hwp hw hl
  refine r_iload_n C dX2_pairs_0 hl rfl ?_
  obtain ⟨ra, hT, hF⟩ := hwp
  refine r_if_lt C (tgt := 10) dX2_pairs_1 rfl ra (fun hc => ?_) (fun hc => ?_)
  · have hwp := hT hc
    refine r_const C dX2_pairs_10 ?_
    exact hR _ _ _ _ _ _ dX2_pairs_11 trivial ⟨rfl, hwp⟩ hw
  · have hwp := hF hc
    refine r_iload_n C dX2_pairs_4 hl rfl ?_
    refine r_iload_n C dX2_pairs_5 hl rfl ?_
    refine r_ishr C dX2_pairs_6 ?_
    obtain ⟨ra, hT, hF⟩ := hwp
    refine r_if_eq C (tgt := 12) dX2_pairs_7 rfl ra (fun hc => ?_) (fun hc => ?_)
    · have hwp := hT hc
      refine r_const C dX2_pairs_12 ?_
      refine r_istore_n C dX2_pairs_13 hl (Nat.le_of_ble_eq_true rfl) (Nat.le_of_ble_eq_true rfl) rfl (fun ls hl => ?_)
      refine r_const C dX2_pairs_14 ?_
      refine r_istore_n C dX2_pairs_15 hl (Nat.le_of_ble_eq_true rfl) (Nat.le_of_ble_eq_true rfl) rfl (fun ls hl => ?_)
      obtain ⟨n9, hwp⟩ := hwp
      exact b_X2_pairs_16 C hA hR n9 hwp hw (lh_mask hl [true, true, true, true])
    · have hwp := hF hc
      refine r_const C dX2_pairs_10 ?_
      exact hR _ _ _ _ _ _ dX2_pairs_11 trivial ⟨rfl, hwp⟩ hw
set_option maxRecDepth 100000 in
theorem c_X2_pairs {l : Launch} {D : va_G} {cA : FieldType → ClassId} {h : Nat → Nat} {σ : St} {sz : Nat} {v0 v1 : Int} {post : Int → Prop} (hwp : wp_X2_pairs v0 v1 post) : Met l yX2_pairs wsX2_pairs rm_X2_pairs (va_Pc [iv v0, iv v1] (preS D cA K_0 h σ sz)) (QI D cA K_0 h sz (fun r σ' => σ' = σ ∧ post r)) 0 0 (aA K_0.length h sz) := by
  refine mk_met (cc := cX2_pairs) (nL := 4) (ret := (some .int)) (own := RX2) 2 (by decide) rfl rfl rfl rfl ?_
  intro p e s m args below meth c ls hsz C hw hl hA
  subst hsz
  exact b_X2_pairs_0 C hA (rt_i C _) hwp hw hl
-- X2_isGood
def rm_X2_isGood : Room := { frames := 2, cells := 0, slots := 0, locals := 44 }
set_option maxRecDepth 100000 in
theorem b_X2_isGood_0 {σ : St} {post : Int → Prop} (C : cx p s m args meth c wsX2_isGood RX2 cX2_isGood 2 (some .boolean) D cA) (hA : ∀ q, s.heap.size ≤ q → A q) (hR : RtI p l e rm_X2_isGood s m args below meth c Q cX2_isGood D cA K_0 h A (fun x => x = 0 ∨ x = 1) (fun r σ' => σ' = σ ∧ post r)) : ∀ {v0 v1 : Int} {H : Heap} {locs : List Loc} {ls : Array Slot}, wp_X2_isGood v0 v1 post → wd D cA K_0 h σ A s.heap H locs → lh ls 2 [some (iv v0), some (iv v1)] → W p l e rm_X2_isGood s m args below meth c H locs 0 0 Q (F0 m 0 ls []) := by
  intro v0 v1 H locs ls hwp hw hl
  refine r_iload_n C dX2_isGood_0 hl rfl ?_
  refine r_iload_n C dX2_isGood_1 hl rfl ?_
  refine r_cIr hA hw sb_0_0_0_0 (run_s C hw sb_0_0_0_0 (c_X2_pairs hwp) (va_cwS 2 C.2.2.2.2.1 gX2_isGood_X2_pairs rfl rfl rfl hd_X2_pairs ⟨Nat.le_of_ble_eq_true rfl, Nat.le_of_ble_eq_true rfl⟩) rfl rfl rfl hl dX2_isGood_2 ⟨Nat.zero_le _, Nat.zero_le _⟩) (fun r H locs hwp hw => ?_)
  refine r_const C dX2_isGood_5 ?_
  obtain ⟨ra, hT, hF⟩ := hwp
  refine r_icmp_eq C (tgt := 13) dX2_isGood_6 rfl ra (by decide) (fun hc => ?_) (fun hc => ?_)
  · have hwp := hT hc
    refine r_const C dX2_isGood_13 ?_
    exact hR _ _ _ _ _ _ dX2_isGood_14 (Or.inl rfl) ⟨rfl, hwp⟩ hw
  · have hwp := hF hc
    refine r_const C dX2_isGood_9 ?_
    refine r_goto C (tgt := 14) dX2_isGood_10 rfl ?_
    exact hR _ _ _ _ _ _ dX2_isGood_14 (Or.inr rfl) ⟨rfl, hwp⟩ hw
set_option maxRecDepth 100000 in
theorem c_X2_isGood {l : Launch} {D : va_G} {cA : FieldType → ClassId} {h : Nat → Nat} {σ : St} {sz : Nat} {v0 v1 : Int} {post : Int → Prop} (hwp : wp_X2_isGood v0 v1 post) : Met l yX2_isGood wsX2_isGood rm_X2_isGood (va_Pc [iv v0, iv v1] (preS D cA K_0 h σ sz)) (QI D cA K_0 h sz (fun r σ' => σ' = σ ∧ post r)) 0 0 (aA K_0.length h sz) := by
  refine mk_met (cc := cX2_isGood) (nL := 2) (ret := (some .boolean)) (own := RX2) 0 (by decide) rfl rfl rfl rfl ?_
  intro p e s m args below meth c ls hsz C hw hl hA
  subst hsz
  exact b_X2_isGood_0 C hA (rt_z C _) hwp hw hl
-- X2_swapped
def rm_X2_swapped : Room := { frames := 0, cells := 0, slots := 0, locals := 0 }
set_option maxRecDepth 100000 in
theorem b_X2_swapped_0 {σ : St} {post : Int → Prop} (C : cx p s m args meth c wsX2_swapped RX2 cX2_swapped 3 (some .int) D cA) (hA : ∀ q, s.heap.size ≤ q → A q) (hR : RtI p l e rm_X2_swapped s m args below meth c Q cX2_swapped D cA K_0 h A (fun _ => True) (fun r σ' => σ' = σ ∧ post r)) : ∀ {v0 v1 : Int} {H : Heap} {locs : List Loc} {ls : Array Slot}, wp_X2_swapped v0 v1 post → wd D cA K_0 h σ A s.heap H locs → lh ls 3 [some (iv v0), some (iv v1), none] → W p l e rm_X2_swapped s m args below meth c H locs 0 0 Q (F0 m 0 ls []) := by
  intro v0 v1 H locs ls hwp hw hl
  refine r_iload_n C dX2_swapped_0 hl rfl ?_
  refine r_iload_n C dX2_swapped_1 hl rfl ?_
  refine r_iload_n C dX2_swapped_2 hl rfl ?_
  refine r_const C dX2_swapped_3 ?_
  refine r_ishl C dX2_swapped_4 ?_
  refine r_ior C dX2_swapped_5 ?_
  refine r_const C dX2_swapped_6 ?_
  refine r_ixor C dX2_swapped_7 ?_
  refine r_iand C dX2_swapped_8 ?_
  refine r_istore_n C dX2_swapped_9 hl (Nat.le_of_ble_eq_true rfl) (Nat.le_of_ble_eq_true rfl) rfl (fun ls hl => ?_)
  refine r_iload_n C dX2_swapped_10 hl rfl ?_
  refine r_iload_n C dX2_swapped_11 hl rfl ?_
  refine r_iload_n C dX2_swapped_12 hl rfl ?_
  refine r_iand C dX2_swapped_13 ?_
  refine r_const C dX2_swapped_14 ?_
  refine r_ishl C dX2_swapped_15 ?_
  refine r_ior C dX2_swapped_16 ?_
  refine r_iload_n C dX2_swapped_17 hl rfl ?_
  refine r_const C dX2_swapped_18 ?_
  refine r_iushr C dX2_swapped_19 ?_
  refine r_iload_n C dX2_swapped_20 hl rfl ?_
  refine r_iand C dX2_swapped_21 ?_
  refine r_ior C dX2_swapped_22 ?_
  exact hR _ _ _ _ _ _ dX2_swapped_23 trivial ⟨rfl, hwp⟩ hw
set_option maxRecDepth 100000 in
theorem c_X2_swapped {l : Launch} {D : va_G} {cA : FieldType → ClassId} {h : Nat → Nat} {σ : St} {sz : Nat} {v0 v1 : Int} {post : Int → Prop} (hwp : wp_X2_swapped v0 v1 post) : Met l yX2_swapped wsX2_swapped rm_X2_swapped (va_Pc [iv v0, iv v1] (preS D cA K_0 h σ sz)) (QI D cA K_0 h sz (fun r σ' => σ' = σ ∧ post r)) 0 0 (aA K_0.length h sz) := by
  refine mk_met (cc := cX2_swapped) (nL := 3) (ret := (some .int)) (own := RX2) 1 (by decide) rfl rfl rfl rfl ?_
  intro p e s m args below meth c ls hsz C hw hl hA
  subst hsz
  exact b_X2_swapped_0 C hA (rt_i C _) hwp hw hl
end
