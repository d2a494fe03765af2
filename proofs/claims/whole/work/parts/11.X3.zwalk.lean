section
variable {p : Program} {l : Launch} {e : Env} {s : State} {m : MethodId} {args : Array Value} {below : List Frame} {meth : Method} {c : Code} {Q : State → Prop} {D : va_G} {cA : FieldType → ClassId} {h : Nat → Nat} {A : Nat → Prop}
-- X3_start
def rm_X3_start : Room := { frames := 0, cells := 0, slots := 0, locals := 0 }
set_option maxRecDepth 100000 in
theorem b_X3_start_0 {σ : St} {post : Int → Prop} (C : cx p s m args meth c wsX3_start RX3 cX3_start 1 (some .int) D cA) (hA : ∀ q, s.heap.size ≤ q → A q) (hR : RtI p l e rm_X3_start s m args below meth c Q cX3_start D cA K_0 h A (fun _ => True) (fun r σ' => σ' = σ ∧ post r)) : ∀ {v0 : Int} {H : Heap} {locs : List Loc} {ls : Array Slot}, wp_X3_start v0 post → wd D cA K_0 h σ A s.heap H locs → lh ls 1 [some (iv v0)] → W p l e rm_X3_start s m args below meth c H locs 0 0 Q (F0 m 0 ls []) := by
  intro v0 H locs ls hwp hw hl
  refine r_iload_n C dX3_start_0 hl rfl ?_
  refine r_ldc C (n := -1640531535) (by decide +kernel) dX3_start_1 ?_
  refine r_imul C dX3_start_3 ?_
  refine r_bipush C dX3_start_4 bpb_23 ?_
  refine r_iushr C dX3_start_6 ?_
  exact hR _ _ _ _ _ _ dX3_start_7 trivial ⟨rfl, hwp⟩ hw
set_option maxRecDepth 100000 in
theorem c_X3_start {l : Launch} {D : va_G} {cA : FieldType → ClassId} {h : Nat → Nat} {σ : St} {sz : Nat} {v0 : Int} {post : Int → Prop} (hwp : wp_X3_start v0 post) : Met l yX3_start wsX3_start rm_X3_start (va_Pc [iv v0] (preS D cA K_0 h σ sz)) (QI D cA K_0 h sz (fun r σ' => σ' = σ ∧ post r)) 0 0 (aA K_0.length h sz) := by
  refine mk_met (cc := cX3_start) (nL := 1) (ret := (some .int)) (own := RX3) 0 (by decide) rfl rfl rfl rfl ?_
  intro p e s m args below meth c ls hsz C hw hl hA
  subst hsz
  exact b_X3_start_0 C hA (rt_i C _) hwp hw hl
-- X3_enter
theorem hi_X3_enter_X3 : ∀ w ∈ u_ws RX3 TX3 1, w ∈ wsX3_enter := by decide +kernel
theorem hf_X3_enter_9 : Cond.fieldLink RX3 9 (TX3 0).1 (TX3 0).2.1 (TX3 0).2.2.1 ∈ wsX3_enter := by decide +kernel
def rm_X3_enter : Room := { frames := 1, cells := 0, slots := 0, locals := 20 }
set_option maxRecDepth 100000 in
theorem b_X3_enter_10 {post : Int → St → Prop} (C : cx p s m args meth c wsX3_enter RX3 cX3_enter 7 (some .int) D cA) (hA : ∀ q, s.heap.size ≤ q → A q) (hR : RtI p l e rm_X3_enter s m args below meth c Q cX3_enter D cA K_RTr h A (fun _ => True) post) : ∀ (n : Nat) {v2 v3 v4 : Int} {σ : St} {H : Heap} {locs : List Loc} {ls : Array Slot}, wp_X3_enter_10 post n v2 v3 v4 σ → wd D cA K_RTr h σ A s.heap H locs → lh ls 7 [some (.ref (h 0)), some (.ref (h 2)), some (iv v2), some (iv v3), some (iv v4), none, none] → W p l e rm_X3_enter s m args below meth c H locs 0 0 Q (F0 m 10 ls []) := by
  intro n; induction n with
  | zero => intros; rename_i hwp _ _; exact hwp.elim
  | succ n ih =>
    intro v2 v3 v4 σ H locs ls hwp hw hl
    refine r_iload C dX3_enter_10 hl rfl ?_
    refine r_sipush C dX3_enter_12 bps_512 ?_
    obtain ⟨ra, hT, hF⟩ := hwp
    refine r_icmp_ge C (tgt := 75) dX3_enter_15 rfl ra (by decide) (fun hc => ?_) (fun hc => ?_)
    · have hwp := hT hc
      refine r_iload_n C dX3_enter_75 hl rfl ?_
      exact hR _ _ _ _ _ _ dX3_enter_76 trivial hwp hw
    · have hwp := hF hc
      refine r_iload_n C dX3_enter_18 hl rfl ?_
      refine r_iload C dX3_enter_19 hl rfl ?_
      refine r_iadd C dX3_enter_21 ?_
      refine r_sipush C dX3_enter_22 bps_511 ?_
      refine r_iand C dX3_enter_25 ?_
      refine r_istore C dX3_enter_26 hl (Nat.le_of_ble_eq_true rfl) (Nat.le_of_ble_eq_true rfl) rfl (fun ls hl => ?_)
      refine r_aload_n C dX3_enter_28 hl rfl ?_
      refine r_getr C hw clX3 0 rfl 0 1 rfl (Nat.le_of_ble_eq_true rfl) hi_X3_enter_X3 hf_X3_enter_9 dX3_enter_29 ?_
      refine r_iload C dX3_enter_32 hl rfl ?_
      obtain ⟨h0, h1, hwp⟩ := hwp
      refine r_iald C hw 1 rfl rfl h0 h1 dX3_enter_34 ?_
      refine r_const C dX3_enter_35 ?_
      refine r_isub C dX3_enter_36 ?_
      refine r_istore C dX3_enter_37 hl (Nat.le_of_ble_eq_true rfl) (Nat.le_of_ble_eq_true rfl) rfl (fun ls hl => ?_)
      refine r_iload C dX3_enter_39 hl rfl ?_
      obtain ⟨ra, hT, hF⟩ := hwp
      refine r_if_ge C (tgt := 56) dX3_enter_41 rfl ra (fun hc => ?_) (fun hc => ?_)
      · have hwp := hT hc
        refine r_aload_n C dX3_enter_56 hl rfl ?_
        refine r_iload C dX3_enter_57 hl rfl ?_
        obtain ⟨h0, h1, hwp⟩ := hwp
        refine r_iald C hw 2 rfl rfl h0 h1 dX3_enter_59 ?_
        refine r_aload_n C dX3_enter_60 hl rfl ?_
        refine r_iload_n C dX3_enter_61 hl rfl ?_
        obtain ⟨h0, h1, hwp⟩ := hwp
        refine r_iald C hw 2 rfl rfl h0 h1 dX3_enter_62 ?_
        obtain ⟨ra, rb, hT, hF⟩ := hwp
        refine r_icmp_ne C (tgt := 69) dX3_enter_63 rfl ra rb (fun hc => ?_) (fun hc => ?_)
        · have hwp := hT hc
          refine r_iinc C dX3_enter_69 hl rfl (Nat.le_of_ble_eq_true rfl) rfl (fun ls hl => ?_)
          refine r_goto C (tgt := 10) dX3_enter_72 rfl ?_
          exact ih hwp hw (lh_mask hl [true, true, true, true, true, false, false])
        · have hwp := hF hc
          refine r_iload C dX3_enter_66 hl rfl ?_
          exact hR _ _ _ _ _ _ dX3_enter_68 trivial hwp hw
      · have hwp := hF hc
        refine r_aload_n C dX3_enter_44 hl rfl ?_
        refine r_getr C hw clX3 0 rfl 0 1 rfl (Nat.le_of_ble_eq_true rfl) hi_X3_enter_X3 hf_X3_enter_9 dX3_enter_45 ?_
        refine r_iload C dX3_enter_48 hl rfl ?_
        refine r_iload_n C dX3_enter_50 hl rfl ?_
        refine r_const C dX3_enter_51 ?_
        refine r_iadd C dX3_enter_52 ?_
        obtain ⟨h0, h1, hwp⟩ := hwp
        refine r_iast C hw 1 rfl rfl h0 h1 dX3_enter_53 (fun H locs hw => ?_)
        have hwp := hwp _ rfl
        refine r_iload_n C dX3_enter_54 hl rfl ?_
        exact hR _ _ _ _ _ _ dX3_enter_55 trivial hwp hw
set_option maxRecDepth 100000 in
theorem b_X3_enter_0 {post : Int → St → Prop} (C : cx p s m args meth c wsX3_enter RX3 cX3_enter 7 (some .int) D cA) (hA : ∀ q, s.heap.size ≤ q → A q) (hR : RtI p l e rm_X3_enter s m args below meth c Q cX3_enter D cA K_RTr h A (fun _ => True) post) : ∀ {v2 : Int} {σ : St} {H : Heap} {locs : List Loc} {ls : Array Slot}, wp_X3_enter σ v2 post → wd D cA K_RTr h σ A s.heap H locs → lh ls 7 [some (.ref (h 0)), some (.ref (h 2)), some (iv v2), none, none, none, none] → W p l e rm_X3_enter s m args below meth c H locs 0 0 Q (F0 m 0 ls []) := by
  intro v2 σ H locs ls hwp hw hl
  refine r_aload_n C dX3_enter_0 hl rfl ?_
  refine r_iload_n C dX3_enter_1 hl rfl ?_
  obtain ⟨h0, h1, hwp⟩ := hwp
  refine r_iald C hw 2 rfl rfl h0 h1 dX3_enter_2 ?_
  refine r_cIr hA hw sb_RTr_0_0_1 (run_s C hw sb_RTr_0_0_1 (c_X3_start hwp) (va_cwS 1 C.2.2.2.2.1 gX3_enter_X3_start rfl rfl rfl hd_X3_start ⟨Nat.le_of_ble_eq_true rfl, Nat.le_of_ble_eq_true rfl⟩) rfl rfl rfl hl dX3_enter_3 ⟨Nat.zero_le _, Nat.zero_le _⟩) (fun r H locs hwp hw => ?_)
  refine r_istore_n C dX3_enter_6 hl (Nat.le_of_ble_eq_true rfl) (Nat.le_of_ble_eq_true rfl) rfl (fun ls hl => ?_)
  refine r_const C dX3_enter_7 ?_
  refine r_istore C dX3_enter_8 hl (Nat.le_of_ble_eq_true rfl) (Nat.le_of_ble_eq_true rfl) rfl (fun ls hl => ?_)
  obtain ⟨n9, hwp⟩ := hwp
  exact b_X3_enter_10 C hA hR n9 hwp hw (lh_mask hl [true, true, true, true, true, false, false])
set_option maxRecDepth 100000 in
theorem c_X3_enter {l : Launch} {D : va_G} {cA : FieldType → ClassId} {h : Nat → Nat} {σ : St} {sz : Nat} {v2 : Int} {post : Int → St → Prop} (hwp : wp_X3_enter σ v2 post) : Met l yX3_enter wsX3_enter rm_X3_enter (va_Pc [.ref (h 0), .ref (h 2), iv v2] (preS D cA K_RTr h σ sz)) (QI D cA K_RTr h sz post) 0 0 (aA K_RTr.length h sz) := by
  refine mk_met (cc := cX3_enter) (nL := 7) (ret := (some .int)) (own := RX3) 4 (by decide) rfl rfl rfl rfl ?_
  intro p e s m args below meth c ls hsz C hw hl hA
  subst hsz
  exact b_X3_enter_0 C hA (rt_i C _) hwp hw hl
-- X3_leave
theorem hi_X3_leave_X3 : ∀ w ∈ u_ws RX3 TX3 1, w ∈ wsX3_leave := by decide +kernel
theorem hf_X3_leave_9 : Cond.fieldLink RX3 9 (TX3 0).1 (TX3 0).2.1 (TX3 0).2.2.1 ∈ wsX3_leave := by decide +kernel
def rm_X3_leave : Room := { frames := 1, cells := 0, slots := 0, locals := 20 }
set_option maxRecDepth 100000 in
theorem b_X3_leave_10 {post : St → Prop} (C : cx p s m args meth c wsX3_leave RX3 cX3_leave 6 none D cA) (hA : ∀ q, s.heap.size ≤ q → A q) (hR : RtV p l e rm_X3_leave s m args below meth c Q cX3_leave D cA K_RTr h A post) : ∀ (n : Nat) {v2 v3 v4 : Int} {σ : St} {H : Heap} {locs : List Loc} {ls : Array Slot}, wp_X3_leave_10 post n v2 v3 v4 σ → wd D cA K_RTr h σ A s.heap H locs → lh ls 6 [some (.ref (h 0)), none, some (iv v2), some (iv v3), some (iv v4), none] → W p l e rm_X3_leave s m args below meth c H locs 0 0 Q (F0 m 10 ls []) := by
  intro n; induction n with
  | zero => intros; rename_i hwp _ _; exact hwp.elim
  | succ n ih =>
    intro v2 v3 v4 σ H locs ls hwp hw hl
    refine r_iload C dX3_leave_10 hl rfl ?_
    refine r_sipush C dX3_leave_12 bps_512 ?_
    obtain ⟨ra, hT, hF⟩ := hwp
    refine r_icmp_ge C (tgt := 67) dX3_leave_15 rfl ra (by decide) (fun hc => ?_) (fun hc => ?_)
    · have hwp := hT hc
      exact hR _ _ _ _ _ dX3_leave_67 hwp hw
    · have hwp := hF hc
      refine r_iload_n C dX3_leave_18 hl rfl ?_
      refine r_iload C dX3_leave_19 hl rfl ?_
      refine r_iadd C dX3_leave_21 ?_
      refine r_sipush C dX3_leave_22 bps_511 ?_
      refine r_iand C dX3_leave_25 ?_
      refine r_istore C dX3_leave_26 hl (Nat.le_of_ble_eq_true rfl) (Nat.le_of_ble_eq_true rfl) rfl (fun ls hl => ?_)
      refine r_aload_n C dX3_leave_28 hl rfl ?_
      refine r_getr C hw clX3 0 rfl 0 1 rfl (Nat.le_of_ble_eq_true rfl) hi_X3_leave_X3 hf_X3_leave_9 dX3_leave_29 ?_
      refine r_iload C dX3_leave_32 hl rfl ?_
      obtain ⟨h0, h1, hwp⟩ := hwp
      refine r_iald C hw 1 rfl rfl h0 h1 dX3_leave_34 ?_
      refine r_iload_n C dX3_leave_35 hl rfl ?_
      refine r_const C dX3_leave_36 ?_
      refine r_iadd C dX3_leave_37 ?_
      obtain ⟨ra, rb, hT, hF⟩ := hwp
      refine r_icmp_ne C (tgt := 50) dX3_leave_38 rfl ra rb (fun hc => ?_) (fun hc => ?_)
      · have hwp := hT hc
        refine r_aload_n C dX3_leave_50 hl rfl ?_
        refine r_getr C hw clX3 0 rfl 0 1 rfl (Nat.le_of_ble_eq_true rfl) hi_X3_leave_X3 hf_X3_leave_9 dX3_leave_51 ?_
        refine r_iload C dX3_leave_54 hl rfl ?_
        obtain ⟨h0, h1, hwp⟩ := hwp
        refine r_iald C hw 1 rfl rfl h0 h1 dX3_leave_56 ?_
        obtain ⟨ra, hT, hF⟩ := hwp
        refine r_if_ne C (tgt := 61) dX3_leave_57 rfl ra (fun hc => ?_) (fun hc => ?_)
        · have hwp := hT hc
          refine r_iinc C dX3_leave_61 hl rfl (Nat.le_of_ble_eq_true rfl) rfl (fun ls hl => ?_)
          refine r_goto C (tgt := 10) dX3_leave_64 rfl ?_
          exact ih hwp hw (lh_mask hl [true, false, true, true, true, false])
        · have hwp := hF hc
          exact hR _ _ _ _ _ dX3_leave_60 hwp hw
      · have hwp := hF hc
        refine r_aload_n C dX3_leave_41 hl rfl ?_
        refine r_getr C hw clX3 0 rfl 0 1 rfl (Nat.le_of_ble_eq_true rfl) hi_X3_leave_X3 hf_X3_leave_9 dX3_leave_42 ?_
        refine r_iload C dX3_leave_45 hl rfl ?_
        refine r_const C dX3_leave_47 ?_
        obtain ⟨h0, h1, hwp⟩ := hwp
        refine r_iast C hw 1 rfl rfl h0 h1 dX3_leave_48 (fun H locs hw => ?_)
        have hwp := hwp _ rfl
        exact hR _ _ _ _ _ dX3_leave_49 hwp hw
set_option maxRecDepth 100000 in
theorem b_X3_leave_0 {post : St → Prop} (C : cx p s m args meth c wsX3_leave RX3 cX3_leave 6 none D cA) (hA : ∀ q, s.heap.size ≤ q → A q) (hR : RtV p l e rm_X3_leave s m args below meth c Q cX3_leave D cA K_RTr h A post) : ∀ {v2 : Int} {σ : St} {H : Heap} {locs : List Loc} {ls : Array Slot}, wp_X3_leave σ v2 post → wd D cA K_RTr h σ A s.heap H locs → lh ls 6 [some (.ref (h 0)), some (.ref (h 2)), some (iv v2), none, none, none] → W p l e rm_X3_leave s m args below meth c H locs 0 0 Q (F0 m 0 ls []) := by
  intro v2 σ H locs ls hwp hw hl
  refine r_aload_n C dX3_leave_0 hl rfl ?_
  refine r_iload_n C dX3_leave_1 hl rfl ?_
  obtain ⟨h0, h1, hwp⟩ := hwp
  refine r_iald C hw 2 rfl rfl h0 h1 dX3_leave_2 ?_
  refine r_cIr hA hw sb_RTr_0_0_1 (run_s C hw sb_RTr_0_0_1 (c_X3_start hwp) (va_cwS 1 C.2.2.2.2.1 gX3_leave_X3_start rfl rfl rfl hd_X3_start ⟨Nat.le_of_ble_eq_true rfl, Nat.le_of_ble_eq_true rfl⟩) rfl rfl rfl hl dX3_leave_3 ⟨Nat.zero_le _, Nat.zero_le _⟩) (fun r H locs hwp hw => ?_)
  refine r_istore_n C dX3_leave_6 hl (Nat.le_of_ble_eq_true rfl) (Nat.le_of_ble_eq_true rfl) rfl (fun ls hl => ?_)
  refine r_const C dX3_leave_7 ?_
  refine r_istore C dX3_leave_8 hl (Nat.le_of_ble_eq_true rfl) (Nat.le_of_ble_eq_true rfl) rfl (fun ls hl => ?_)
  obtain ⟨n9, hwp⟩ := hwp
  exact b_X3_leave_10 C hA hR n9 hwp hw (lh_mask hl [true, false, true, true, true, false])
set_option maxRecDepth 100000 in
theorem c_X3_leave {l : Launch} {D : va_G} {cA : FieldType → ClassId} {h : Nat → Nat} {σ : St} {sz : Nat} {v2 : Int} {post : St → Prop} (hwp : wp_X3_leave σ v2 post) : Met l yX3_leave wsX3_leave rm_X3_leave (va_Pc [.ref (h 0), .ref (h 2), iv v2] (preS D cA K_RTr h σ sz)) (QV D cA K_RTr h sz post) 0 0 (aA K_RTr.length h sz) := by
  refine mk_met (cc := cX3_leave) (nL := 6) (ret := none) (own := RX3) 3 (by decide) rfl rfl rfl rfl ?_
  intro p e s m args below meth c ls hsz C hw hl hA
  subst hsz
  exact b_X3_leave_0 C hA (rt_v C _) hwp hw hl
end
