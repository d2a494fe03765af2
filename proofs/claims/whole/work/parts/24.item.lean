def l2w (a : Int) : Int := (Int32.ofInt a).toInt
theorem rg_l2w (a : Int) : rg (l2w a) := ⟨Int32.le_toInt _, Int32.toInt_lt _⟩
section
variable {p : Program} {l : Launch} {e : Env} {s : State} {m : MethodId} {args : Array Value} {below : List Frame} {meth : Method} {c : Code} {Q : State → Prop} {D : va_G} {cA : FieldType → ClassId} {h : Nat → Nat} {A : Nat → Prop}
theorem iv_l2w (a : Int) : iv (l2w a) = iv a := by unfold iv l2w; rw [Int32.ofInt_toInt]
def wq_X6_narrowed (v0 v1 : Int) (post : Int → Prop) : Prop := (rg v0 ∧ (v0 = 0 → (rg (i2b v1) ∧ (post (i2b v1)))) ∧ (v0 = 1 → (rg (i2s v1) ∧ (post (i2s v1)))) ∧ (v0 = 2 → (post (l2w v1))) ∧ (v0 = 3 → (post v1)) ∧ (¬ (0 ≤ v0 ∧ v0 ≤ 3) → (rl v1 ∧ rl 0 ∧ (rg (lcp v1 0) ∧ ((lcp v1 0) = 0 → (post 0)) ∧ (¬ (lcp v1 0) = 0 → (post 1))))))
def wq_X8_item (σ : St) (v1 v2 v3 : Int) (post : Int → St → Prop) : Prop := (wp_X8_isTape v1 (fun r1 => (rg r1 ∧ (¬ r1 = 0 → (0 ≤ v1 ∧ v1 < 6 ∧ (rg (σ (80 + 2 * (v1).toNat) 0) ∧ (¬ (σ (80 + 2 * (v1).toNat) 0) = (-1) → (wp_X6_has (pk σ [(80 + 2 * (v1).toNat), (81 + 2 * (v1).toNat)]) v2 1 (fun r2 => (rg r2 ∧ (¬ r2 = 0 → (wq_X6_narrowed (σ (80 + 2 * (v1).toNat) 0) v3 (fun r3 => (0 ≤ v2 ∧ v2 < 60 ∧ ∀ σ4 : St, σ4 = up σ (81 + 2 * (v1).toNat) v2 r3 → (post 1 σ4))))) ∧ (r2 = 0 → (post (-13) σ)))))) ∧ ((σ (80 + 2 * (v1).toNat) 0) = (-1) → (post (-11) σ))))) ∧ (r1 = 0 → (post (-1) σ)))))
def wq_X9_item (σ : St) (v1 v2 v3 : Int) (post : Int → St → Prop) : Prop := (wp_X9_isTape v1 (fun r1 => (rg r1 ∧ (¬ r1 = 0 → (0 ≤ v1 ∧ v1 < 6 ∧ (rg (σ 10 v1) ∧ (¬ (σ 10 v1) = 0 → (0 ≤ v1 ∧ v1 < 6 ∧ (wp_X9_within v2 0 ((σ 11 v1) - 1) (fun r2 => (rg r2 ∧ (¬ r2 = 0 → (0 ≤ v1 ∧ v1 < 6 ∧ (rg (σ 10 v1) ∧ (¬ (σ 10 v1) = 1 → (rg (σ 10 v1) ∧ (¬ (σ 10 v1) = 2 → (rg (σ 10 v1) ∧ (¬ (σ 10 v1) = 3 → (rg (σ 10 v1) ∧ (¬ (σ 10 v1) = 4 → (rl v3 ∧ rl 0 ∧ (rg (lcp v3 0) ∧ ((lcp v3 0) = 0 → (wp_X9_item_117 post ((60 * v1) + v2) 0 σ)) ∧ (¬ (lcp v3 0) = 0 → (wp_X9_item_117 post ((60 * v1) + v2) 1 σ))))) ∧ ((σ 10 v1) = 4 → (wp_X9_item_117 post ((60 * v1) + v2) v3 σ)))) ∧ ((σ 10 v1) = 3 → (wp_X9_item_117 post ((60 * v1) + v2) (l2w v3) σ)))) ∧ ((σ 10 v1) = 2 → (rg (i2s v3) ∧ (wp_X9_item_117 post ((60 * v1) + v2) (i2s v3) σ))))) ∧ ((σ 10 v1) = 1 → (rg (i2b v3) ∧ (wp_X9_item_117 post ((60 * v1) + v2) (i2b v3) σ)))))) ∧ (r2 = 0 → (post (-13) σ))))))) ∧ ((σ 10 v1) = 0 → (post (-11) σ))))) ∧ (r1 = 0 → (post (-1) σ)))))
set_option maxRecDepth 100000 in
theorem bq_X6_narrowed_0 {σ : St} {post : Int → Prop} (C : cx p s m args meth c wsX6_narrowed RX6 cX6_narrowed 3 (some .long) D cA) (hA : ∀ q, s.heap.size ≤ q → A q) (hR : RtL p l e rm_X6_narrowed s m args below meth c Q cX6_narrowed D cA K_0 h A (fun r σ' => σ' = σ ∧ post r)) : ∀ {v0 v1 : Int} {H : Heap} {locs : List Loc} {ls : Array Slot}, wq_X6_narrowed v0 v1 post → wd D cA K_0 h σ A s.heap H locs → lh ls 3 [some (iv v0), some (jv v1), none] → W p l e rm_X6_narrowed s m args below meth c H locs 0 0 Q (F0 m 0 ls []) := by
  intro v0 v1 H locs ls hwp hw hl
  refine r_iload_n C dX6_narrowed_0 hl rfl ?_
  obtain ⟨ra, hS0, hS1, hS2, hS3, hD⟩ := hwp
  rcases sw_0_3 ra with hc | hc | hc | hc | hc
  · have hwp := hS0 hc
    refine r_tin C (tgt := 32) dX6_narrowed_1 ra 0 hc (by decide) (by decide) rfl rfl ?_
    refine r_lload_n C dX6_narrowed_32 hl rfl ?_
    refine r_l2i C dX6_narrowed_33 ?_
    refine r_i2b C dX6_narrowed_34 ?_
    obtain ⟨ra, hwp⟩ := hwp
    refine r_i2l C dX6_narrowed_35 ra ?_
    exact hR _ _ _ _ _ _ dX6_narrowed_36 ⟨rfl, hwp⟩ hw
  · have hwp := hS1 hc
    refine r_tin C (tgt := 37) dX6_narrowed_1 ra 1 hc (by decide) (by decide) rfl rfl ?_
    refine r_lload_n C dX6_narrowed_37 hl rfl ?_
    refine r_l2i C dX6_narrowed_38 ?_
    refine r_i2s C dX6_narrowed_39 ?_
    obtain ⟨ra, hwp⟩ := hwp
    refine r_i2l C dX6_narrowed_40 ra ?_
    exact hR _ _ _ _ _ _ dX6_narrowed_41 ⟨rfl, hwp⟩ hw
  · have hwp := hS2 hc
    refine r_tin C (tgt := 42) dX6_narrowed_1 ra 2 hc (by decide) (by decide) rfl rfl ?_
    refine r_lload_n C dX6_narrowed_42 hl rfl ?_
    refine r_l2i C dX6_narrowed_43 ?_
    rw [← iv_l2w]
    refine r_i2l C dX6_narrowed_44 (rg_l2w _) ?_
    exact hR _ _ _ _ _ _ dX6_narrowed_45 ⟨rfl, hwp⟩ hw
  · have hwp := hS3 hc
    refine r_tin C (tgt := 46) dX6_narrowed_1 ra 3 hc (by decide) (by decide) rfl rfl ?_
    refine r_lload_n C dX6_narrowed_46 hl rfl ?_
    exact hR _ _ _ _ _ _ dX6_narrowed_47 ⟨rfl, hwp⟩ hw
  · have hwp := hD hc
    refine r_tout C (tgt := 48) dX6_narrowed_1 ra hc rfl ?_
    refine r_lload_n C dX6_narrowed_48 hl rfl ?_
    refine r_lconst C 0 rfl dX6_narrowed_49 ?_
    obtain ⟨ra, rb, hwp⟩ := hwp
    refine r_lcmp C dX6_narrowed_50 ra rb ?_
    obtain ⟨ra, hT, hF⟩ := hwp
    refine r_if_eq C (tgt := 58) dX6_narrowed_51 rfl ra (fun hc => ?_) (fun hc => ?_)
    · have hwp := hT hc
      refine r_lconst C 0 rfl dX6_narrowed_58 ?_
      exact hR _ _ _ _ _ _ dX6_narrowed_59 ⟨rfl, hwp⟩ hw
    · have hwp := hF hc
      refine r_lconst C 1 rfl dX6_narrowed_54 ?_
      refine r_goto C (tgt := 59) dX6_narrowed_55 rfl ?_
      exact hR _ _ _ _ _ _ dX6_narrowed_59 ⟨rfl, hwp⟩ hw
set_option maxRecDepth 100000 in
theorem cq_X6_narrowed {l : Launch} {D : va_G} {cA : FieldType → ClassId} {h : Nat → Nat} {σ : St} {sz : Nat} {v0 v1 : Int} {post : Int → Prop} (hwp : wq_X6_narrowed v0 v1 post) : Met l yX6_narrowed wsX6_narrowed rm_X6_narrowed (va_Pc [iv v0, jv v1] (preS D cA K_0 h σ sz)) (QL D cA K_0 h sz (fun r σ' => σ' = σ ∧ post r)) 0 0 (aA K_0.length h sz) := by
  refine mk_met (cc := cX6_narrowed) (nL := 3) (ret := (some .long)) (own := RX6) 0 (by decide) rfl rfl rfl rfl ?_
  intro p e s m args below meth c ls hsz C hw hl hA
  subst hsz
  exact bq_X6_narrowed_0 C hA (rt_l C _) hwp hw hl
set_option maxRecDepth 100000 in
theorem bq_X8_item_0 {post : Int → St → Prop} (C : cx p s m args meth c wsX8_item RX8 cX8_item 6 (some .int) D cA) (hA : ∀ q, s.heap.size ≤ q → A q) (hR : RtI p l e rm_X8_item s m args below meth c Q cX8_item D cA K_BT h A (fun _ => True) post) : ∀ {v1 v2 v3 : Int} {σ : St} {H : Heap} {locs : List Loc} {ls : Array Slot}, wq_X8_item σ v1 v2 v3 post → wd D cA K_BT h σ A s.heap H locs → lh ls 6 [some (.ref (h 0)), some (iv v1), some (iv v2), some (jv v3), none, none] → W p l e rm_X8_item s m args below meth c H locs 0 0 Q (F0 m 0 ls []) := by
  intro v1 v2 v3 σ H locs ls hwp hw hl
  refine r_iload_n C dX8_item_0 hl rfl ?_
  refine r_cIr hA hw sb_BT_0_0_21 (run_s C hw sb_BT_0_0_21 (c_X8_isTape hwp) (va_cwS 1 C.2.2.2.2.1 gX8_item_X8_isTape rfl rfl rfl hd_X8_isTape ⟨Nat.le_of_ble_eq_true rfl, Nat.le_of_ble_eq_true rfl⟩) rfl rfl rfl hl dX8_item_1 ⟨Nat.zero_le _, Nat.zero_le _⟩) (fun r H locs hwp hw => ?_)
  obtain ⟨ra, hT, hF⟩ := hwp
  refine r_if_ne C (tgt := 9) dX8_item_4 rfl ra (fun hc => ?_) (fun hc => ?_)
  · have hwp := hT hc
    refine r_aload_n C dX8_item_9 hl rfl ?_
    refine r_getr C hw clX8 0 rfl 7 79 rfl (Nat.le_of_ble_eq_true rfl) hi_X8_item_X8 hf_X8_item_50 dX8_item_10 ?_
    refine r_iload_n C dX8_item_13 hl rfl ?_
    obtain ⟨h0, h1, hwp⟩ := hwp
    have hv1 : (v1).toNat < 6 := by omega
    refine r_aald C hw 79 rfl rfl h0 h1 (80 + 2 * (v1).toNat) (kt_r hv1) dX8_item_14 ?_
    refine r_astore C dX8_item_15 hl (Nat.le_of_ble_eq_true rfl) (Nat.le_of_ble_eq_true rfl) rfl (fun ls hl => ?_)
    refine r_aload C dX8_item_17 hl rfl ?_
    refine r_get C hw clX6 (80 + 2 * (v1).toNat) (kt_o hv1) 0 0 rfl rfl (Nat.le_of_ble_eq_true rfl) hi_X8_item_X6 hf_X8_item_234 dX8_item_19 ?_
    refine r_const C dX8_item_22 ?_
    obtain ⟨ra, hT, hF⟩ := hwp
    refine r_icmp_ne C (tgt := 29) dX8_item_23 rfl ra (by decide) (fun hc => ?_) (fun hc => ?_)
    · have hwp := hT hc
      refine r_aload C dX8_item_29 hl rfl ?_
      refine r_iload_n C dX8_item_31 hl rfl ?_
      refine r_const C dX8_item_32 ?_
      refine r_cIr hA hw (sub_tape hv1) (run_v C hw (sub_tape hv1) clX6 rfl (c_X6_has hwp) (cwV 2 C.2.2.2.2.1 gX8_item_X6_has rfl rfl rfl hd_X6_has ⟨Nat.le_of_ble_eq_true rfl, Nat.le_of_ble_eq_true rfl⟩) rfl rfl rfl hl dX8_item_33 ⟨Nat.zero_le _, Nat.zero_le _⟩) (fun r H locs hwp hw => ?_)
      obtain ⟨ra, hT, hF⟩ := hwp
      refine r_if_ne C (tgt := 42) dX8_item_36 rfl ra (fun hc => ?_) (fun hc => ?_)
      · have hwp := hT hc
        refine r_aload C dX8_item_42 hl rfl ?_
        refine r_getr C hw clX6 (80 + 2 * (v1).toNat) (kt_o hv1) 2 (81 + 2 * (v1).toNat) rfl (Nat.le_of_ble_eq_true rfl) hi_X8_item_X6 hf_X8_item_240 dX8_item_44 ?_
        refine r_iload_n C dX8_item_47 hl rfl ?_
        refine r_aload C dX8_item_48 hl rfl ?_
        refine r_get C hw clX6 (80 + 2 * (v1).toNat) (kt_o hv1) 0 0 rfl rfl (Nat.le_of_ble_eq_true rfl) hi_X8_item_X6 hf_X8_item_234 dX8_item_50 ?_
        refine r_lload_n C dX8_item_53 hl rfl ?_
        refine r_cLr hA hw sb_BT_0_0_21 (run_s C hw sb_BT_0_0_21 (cq_X6_narrowed hwp) (va_cwS 2 C.2.2.2.2.1 gX8_item_X6_narrowed rfl rfl rfl hd_X6_narrowed ⟨Nat.le_of_ble_eq_true rfl, Nat.le_of_ble_eq_true rfl⟩) rfl rfl rfl hl dX8_item_54 ⟨Nat.zero_le _, Nat.zero_le _⟩) (fun r H locs hwp hw => ?_)
        obtain ⟨h0, h1, hwp⟩ := hwp
        refine r_last C hw (81 + 2 * (v1).toNat) (kt_a hv1) rfl h0 h1 dX8_item_57 (fun H locs hw => ?_)
        have hwp := hwp _ rfl
        refine r_const C dX8_item_58 ?_
        exact hR _ _ _ _ _ _ dX8_item_59 trivial hwp hw
      · have hwp := hF hc
        refine r_bipush C dX8_item_39 bpb_m13 ?_
        exact hR _ _ _ _ _ _ dX8_item_41 trivial hwp hw
    · have hwp := hF hc
      refine r_bipush C dX8_item_26 bpb_m11 ?_
      exact hR _ _ _ _ _ _ dX8_item_28 trivial hwp hw
  · have hwp := hF hc
    refine r_const C dX8_item_7 ?_
    exact hR _ _ _ _ _ _ dX8_item_8 trivial hwp hw
set_option maxRecDepth 100000 in
theorem cq_X8_item {l : Launch} {D : va_G} {cA : FieldType → ClassId} {h : Nat → Nat} {σ : St} {sz : Nat} {v1 v2 v3 : Int} {post : Int → St → Prop} (hwp : wq_X8_item σ v1 v2 v3 post) : Met l yX8_item wsX8_item rm_X8_item (va_Pc [.ref (h 0), iv v1, iv v2, jv v3] (preS D cA K_BT h σ sz)) (QI D cA K_BT h sz post) 0 0 (aA K_BT.length h sz) := by
  refine mk_met (cc := cX8_item) (nL := 6) (ret := (some .int)) (own := RX8) 1 (by decide) rfl rfl rfl rfl ?_
  intro p e s m args below meth c ls hsz C hw hl hA
  subst hsz
  exact bq_X8_item_0 C hA (rt_i C _) hwp hw hl
set_option maxRecDepth 100000 in
theorem bq_X9_item_0 {post : Int → St → Prop} (C : cx p s m args meth c wsX9_item RX9 cX9_item 6 (some .int) D cA) (hA : ∀ q, s.heap.size ≤ q → A q) (hR : RtI p l e rm_X9_item s m args below meth c Q cX9_item D cA K_M h A (fun _ => True) post) : ∀ {v1 v2 v3 : Int} {σ : St} {H : Heap} {locs : List Loc} {ls : Array Slot}, wq_X9_item σ v1 v2 v3 post → wd D cA K_M h σ A s.heap H locs → lh ls 6 [some (.ref (h 0)), some (iv v1), some (iv v2), some (jv v3), none, none] → W p l e rm_X9_item s m args below meth c H locs 0 0 Q (F0 m 0 ls []) := by
  intro v1 v2 v3 σ H locs ls hwp hw hl
  refine r_iload_n C dX9_item_0 hl rfl ?_
  refine r_cIr hA hw sb_M_0_0_36 (run_s C hw sb_M_0_0_36 (c_X9_isTape hwp) (va_cwS 1 C.2.2.2.2.1 gX9_item_X9_isTape rfl rfl rfl hd_X9_isTape ⟨Nat.le_of_ble_eq_true rfl, Nat.le_of_ble_eq_true rfl⟩) rfl rfl rfl hl dX9_item_1 ⟨Nat.zero_le _, Nat.zero_le _⟩) (fun r H locs hwp hw => ?_)
  obtain ⟨ra, hT, hF⟩ := hwp
  refine r_if_ne C (tgt := 9) dX9_item_4 rfl ra (fun hc => ?_) (fun hc => ?_)
  · have hwp := hT hc
    refine r_aload_n C dX9_item_9 hl rfl ?_
    refine r_getr C hw clX9 0 rfl 16 10 rfl (Nat.le_of_ble_eq_true rfl) hi_X9_item_X9 hf_X9_item_39 dX9_item_10 ?_
    refine r_iload_n C dX9_item_13 hl rfl ?_
    obtain ⟨h0, h1, hwp⟩ := hwp
    refine r_iald C hw 10 rfl rfl h0 h1 dX9_item_14 ?_
    obtain ⟨ra, hT, hF⟩ := hwp
    refine r_if_ne C (tgt := 21) dX9_item_15 rfl ra (fun hc => ?_) (fun hc => ?_)
    · have hwp := hT hc
      refine r_iload_n C dX9_item_21 hl rfl ?_
      refine r_const C dX9_item_22 ?_
      refine r_aload_n C dX9_item_23 hl rfl ?_
      refine r_getr C hw clX9 0 rfl 17 11 rfl (Nat.le_of_ble_eq_true rfl) hi_X9_item_X9 hf_X9_item_42 dX9_item_24 ?_
      refine r_iload_n C dX9_item_27 hl rfl ?_
      obtain ⟨h0, h1, hwp⟩ := hwp
      refine r_iald C hw 11 rfl rfl h0 h1 dX9_item_28 ?_
      refine r_const C dX9_item_29 ?_
      refine r_isub C dX9_item_30 ?_
      refine r_cIr hA hw sb_M_0_0_36 (run_s C hw sb_M_0_0_36 (c_X9_within hwp) (va_cwS 3 C.2.2.2.2.1 gX9_item_X9_within rfl rfl rfl hd_X9_within ⟨Nat.le_of_ble_eq_true rfl, Nat.le_of_ble_eq_true rfl⟩) rfl rfl rfl hl dX9_item_31 ⟨Nat.zero_le _, Nat.zero_le _⟩) (fun r H locs hwp hw => ?_)
      obtain ⟨ra, hT, hF⟩ := hwp
      refine r_if_ne C (tgt := 40) dX9_item_34 rfl ra (fun hc => ?_) (fun hc => ?_)
      · have hwp := hT hc
        refine r_aload_n C dX9_item_40 hl rfl ?_
        refine r_getr C hw clX9 0 rfl 16 10 rfl (Nat.le_of_ble_eq_true rfl) hi_X9_item_X9 hf_X9_item_39 dX9_item_41 ?_
        refine r_iload_n C dX9_item_44 hl rfl ?_
        obtain ⟨h0, h1, hwp⟩ := hwp
        refine r_iald C hw 10 rfl rfl h0 h1 dX9_item_45 ?_
        refine r_istore C dX9_item_46 hl (Nat.le_of_ble_eq_true rfl) (Nat.le_of_ble_eq_true rfl) rfl (fun ls hl => ?_)
        refine r_aload_n C dX9_item_48 hl rfl ?_
        refine r_getr C hw clX9 0 rfl 18 12 rfl (Nat.le_of_ble_eq_true rfl) hi_X9_item_X9 hf_X9_item_45 dX9_item_49 ?_
        refine r_bipush C dX9_item_52 bpb_60 ?_
        refine r_iload_n C dX9_item_54 hl rfl ?_
        refine r_imul C dX9_item_55 ?_
        refine r_iload_n C dX9_item_56 hl rfl ?_
        refine r_iadd C dX9_item_57 ?_
        refine r_iload C dX9_item_58 hl rfl ?_
        refine r_const C dX9_item_60 ?_
        obtain ⟨ra, hT, hF⟩ := hwp
        refine r_icmp_ne C (tgt := 71) dX9_item_61 rfl ra (by decide) (fun hc => ?_) (fun hc => ?_)
        · have hwp := hT hc
          refine r_iload C dX9_item_71 hl rfl ?_
          refine r_const C dX9_item_73 ?_
          obtain ⟨ra, hT, hF⟩ := hwp
          refine r_icmp_ne C (tgt := 84) dX9_item_74 rfl ra (by decide) (fun hc => ?_) (fun hc => ?_)
          · have hwp := hT hc
            refine r_iload C dX9_item_84 hl rfl ?_
            refine r_const C dX9_item_86 ?_
            obtain ⟨ra, hT, hF⟩ := hwp
            refine r_icmp_ne C (tgt := 96) dX9_item_87 rfl ra (by decide) (fun hc => ?_) (fun hc => ?_)
            · have hwp := hT hc
              refine r_iload C dX9_item_96 hl rfl ?_
              refine r_const C dX9_item_98 ?_
              obtain ⟨ra, hT, hF⟩ := hwp
              refine r_icmp_ne C (tgt := 106) dX9_item_99 rfl ra (by decide) (fun hc => ?_) (fun hc => ?_)
              · have hwp := hT hc
                refine r_lload_n C dX9_item_106 hl rfl ?_
                refine r_lconst C 0 rfl dX9_item_107 ?_
                obtain ⟨ra, rb, hwp⟩ := hwp
                refine r_lcmp C dX9_item_108 ra rb ?_
                obtain ⟨ra, hT, hF⟩ := hwp
                refine r_if_eq C (tgt := 116) dX9_item_109 rfl ra (fun hc => ?_) (fun hc => ?_)
                · have hwp := hT hc
                  refine r_lconst C 0 rfl dX9_item_116 ?_
                  exact b_X9_item_117 C hA hR hwp hw (lh_mask hl [false, false, false, false, false, false])
                · have hwp := hF hc
                  refine r_lconst C 1 rfl dX9_item_112 ?_
                  refine r_goto C (tgt := 117) dX9_item_113 rfl ?_
                  exact b_X9_item_117 C hA hR hwp hw (lh_mask hl [false, false, false, false, false, false])
              · have hwp := hF hc
                refine r_lload_n C dX9_item_102 hl rfl ?_
                refine r_goto C (tgt := 117) dX9_item_103 rfl ?_
                exact b_X9_item_117 C hA hR hwp hw (lh_mask hl [false, false, false, false, false, false])
            · have hwp := hF hc
              refine r_lload_n C dX9_item_90 hl rfl ?_
              refine r_l2i C dX9_item_91 ?_
              rw [← iv_l2w]
              refine r_i2l C dX9_item_92 (rg_l2w _) ?_
              refine r_goto C (tgt := 117) dX9_item_93 rfl ?_
              exact b_X9_item_117 C hA hR hwp hw (lh_mask hl [false, false, false, false, false, false])
          · have hwp := hF hc
            refine r_lload_n C dX9_item_77 hl rfl ?_
            refine r_l2i C dX9_item_78 ?_
            refine r_i2s C dX9_item_79 ?_
            obtain ⟨ra, hwp⟩ := hwp
            refine r_i2l C dX9_item_80 ra ?_
            refine r_goto C (tgt := 117) dX9_item_81 rfl ?_
            exact b_X9_item_117 C hA hR hwp hw (lh_mask hl [false, false, false, false, false, false])
        · have hwp := hF hc
          refine r_lload_n C dX9_item_64 hl rfl ?_
          refine r_l2i C dX9_item_65 ?_
          refine r_i2b C dX9_item_66 ?_
          obtain ⟨ra, hwp⟩ := hwp
          refine r_i2l C dX9_item_67 ra ?_
          refine r_goto C (tgt := 117) dX9_item_68 rfl ?_
          exact b_X9_item_117 C hA hR hwp hw (lh_mask hl [false, false, false, false, false, false])
      · have hwp := hF hc
        refine r_bipush C dX9_item_37 bpb_m13 ?_
        exact hR _ _ _ _ _ _ dX9_item_39 trivial hwp hw
    · have hwp := hF hc
      refine r_bipush C dX9_item_18 bpb_m11 ?_
      exact hR _ _ _ _ _ _ dX9_item_20 trivial hwp hw
  · have hwp := hF hc
    refine r_const C dX9_item_7 ?_
    exact hR _ _ _ _ _ _ dX9_item_8 trivial hwp hw
set_option maxRecDepth 100000 in
theorem cq_X9_item {l : Launch} {D : va_G} {cA : FieldType → ClassId} {h : Nat → Nat} {σ : St} {sz : Nat} {v1 v2 v3 : Int} {post : Int → St → Prop} (hwp : wq_X9_item σ v1 v2 v3 post) : Met l yX9_item wsX9_item rm_X9_item (va_Pc [.ref (h 0), iv v1, iv v2, jv v3] (preS D cA K_M h σ sz)) (QI D cA K_M h sz post) 0 0 (aA K_M.length h sz) := by
  refine mk_met (cc := cX9_item) (nL := 6) (ret := (some .int)) (own := RX9) 1 (by decide) rfl rfl rfl rfl ?_
  intro p e s m args below meth c ls hsz C hw hl hA
  subst hsz
  exact bq_X9_item_0 C hA (rt_i C _) hwp hw hl
end
