/-! the walk of the law's body -/
theorem sj_0 (σ σ' : St) : sj σ 0 σ' = σ' := by
  funext i
  simp [sj]
theorem ini8_zr {σ : St} (h : ini8 σ) : ini8 (zr σ 92) := by
  obtain ⟨h1, h2, h3, h4, h5, h6, h7, h8⟩ := h
  refine ⟨suOK_cong h1 (fun k hk => zr_ne _ (by omega)), ?_, ?_, fun j => ?_, fun j => ?_, fun j => ?_, ?_, fun t ht => ?_⟩
  · rw [zr_ne _ (by decide)]; exact h2
  · rw [zr_ne _ (by decide)]; exact h3
  · rw [zr_ne _ (by decide)]; exact h4 j
  · rw [zr_ne _ (by decide)]; exact h5 j
  · rw [zr_ne _ (by decide)]; exact h6 j
  · rw [zr_ne _ (by decide)]; exact h7
  · rw [zr_ne _ (by omega), zr_ne _ (by omega)]; exact h8 t ht
set_option maxHeartbeats 4000000 in
set_option maxRecDepth 100000 in
theorem whole_start {p : Program} {e : Env} {s : State} {m : MethodId} {below : List Frame} {meth : Method} {c : Code} (l : Launch) (hflags : l.flags = flags0) {b L : Nat} {xs : Nat → Int32} (hL : L ≤ 3072) (C0 : lw_At p s m meth c b L xs) : W p l e room_1 s m #[Value.ref b] below meth c s.heap [] 0 0 (lw_Z below #[Value.ref b] s) (entryFrame m ([Value.ref b] : List Value).toArray 4) := by
  obtain ⟨hx, hb, hr, hml, hown, hts, hX, hbl, hlocks, hgv⟩ := id C0
  have hA : ∀ q : Nat, s.heap.size ≤ q → (fun q : Nat => s.heap.size ≤ q) q := fun _ h => h
  obtain ⟨c0, i0, k0⟩ := u_known (C := RX0) (T := TX0) (N := 7) (n := 7) hts inT_X0 (hts _ inI_X0)
  obtain ⟨c1, i1, k1⟩ := u_known (C := RX1) (T := TX1) (N := 4) (n := 4) hts inT_X1 (hts _ inI_X1)
  obtain ⟨c2, i2, k2⟩ := u_known (C := RX3) (T := TX3) (N := 1) (n := 1) hts inT_X3 (hts _ inI_X3)
  obtain ⟨c3, i3, k3⟩ := u_known (C := RX4) (T := TX4) (N := 11) (n := 11) hts inT_X4 (hts _ inI_X4)
  obtain ⟨c4, i4, k4⟩ := u_known (C := RX5) (T := TX5) (N := 8) (n := 8) hts inT_X5 (hts _ inI_X5)
  obtain ⟨c5, i5, k5⟩ := u_known (C := RX6) (T := TX6) (N := 3) (n := 3) hts inT_X6 (hts _ inI_X6)
  obtain ⟨c6, i6, k6⟩ := u_known (C := RX7) (T := TX7) (N := 8) (n := 8) hts inT_X7 (hts _ inI_X7)
  obtain ⟨c7, i7, k7⟩ := u_known (C := RX8) (T := TX8) (N := 10) (n := 10) hts inT_X8 (hts _ inI_X8)
  obtain ⟨c8, i8, k8⟩ := u_known (C := RX9) (T := TX9) (N := 20) (n := 20) hts inT_X9 (hts _ inI_X9)
  obtain ⟨dC, dI, hKc⟩ : ∃ (dC : Nat → ClassId) (dI : Nat → Nat → Nat), ∀ (k : Nat) (q : vw_C), vwCl[k]? = some q → u_Kn s q.1 q.2.1 q.2.2 (dC k) (dI k) := by
    refine ⟨fun k => match k with | 0 => c0 | 1 => c1 | 2 => c2 | 3 => c3 | 4 => c4 | 5 => c5 | 6 => c6 | 7 => c7 | _ => c8, fun k => match k with | 0 => i0 | 1 => i1 | 2 => i2 | 3 => i3 | 4 => i4 | 5 => i5 | 6 => i6 | 7 => i7 | _ => i8, ?_⟩
    intro k q hq
    match k, hq with
    | 0, hq => cases hq; exact k0
    | 1, hq => cases hq; exact k1
    | 2, hq => cases hq; exact k2
    | 3, hq => cases hq; exact k3
    | 4, hq => cases hq; exact k4
    | 5, hq => cases hq; exact k5
    | 6, hq => cases hq; exact k6
    | 7, hq => cases hq; exact k7
    | 8, hq => cases hq; exact k8
    | k + 9, hq => simp [vwCl] at hq
  obtain ⟨aI, nI, pI, a1I, a2I, a3I⟩ := Cond.arrayClass_spec (hts _ inA_int)
  obtain ⟨aJ, nJ, pJ, a1J, a2J, a3J⟩ := Cond.arrayClass_spec (hts _ inA_long)
  obtain ⟨aB, nB, pB, a1B, a2B, a3B⟩ := Cond.arrayClass_spec (hts _ inA_byte)
  obtain ⟨aZ, nZ, pZ, a1Z, a2Z, a3Z⟩ := Cond.arrayClass_spec (hts _ inA_boolean)
  obtain ⟨pT, aT, nT, b1, b2, b3, b4, b5⟩ := Cond.arrayOver_spec (hts _ inO)
  obtain ⟨cA, eI, eJ, eB, eZ, eT⟩ : ∃ cA : FieldType → ClassId, cA .int = aI ∧ cA .long = aJ ∧ cA .byte = aB ∧ cA .boolean = aZ ∧ cA (.object "BellTouches$Tape") = aT := ⟨fun ty => match ty with | .int => aI | .long => aJ | .byte => aB | .boolean => aZ | _ => aT, rfl, rfl, rfl, rfl, rfl⟩
  have hK : va_K (dC, dI) vwCl (tyL cA) s := by
    refine ⟨hKc, fun k q hq => ?_⟩
    match k, hq with
    | 0, hq => cases hq; exact ⟨fun n z => ⟨fun k h => (by cases h), nI, by rw [← eI] at a2I; exact a2I, pI, a3I⟩, by rw [← eI] at a1I; exact a1I⟩
    | 1, hq => cases hq; exact ⟨fun n z => ⟨fun k h => (by cases h), nJ, by rw [← eJ] at a2J; exact a2J, pJ, a3J⟩, by rw [← eJ] at a1J; exact a1J⟩
    | 2, hq => cases hq; exact ⟨fun n z => ⟨fun k h => (by cases h), nB, by rw [← eB] at a2B; exact a2B, pB, a3B⟩, by rw [← eB] at a1B; exact a1B⟩
    | 3, hq => cases hq; exact ⟨fun n z => ⟨fun k h => (by cases h), nZ, by rw [← eZ] at a2Z; exact a2Z, pZ, a3Z⟩, by rw [← eZ] at a1Z; exact a1Z⟩
    | 4, hq => cases hq; exact ⟨fun n z => ⟨fun k h => (by cases h), nT, by rw [← eT] at b3; exact b3, pT, b4⟩, ⟨nT, pT, by rw [← eT] at b3; exact b3, b4, b1, by rw [← eT] at b5; exact b5⟩⟩
    | k + 5, hq => simp [tyL] at hq
  have C : cx p s m #[Value.ref b] meth c lw_tbl RL cL_law 4 ret (dC, dI) cA := ⟨hx, hb, hml, hown, hts, hr, hlocks, hK⟩
  have hN : nwF s := ⟨va_AO.of (hts _ inO), hts _ inW_1, hts _ inW_2, hts _ inW_3, hts _ inW_4, hts _ inW_5, hts _ inW_6, hts _ inW_7, hts _ inW_8⟩
  have hw : wd (dC, dI) cA [] (fun _ => 0) (fun _ _ => 0) (fun q : Nat => s.heap.size ≤ q) s.heap s.heap [] := ⟨fun k q h => by simp [wo] at h, ⟨fun i j p q h => by simp [wo] at h, fun k q h => by simp [wo] at h⟩, va_S.rf⟩
  have hl : lh ((lg_sl [.ref b] ++ List.replicate (4 - (lg_sl [.ref b]).length) Slot.unset).toArray) 4 [some (.ref b), none, none, none] := lh_entry [.ref b] (Nat.le_of_ble_eq_true rfl) 3
  rw [lg_entry_eq]
  generalize (lg_sl [.ref b] ++ List.replicate (4 - (lg_sl [.ref b]).length) Slot.unset).toArray = ls at hl ⊢
  refine r_new C hw hA rfl clX8 [some none, some none, some none, some none, some none, some none, some none, some none, none, none] rfl df_X8 inT_X8 inC_X8 inI_X8 inN_X8 (Nat.le_of_ble_eq_true rfl) (Nat.le_of_ble_eq_true rfl) dL_law_0 (fun q1 H hw => ?_)
  refine r_dup C dL_law_3 rfl ?_
  have hw : wd (dC, dI) cA ([] ++ [.inl (7, [some none, some none, some none, some none, some none, some none, some none, some none, none, none])]) _ _ _ _ _ _ := hw
  refine r_ctor (K0 := []) (K1 := K_BT) C hw hA rfl rfl (run_i C hw rfl hN (c_X8_init (s_i8 (post := ini8) (fun σ' h => h))) (cwI 0 hts gL_law_X8_init rfl rfl rfl (hts _ inN_X8) (hts _ inM_X8) (hts _ inE_X8) rfl (by decide +kernel) ⟨Nat.le_of_ble_eq_true rfl, Nat.le_of_ble_eq_true rfl⟩) rfl rfl rfl hl dL_law_4 ⟨Nat.le_of_ble_eq_true rfl, Nat.le_of_ble_eq_true rfl⟩) (fun h8 σ8 H locs hi8 hw => ?_)
  have hw : wd (dC, dI) cA K_BT (hj _ 0 h8) (sj _ 0 σ8) _ _ _ _ := hw
  rw [sj_0] at hw
  refine r_astore_n C dL_law_7 hl (Nat.le_of_ble_eq_true rfl) (Nat.le_of_ble_eq_true rfl) rfl (fun ls hl => ?_)
  refine r_new C hw hA rfl clX9 [some none, some none, none, none, some none, some none, none, some none, none, none, none, some none, some none, some none, none, some none, some none, some none, some none, some none] rfl df_X9 inT_X9 inC_X9 inI_X9 inN_X9 (Nat.le_of_ble_eq_true rfl) (Nat.le_of_ble_eq_true rfl) dL_law_8 (fun q2 H hw => ?_)
  refine r_dup C dL_law_11 rfl ?_
  refine r_ctor2 (K1 := K_BT) (K2 := K_M) C hw hA rfl rfl (run_i C hw rfl hN (c_X9_init (s_i9 (post := ini9) (fun j => by simp [sk, zr]) (fun σ' h => h))) (cwI 0 hts gL_law_X9_init rfl rfl rfl (hts _ inN_X9) (hts _ inM_X9) (hts _ inE_X9) rfl (by decide +kernel) ⟨Nat.le_of_ble_eq_true rfl, Nat.le_of_ble_eq_true rfl⟩) rfl rfl rfl hl dL_law_12 ⟨Nat.le_of_ble_eq_true rfl, Nat.le_of_ble_eq_true rfl⟩) (fun h9 τ9 H locs e0 hi9 hw => ?_)
  refine r_astore_n C dL_law_15 hl (Nat.le_of_ble_eq_true rfl) (Nat.le_of_ble_eq_true rfl) rfl (fun ls hl => ?_)
  refine r_const C dL_law_16 ?_
  refine r_istore_n C dL_law_17 hl (Nat.le_of_ble_eq_true rfl) (Nat.le_of_ble_eq_true rfl) rfl (fun ls hl => ?_)
  refine W.widen (k := 600000) (n := 7302250) (Nat.le_of_ble_eq_true rfl) (Nat.le_of_ble_eq_true rfl) ?_
  have hwl := law_all opleast opread hL xs (L + 7) 0 (Nat.zero_le _) (by omega) (frS 6) _ τ9 (RR_ini (ini8_zr hi8) hi9)
  refine law_loop C hX hbl hL (fun hf => ?_) (L + 7) hwl hw ?_
  · refine r_const C dL_law_1215 ?_
    exact va_forget hf (lw_ret hx hb hr hlocks dL_law_1216)
  · rw [e0]
    exact hl
