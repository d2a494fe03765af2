def K_HR (N : Nat) : List Kd := [.inl (1, [some (some 1), some (some 2), some (some 3), none]), .inr (.inl (.int, N)), .inr (.inl (.int, N)), .inr (.inl (.int, N))]
def K_RT : List Kd := [.inl (2, [some (some 1)]), .inr (.inl (.int, 512))]
def K_Setup : List Kd := [.inl (3, [none, some (some 1), none, none, none, some (some 2), none, some (some 3), some (some 4), some (some 8), some (some 12)]), .inr (.inl (.int, 16)), .inr (.inl (.int, 12)), .inr (.inl (.int, 8)), .inl (1, [some (some 5), some (some 6), some (some 7), none]), .inr (.inl (.int, 5)), .inr (.inl (.int, 5)), .inr (.inl (.int, 5)), .inl (1, [some (some 9), some (some 10), some (some 11), none]), .inr (.inl (.int, 8)), .inr (.inl (.int, 8)), .inr (.inl (.int, 8)), .inl (1, [some (some 13), some (some 14), some (some 15), none]), .inr (.inl (.int, 8)), .inr (.inl (.int, 8)), .inr (.inl (.int, 8))]
def K_Touch : List Kd := [.inl (6, [some (some 1), none, none, some (some 2), some (some 3), some (some 4), some (some 5), none]), .inr (.inl (.int, 193)), .inr (.inl (.int, 16)), .inr (.inl (.int, 3)), .inr (.inl (.int, 193)), .inl (2, [some (some 6)]), .inr (.inl (.int, 512))]
def K_Few : List Kd := [.inl (0, [none, none, some (some 1), some (some 8), some (some 10), none, none]), .inl (6, [some (some 2), none, none, some (some 3), some (some 4), some (some 5), some (some 6), none]), .inr (.inl (.int, 193)), .inr (.inl (.int, 16)), .inr (.inl (.int, 3)), .inr (.inl (.int, 193)), .inl (2, [some (some 7)]), .inr (.inl (.int, 512)), .inl (2, [some (some 9)]), .inr (.inl (.int, 512)), .inr (.inl (.boolean, 3))]
def K_Text : List Kd := [.inl (4, [none, some (some 1), none, some (some 2), some (some 3), none, some (some 4), none]), .inr (.inl (.byte, 100)), .inr (.inl (.int, 10)), .inr (.inl (.int, 11)), .inr (.inl (.int, 100))]
def K_Tape : List Kd := [.inl (5, [none, none, some (some 1)]), .inr (.inl (.long, 60))]
def K_BT : List Kd := [.inl (7, [some (some 1), some (some 17), some (some 33), some (some 49), some (some 56), some (some 63), some (some 74), some (some 79), none, none]), .inl (3, [none, some (some 2), none, none, none, some (some 3), none, some (some 4), some (some 5), some (some 9), some (some 13)]), .inr (.inl (.int, 16)), .inr (.inl (.int, 12)), .inr (.inl (.int, 8)), .inl (1, [some (some 6), some (some 7), some (some 8), none]), .inr (.inl (.int, 5)), .inr (.inl (.int, 5)), .inr (.inl (.int, 5)), .inl (1, [some (some 10), some (some 11), some (some 12), none]), .inr (.inl (.int, 8)), .inr (.inl (.int, 8)), .inr (.inl (.int, 8)), .inl (1, [some (some 14), some (some 15), some (some 16), none]), .inr (.inl (.int, 8)), .inr (.inl (.int, 8)), .inr (.inl (.int, 8)), .inl (3, [none, some (some 18), none, none, none, some (some 19), none, some (some 20), some (some 21), some (some 25), some (some 29)]), .inr (.inl (.int, 16)), .inr (.inl (.int, 12)), .inr (.inl (.int, 8)), .inl (1, [some (some 22), some (some 23), some (some 24), none]), .inr (.inl (.int, 5)), .inr (.inl (.int, 5)), .inr (.inl (.int, 5)), .inl (1, [some (some 26), some (some 27), some (some 28), none]), .inr (.inl (.int, 8)), .inr (.inl (.int, 8)), .inr (.inl (.int, 8)), .inl (1, [some (some 30), some (some 31), some (some 32), none]), .inr (.inl (.int, 8)), .inr (.inl (.int, 8)), .inr (.inl (.int, 8)), .inl (3, [none, some (some 34), none, none, none, some (some 35), none, some (some 36), some (some 37), some (some 41), some (some 45)]), .inr (.inl (.int, 16)), .inr (.inl (.int, 12)), .inr (.inl (.int, 8)), .inl (1, [some (some 38), some (some 39), some (some 40), none]), .inr (.inl (.int, 5)), .inr (.inl (.int, 5)), .inr (.inl (.int, 5)), .inl (1, [some (some 42), some (some 43), some (some 44), none]), .inr (.inl (.int, 8)), .inr (.inl (.int, 8)), .inr (.inl (.int, 8)), .inl (1, [some (some 46), some (some 47), some (some 48), none]), .inr (.inl (.int, 8)), .inr (.inl (.int, 8)), .inr (.inl (.int, 8)), .inl (6, [some (some 50), none, none, some (some 51), some (some 52), some (some 53), some (some 54), none]), .inr (.inl (.int, 193)), .inr (.inl (.int, 16)), .inr (.inl (.int, 3)), .inr (.inl (.int, 193)), .inl (2, [some (some 55)]), .inr (.inl (.int, 512)), .inl (6, [some (some 57), none, none, some (some 58), some (some 59), some (some 60), some (some 61), none]), .inr (.inl (.int, 193)), .inr (.inl (.int, 16)), .inr (.inl (.int, 3)), .inr (.inl (.int, 193)), .inl (2, [some (some 62)]), .inr (.inl (.int, 512)), .inl (0, [none, none, some (some 64), some (some 71), some (some 73), none, none]), .inl (6, [some (some 65), none, none, some (some 66), some (some 67), some (some 68), some (some 69), none]), .inr (.inl (.int, 193)), .inr (.inl (.int, 16)), .inr (.inl (.int, 3)), .inr (.inl (.int, 193)), .inl (2, [some (some 70)]), .inr (.inl (.int, 512)), .inl (2, [some (some 72)]), .inr (.inl (.int, 512)), .inr (.inl (.boolean, 3)), .inl (4, [none, some (some 75), none, some (some 76), some (some 77), none, some (some 78), none]), .inr (.inl (.byte, 100)), .inr (.inl (.int, 10)), .inr (.inl (.int, 11)), .inr (.inl (.int, 100)), .inr (.inr ("BellTouches$Tape", [some 80, some 82, some 84, some 86, some 88, some 90])), .inl (5, [none, none, some (some 81)]), .inr (.inl (.long, 60)), .inl (5, [none, none, some (some 83)]), .inr (.inl (.long, 60)), .inl (5, [none, none, some (some 85)]), .inr (.inl (.long, 60)), .inl (5, [none, none, some (some 87)]), .inr (.inl (.long, 60)), .inl (5, [none, none, some (some 89)]), .inr (.inl (.long, 60)), .inl (5, [none, none, some (some 91)]), .inr (.inl (.long, 60))]
def K_M : List Kd := [.inl (8, [some (some 1), some (some 2), none, none, some (some 3), some (some 4), none, some (some 5), none, none, none, some (some 6), some (some 7), some (some 8), none, some (some 9), some (some 10), some (some 11), some (some 12), some (some 13)]), .inr (.inl (.int, 91)), .inr (.inl (.int, 91)), .inr (.inl (.int, 1544)), .inr (.inl (.int, 193)), .inr (.inl (.int, 100)), .inr (.inl (.int, 10)), .inr (.inl (.int, 10)), .inr (.inl (.int, 10)), .inr (.inl (.int, 100)), .inr (.inl (.int, 6)), .inr (.inl (.int, 6)), .inr (.inl (.long, 360)), .inr (.inl (.long, 60))]
def K_HR2 (N : Nat) : List Kd := [.inl (1, [some (some 1), some (some 2), some (some 3), none]), .inr (.inl (.int, N)), .inr (.inl (.int, N)), .inr (.inl (.int, N)), .inl (1, [some (some 5), some (some 6), some (some 7), none]), .inr (.inl (.int, N)), .inr (.inl (.int, N)), .inr (.inl (.int, N))]
def K_RTr : List Kd := [.inl (2, [some (some 1)]), .inr (.inl (.int, 512)), .inr (.inl (.int, 193))]
def K_Setup2 : List Kd := [.inl (3, [none, some (some 1), none, none, none, some (some 2), none, some (some 3), some (some 4), some (some 8), some (some 12)]), .inr (.inl (.int, 16)), .inr (.inl (.int, 12)), .inr (.inl (.int, 8)), .inl (1, [some (some 5), some (some 6), some (some 7), none]), .inr (.inl (.int, 5)), .inr (.inl (.int, 5)), .inr (.inl (.int, 5)), .inl (1, [some (some 9), some (some 10), some (some 11), none]), .inr (.inl (.int, 8)), .inr (.inl (.int, 8)), .inr (.inl (.int, 8)), .inl (1, [some (some 13), some (some 14), some (some 15), none]), .inr (.inl (.int, 8)), .inr (.inl (.int, 8)), .inr (.inl (.int, 8)), .inl (3, [none, some (some 17), none, none, none, some (some 18), none, some (some 19), some (some 20), some (some 24), some (some 28)]), .inr (.inl (.int, 16)), .inr (.inl (.int, 12)), .inr (.inl (.int, 8)), .inl (1, [some (some 21), some (some 22), some (some 23), none]), .inr (.inl (.int, 5)), .inr (.inl (.int, 5)), .inr (.inl (.int, 5)), .inl (1, [some (some 25), some (some 26), some (some 27), none]), .inr (.inl (.int, 8)), .inr (.inl (.int, 8)), .inr (.inl (.int, 8)), .inl (1, [some (some 29), some (some 30), some (some 31), none]), .inr (.inl (.int, 8)), .inr (.inl (.int, 8)), .inr (.inl (.int, 8))]
def K_TouchS : List Kd := [.inl (6, [some (some 1), none, none, some (some 2), some (some 3), some (some 4), some (some 5), none]), .inr (.inl (.int, 193)), .inr (.inl (.int, 16)), .inr (.inl (.int, 3)), .inr (.inl (.int, 193)), .inl (2, [some (some 6)]), .inr (.inl (.int, 512)), .inl (3, [none, some (some 8), none, none, none, some (some 9), none, some (some 10), some (some 11), some (some 15), some (some 19)]), .inr (.inl (.int, 16)), .inr (.inl (.int, 12)), .inr (.inl (.int, 8)), .inl (1, [some (some 12), some (some 13), some (some 14), none]), .inr (.inl (.int, 5)), .inr (.inl (.int, 5)), .inr (.inl (.int, 5)), .inl (1, [some (some 16), some (some 17), some (some 18), none]), .inr (.inl (.int, 8)), .inr (.inl (.int, 8)), .inr (.inl (.int, 8)), .inl (1, [some (some 20), some (some 21), some (some 22), none]), .inr (.inl (.int, 8)), .inr (.inl (.int, 8)), .inr (.inl (.int, 8))]
def K_FewS : List Kd := [.inl (0, [none, none, some (some 1), some (some 8), some (some 10), none, none]), .inl (6, [some (some 2), none, none, some (some 3), some (some 4), some (some 5), some (some 6), none]), .inr (.inl (.int, 193)), .inr (.inl (.int, 16)), .inr (.inl (.int, 3)), .inr (.inl (.int, 193)), .inl (2, [some (some 7)]), .inr (.inl (.int, 512)), .inl (2, [some (some 9)]), .inr (.inl (.int, 512)), .inr (.inl (.boolean, 3)), .inl (3, [none, some (some 12), none, none, none, some (some 13), none, some (some 14), some (some 15), some (some 19), some (some 23)]), .inr (.inl (.int, 16)), .inr (.inl (.int, 12)), .inr (.inl (.int, 8)), .inl (1, [some (some 16), some (some 17), some (some 18), none]), .inr (.inl (.int, 5)), .inr (.inl (.int, 5)), .inr (.inl (.int, 5)), .inl (1, [some (some 20), some (some 21), some (some 22), none]), .inr (.inl (.int, 8)), .inr (.inl (.int, 8)), .inr (.inl (.int, 8)), .inl (1, [some (some 24), some (some 25), some (some 26), none]), .inr (.inl (.int, 8)), .inr (.inl (.int, 8)), .inr (.inl (.int, 8))]
def K_TextS : List Kd := [.inl (4, [none, some (some 1), none, some (some 2), some (some 3), none, some (some 4), none]), .inr (.inl (.byte, 100)), .inr (.inl (.int, 10)), .inr (.inl (.int, 11)), .inr (.inl (.int, 100)), .inl (3, [none, some (some 6), none, none, none, some (some 7), none, some (some 8), some (some 9), some (some 13), some (some 17)]), .inr (.inl (.int, 16)), .inr (.inl (.int, 12)), .inr (.inl (.int, 8)), .inl (1, [some (some 10), some (some 11), some (some 12), none]), .inr (.inl (.int, 5)), .inr (.inl (.int, 5)), .inr (.inl (.int, 5)), .inl (1, [some (some 14), some (some 15), some (some 16), none]), .inr (.inl (.int, 8)), .inr (.inl (.int, 8)), .inr (.inl (.int, 8)), .inl (1, [some (some 18), some (some 19), some (some 20), none]), .inr (.inl (.int, 8)), .inr (.inl (.int, 8)), .inr (.inl (.int, 8))]
def K_0 : List Kd := []
theorem clX0 : clo 0 RX0 TX0 7 tyX0 := ⟨rfl, tyX0_ok, nmX0⟩
theorem clX1 : clo 1 RX1 TX1 4 tyX1 := ⟨rfl, tyX1_ok, nmX1⟩
theorem clX3 : clo 2 RX3 TX3 1 tyX3 := ⟨rfl, tyX3_ok, nmX3⟩
theorem clX4 : clo 3 RX4 TX4 11 tyX4 := ⟨rfl, tyX4_ok, nmX4⟩
theorem clX5 : clo 4 RX5 TX5 8 tyX5 := ⟨rfl, tyX5_ok, nmX5⟩
theorem clX6 : clo 5 RX6 TX6 3 tyX6 := ⟨rfl, tyX6_ok, nmX6⟩
theorem clX7 : clo 6 RX7 TX7 8 tyX7 := ⟨rfl, tyX7_ok, nmX7⟩
theorem clX8 : clo 7 RX8 TX8 10 tyX8 := ⟨rfl, tyX8_ok, nmX8⟩
theorem clX9 : clo 8 RX9 TX9 20 tyX9 := ⟨rfl, tyX9_ok, nmX9⟩
theorem bpb_m14 : (Int8.ofInt (-14)).toInt32 = Int32.ofInt (-14) := by decide +kernel
theorem bpb_m13 : (Int8.ofInt (-13)).toInt32 = Int32.ofInt (-13) := by decide +kernel
theorem bpb_m12 : (Int8.ofInt (-12)).toInt32 = Int32.ofInt (-12) := by decide +kernel
theorem bpb_m11 : (Int8.ofInt (-11)).toInt32 = Int32.ofInt (-11) := by decide +kernel
theorem bpb_m10 : (Int8.ofInt (-10)).toInt32 = Int32.ofInt (-10) := by decide +kernel
theorem bpb_m5 : (Int8.ofInt (-5)).toInt32 = Int32.ofInt (-5) := by decide +kernel
theorem bpb_m4 : (Int8.ofInt (-4)).toInt32 = Int32.ofInt (-4) := by decide +kernel
theorem bpb_m3 : (Int8.ofInt (-3)).toInt32 = Int32.ofInt (-3) := by decide +kernel
theorem bpb_m2 : (Int8.ofInt (-2)).toInt32 = Int32.ofInt (-2) := by decide +kernel
theorem bpb_6 : (Int8.ofInt 6).toInt32 = Int32.ofInt 6 := by decide +kernel
theorem bpb_7 : (Int8.ofInt 7).toInt32 = Int32.ofInt 7 := by decide +kernel
theorem bpb_8 : (Int8.ofInt 8).toInt32 = Int32.ofInt 8 := by decide +kernel
theorem bpb_9 : (Int8.ofInt 9).toInt32 = Int32.ofInt 9 := by decide +kernel
theorem bpb_10 : (Int8.ofInt 10).toInt32 = Int32.ofInt 10 := by decide +kernel
theorem bpb_11 : (Int8.ofInt 11).toInt32 = Int32.ofInt 11 := by decide +kernel
theorem bpb_12 : (Int8.ofInt 12).toInt32 = Int32.ofInt 12 := by decide +kernel
theorem bpb_15 : (Int8.ofInt 15).toInt32 = Int32.ofInt 15 := by decide +kernel
theorem bpb_16 : (Int8.ofInt 16).toInt32 = Int32.ofInt 16 := by decide +kernel
theorem bpb_23 : (Int8.ofInt 23).toInt32 = Int32.ofInt 23 := by decide +kernel
theorem bpb_24 : (Int8.ofInt 24).toInt32 = Int32.ofInt 24 := by decide +kernel
theorem bpb_25 : (Int8.ofInt 25).toInt32 = Int32.ofInt 25 := by decide +kernel
theorem bpb_26 : (Int8.ofInt 26).toInt32 = Int32.ofInt 26 := by decide +kernel
theorem bpb_27 : (Int8.ofInt 27).toInt32 = Int32.ofInt 27 := by decide +kernel
theorem bpb_28 : (Int8.ofInt 28).toInt32 = Int32.ofInt 28 := by decide +kernel
theorem bpb_36 : (Int8.ofInt 36).toInt32 = Int32.ofInt 36 := by decide +kernel
theorem bpb_44 : (Int8.ofInt 44).toInt32 = Int32.ofInt 44 := by decide +kernel
theorem bpb_46 : (Int8.ofInt 46).toInt32 = Int32.ofInt 46 := by decide +kernel
theorem bpb_48 : (Int8.ofInt 48).toInt32 = Int32.ofInt 48 := by decide +kernel
theorem bpb_49 : (Int8.ofInt 49).toInt32 = Int32.ofInt 49 := by decide +kernel
theorem bpb_56 : (Int8.ofInt 56).toInt32 = Int32.ofInt 56 := by decide +kernel
theorem bpb_57 : (Int8.ofInt 57).toInt32 = Int32.ofInt 57 := by decide +kernel
theorem bpb_59 : (Int8.ofInt 59).toInt32 = Int32.ofInt 59 := by decide +kernel
theorem bpb_60 : (Int8.ofInt 60).toInt32 = Int32.ofInt 60 := by decide +kernel
theorem bpb_75 : (Int8.ofInt 75).toInt32 = Int32.ofInt 75 := by decide +kernel
theorem bpb_91 : (Int8.ofInt 91).toInt32 = Int32.ofInt 91 := by decide +kernel
theorem bpb_98 : (Int8.ofInt 98).toInt32 = Int32.ofInt 98 := by decide +kernel
theorem bpb_100 : (Int8.ofInt 100).toInt32 = Int32.ofInt 100 := by decide +kernel
theorem bpb_112 : (Int8.ofInt 112).toInt32 = Int32.ofInt 112 := by decide +kernel
theorem bpb_115 : (Int8.ofInt 115).toInt32 = Int32.ofInt 115 := by decide +kernel
theorem bpb_120 : (Int8.ofInt 120).toInt32 = Int32.ofInt 120 := by decide +kernel
theorem bpb_127 : (Int8.ofInt 127).toInt32 = Int32.ofInt 127 := by decide +kernel
theorem bps_192 : (Int16.ofInt 192).toInt32 = Int32.ofInt 192 := by decide +kernel
theorem bps_511 : (Int16.ofInt 511).toInt32 = Int32.ofInt 511 := by decide +kernel
theorem bps_512 : (Int16.ofInt 512).toInt32 = Int32.ofInt 512 := by decide +kernel
theorem sw_0_2 {a : Int} (ra : rg a) : a = 0 ∨ a = 1 ∨ a = 2 ∨ ¬ (0 ≤ a ∧ a ≤ 2) := by omega
theorem sw_0_3 {a : Int} (ra : rg a) : a = 0 ∨ a = 1 ∨ a = 2 ∨ a = 3 ∨ ¬ (0 ≤ a ∧ a ≤ 3) := by omega
theorem sw_0_6 {a : Int} (ra : rg a) : a = 0 ∨ a = 1 ∨ a = 2 ∨ a = 3 ∨ a = 4 ∨ a = 5 ∨ a = 6 ∨ ¬ (0 ≤ a ∧ a ≤ 6) := by omega
theorem sw_0_7 {a : Int} (ra : rg a) : a = 0 ∨ a = 1 ∨ a = 2 ∨ a = 3 ∨ a = 4 ∨ a = 5 ∨ a = 6 ∨ a = 7 ∨ ¬ (0 ≤ a ∧ a ≤ 7) := by omega
theorem sw_0_33 {a : Int} (ra : rg a) : a = 0 ∨ a = 1 ∨ a = 2 ∨ a = 3 ∨ a = 4 ∨ a = 5 ∨ a = 6 ∨ a = 7 ∨ a = 8 ∨ a = 9 ∨ a = 10 ∨ a = 11 ∨ a = 12 ∨ a = 13 ∨ a = 14 ∨ a = 15 ∨ a = 16 ∨ a = 17 ∨ a = 18 ∨ a = 19 ∨ a = 20 ∨ a = 21 ∨ a = 22 ∨ a = 23 ∨ a = 24 ∨ a = 25 ∨ a = 26 ∨ a = 27 ∨ a = 28 ∨ a = 29 ∨ a = 30 ∨ a = 31 ∨ a = 32 ∨ a = 33 ∨ ¬ (0 ≤ a ∧ a ≤ 33) := by omega
theorem lk_1_2 {a : Int} (ra : rg a) : a = 1 ∨ a = 2 ∨ (¬ a = 1 ∧ ¬ a = 2) := by omega
theorem lo_1_2 {a o0 o1 d : Int} (h : (¬ a = 1 ∧ ¬ a = 2)) : Op.lookupswitch.offset [(1, o0), (2, o1)] d a = d := by
  simp only [Op.lookupswitch.offset]; repeat (rw [if_neg (by omega)])
theorem lk_98_112_115 {a : Int} (ra : rg a) : a = 98 ∨ a = 112 ∨ a = 115 ∨ (¬ a = 98 ∧ ¬ a = 112 ∧ ¬ a = 115) := by omega
theorem lo_98_112_115 {a o0 o1 o2 d : Int} (h : (¬ a = 98 ∧ ¬ a = 112 ∧ ¬ a = 115)) : Op.lookupswitch.offset [(98, o0), (112, o1), (115, o2)] d a = d := by
  simp only [Op.lookupswitch.offset]; repeat (rw [if_neg (by omega)])
theorem lk_98_99_109_110_115 {a : Int} (ra : rg a) : a = 98 ∨ a = 99 ∨ a = 109 ∨ a = 110 ∨ a = 115 ∨ (¬ a = 98 ∧ ¬ a = 99 ∧ ¬ a = 109 ∧ ¬ a = 110 ∧ ¬ a = 115) := by omega
theorem lo_98_99_109_110_115 {a o0 o1 o2 o3 o4 d : Int} (h : (¬ a = 98 ∧ ¬ a = 99 ∧ ¬ a = 109 ∧ ¬ a = 110 ∧ ¬ a = 115)) : Op.lookupswitch.offset [(98, o0), (99, o1), (109, o2), (110, o3), (115, o4)] d a = d := by
  simp only [Op.lookupswitch.offset]; repeat (rw [if_neg (by omega)])
theorem lk_98_109_110_115 {a : Int} (ra : rg a) : a = 98 ∨ a = 109 ∨ a = 110 ∨ a = 115 ∨ (¬ a = 98 ∧ ¬ a = 109 ∧ ¬ a = 110 ∧ ¬ a = 115) := by omega
theorem lo_98_109_110_115 {a o0 o1 o2 o3 d : Int} (h : (¬ a = 98 ∧ ¬ a = 109 ∧ ¬ a = 110 ∧ ¬ a = 115)) : Op.lookupswitch.offset [(98, o0), (109, o1), (110, o2), (115, o3)] d a = d := by
  simp only [Op.lookupswitch.offset]; repeat (rw [if_neg (by omega)])
theorem lk_0_1 {a : Int} (ra : rg a) : a = 0 ∨ a = 1 ∨ (¬ a = 0 ∧ ¬ a = 1) := by omega
theorem lo_0_1 {a o0 o1 d : Int} (h : (¬ a = 0 ∧ ¬ a = 1)) : Op.lookupswitch.offset [(0, o0), (1, o1)] d a = d := by
  simp only [Op.lookupswitch.offset]; repeat (rw [if_neg (by omega)])
theorem lk_98_99_110_115 {a : Int} (ra : rg a) : a = 98 ∨ a = 99 ∨ a = 110 ∨ a = 115 ∨ (¬ a = 98 ∧ ¬ a = 99 ∧ ¬ a = 110 ∧ ¬ a = 115) := by omega
theorem lo_98_99_110_115 {a o0 o1 o2 o3 d : Int} (h : (¬ a = 98 ∧ ¬ a = 99 ∧ ¬ a = 110 ∧ ¬ a = 115)) : Op.lookupswitch.offset [(98, o0), (99, o1), (110, o2), (115, o3)] d a = d := by
  simp only [Op.lookupswitch.offset]; repeat (rw [if_neg (by omega)])
theorem kt_o {t : Nat} (ht : t < 6) : K_BT[80 + 2 * t]? = some (.inl (5, [none, none, some (some (81 + 2 * t))])) := by
  match t, ht with
  | 0, _ => rfl
  | 1, _ => rfl
  | 2, _ => rfl
  | 3, _ => rfl
  | 4, _ => rfl
  | 5, _ => rfl
theorem kt_a {t : Nat} (ht : t < 6) : K_BT[81 + 2 * t]? = some (.inr (.inl (.long, 60))) := by
  match t, ht with
  | 0, _ => rfl
  | 1, _ => rfl
  | 2, _ => rfl
  | 3, _ => rfl
  | 4, _ => rfl
  | 5, _ => rfl
theorem kt_r {t : Nat} (ht : t < 6) : ([some 80, some 82, some 84, some 86, some 88, some 90] : List (Option Nat)).getD t none = some (80 + 2 * t) := by
  match t, ht with
  | 0, _ => rfl
  | 1, _ => rfl
  | 2, _ => rfl
  | 3, _ => rfl
  | 4, _ => rfl
  | 5, _ => rfl
theorem sub_tape {t : Nat} (ht : t < 6) : sbK K_BT K_Tape [80 + 2 * t, 81 + 2 * t] := by
  match t, ht with
  | 0, _ => exact ⟨rfl, rfl⟩
  | 1, _ => exact ⟨rfl, rfl⟩
  | 2, _ => exact ⟨rfl, rfl⟩
  | 3, _ => exact ⟨rfl, rfl⟩
  | 4, _ => exact ⟨rfl, rfl⟩
  | 5, _ => exact ⟨rfl, rfl⟩
theorem sb_0_0_0_0 : sbK K_0 K_0 [] := ⟨rfl, rfl⟩
theorem sb_RTr_0_0_1 : sbK K_RTr K_0 [] := ⟨rfl, rfl⟩
theorem sb_HR2_HR_0_2 (N : Nat) : sbK (K_HR2 N) (K_HR N) [0, 1, 2, 3] := ⟨rfl, rfl⟩
theorem sb_Setup2_HR2_4_3 : sbK K_Setup2 (K_HR2 5) [4, 5, 6, 7, 20, 21, 22, 23] := ⟨rfl, rfl⟩
theorem sb_Setup2_HR2_8_4 : sbK K_Setup2 (K_HR2 8) [8, 9, 10, 11, 24, 25, 26, 27] := ⟨rfl, rfl⟩
theorem sb_Setup2_HR2_12_5 : sbK K_Setup2 (K_HR2 8) [12, 13, 14, 15, 28, 29, 30, 31] := ⟨rfl, rfl⟩
theorem sb_Setup_0_0_6 : sbK K_Setup K_0 [] := ⟨rfl, rfl⟩
theorem sb_TouchS_0_0_7 : sbK K_TouchS K_0 [] := ⟨rfl, rfl⟩
theorem sb_TouchS_Setup_7_8 : sbK K_TouchS K_Setup [7, 8, 9, 10, 11, 12, 13, 14, 15, 16, 17, 18, 19, 20, 21, 22] := ⟨rfl, rfl⟩
theorem sb_Touch_0_0_9 : sbK K_Touch K_0 [] := ⟨rfl, rfl⟩
theorem sb_TouchS_Touch_0_10 : sbK K_TouchS K_Touch [0, 1, 2, 3, 4, 5, 6] := ⟨rfl, rfl⟩
theorem sb_Touch_RTr_5_11 : sbK K_Touch K_RTr [5, 6, 1] := ⟨rfl, rfl⟩
theorem sb_Few_Touch_1_12 : sbK K_Few K_Touch [1, 2, 3, 4, 5, 6, 7] := ⟨rfl, rfl⟩
theorem sb_Few_RTr_8_13 : sbK K_Few K_RTr [8, 9, 2] := ⟨rfl, rfl⟩
theorem sb_FewS_TouchS_1_14 : sbK K_FewS K_TouchS [1, 2, 3, 4, 5, 6, 7, 11, 12, 13, 14, 15, 16, 17, 18, 19, 20, 21, 22, 23, 24, 25, 26] := ⟨rfl, rfl⟩
theorem sb_FewS_RTr_8_15 : sbK K_FewS K_RTr [8, 9, 2] := ⟨rfl, rfl⟩
theorem sb_FewS_Few_0_16 : sbK K_FewS K_Few [0, 1, 2, 3, 4, 5, 6, 7, 8, 9, 10] := ⟨rfl, rfl⟩
theorem sb_Text_0_0_17 : sbK K_Text K_0 [] := ⟨rfl, rfl⟩
theorem sb_TextS_0_0_18 : sbK K_TextS K_0 [] := ⟨rfl, rfl⟩
theorem sb_TextS_Setup_5_19 : sbK K_TextS K_Setup [5, 6, 7, 8, 9, 10, 11, 12, 13, 14, 15, 16, 17, 18, 19, 20] := ⟨rfl, rfl⟩
theorem sb_BT_Setup_1_20 : sbK K_BT K_Setup [1, 2, 3, 4, 5, 6, 7, 8, 9, 10, 11, 12, 13, 14, 15, 16] := ⟨rfl, rfl⟩
theorem sb_BT_0_0_21 : sbK K_BT K_0 [] := ⟨rfl, rfl⟩
theorem sb_BT_Text_74_22 : sbK K_BT K_Text [74, 75, 76, 77, 78] := ⟨rfl, rfl⟩
theorem sb_BT_TextS_74_23 : sbK K_BT K_TextS [74, 75, 76, 77, 78, 1, 2, 3, 4, 5, 6, 7, 8, 9, 10, 11, 12, 13, 14, 15, 16] := ⟨rfl, rfl⟩
theorem sb_BT_TouchS_49_24 : sbK K_BT K_TouchS [49, 50, 51, 52, 53, 54, 55, 1, 2, 3, 4, 5, 6, 7, 8, 9, 10, 11, 12, 13, 14, 15, 16] := ⟨rfl, rfl⟩
theorem sb_BT_Touch_49_25 : sbK K_BT K_Touch [49, 50, 51, 52, 53, 54, 55] := ⟨rfl, rfl⟩
theorem sb_BT_FewS_63_26 : sbK K_BT K_FewS [63, 64, 65, 66, 67, 68, 69, 70, 71, 72, 73, 1, 2, 3, 4, 5, 6, 7, 8, 9, 10, 11, 12, 13, 14, 15, 16] := ⟨rfl, rfl⟩
theorem sb_BT_HR_5_27 : sbK K_BT (K_HR 5) [5, 6, 7, 8] := ⟨rfl, rfl⟩
theorem sb_BT_TouchS_56_28 : sbK K_BT K_TouchS [56, 57, 58, 59, 60, 61, 62, 33, 34, 35, 36, 37, 38, 39, 40, 41, 42, 43, 44, 45, 46, 47, 48] := ⟨rfl, rfl⟩
theorem sb_BT_Setup2_33_29 : sbK K_BT K_Setup2 [33, 34, 35, 36, 37, 38, 39, 40, 41, 42, 43, 44, 45, 46, 47, 48, 1, 2, 3, 4, 5, 6, 7, 8, 9, 10, 11, 12, 13, 14, 15, 16] := ⟨rfl, rfl⟩
theorem sb_BT_HR_9_30 : sbK K_BT (K_HR 8) [9, 10, 11, 12] := ⟨rfl, rfl⟩
theorem sb_BT_Setup_33_31 : sbK K_BT K_Setup [33, 34, 35, 36, 37, 38, 39, 40, 41, 42, 43, 44, 45, 46, 47, 48] := ⟨rfl, rfl⟩
theorem sb_BT_Touch_56_32 : sbK K_BT K_Touch [56, 57, 58, 59, 60, 61, 62] := ⟨rfl, rfl⟩
theorem sb_BT_HR_13_33 : sbK K_BT (K_HR 8) [13, 14, 15, 16] := ⟨rfl, rfl⟩
theorem sb_BT_Setup2_17_34 : sbK K_BT K_Setup2 [17, 18, 19, 20, 21, 22, 23, 24, 25, 26, 27, 28, 29, 30, 31, 32, 1, 2, 3, 4, 5, 6, 7, 8, 9, 10, 11, 12, 13, 14, 15, 16] := ⟨rfl, rfl⟩
theorem sb_BT_Setup2_1_35 : sbK K_BT K_Setup2 [1, 2, 3, 4, 5, 6, 7, 8, 9, 10, 11, 12, 13, 14, 15, 16, 17, 18, 19, 20, 21, 22, 23, 24, 25, 26, 27, 28, 29, 30, 31, 32] := ⟨rfl, rfl⟩
theorem sb_M_0_0_36 : sbK K_M K_0 [] := ⟨rfl, rfl⟩
theorem hd_X2_bellIn : yX2_bellIn.cls ≠ "java/lang/invoke/MethodHandle" ∧ yX2_bellIn.cls ≠ "java/lang/invoke/VarHandle" ∧ (parseMethodDescriptor yX2_bellIn.desc).map (fun d => d.parameters.length) = some 2 := by decide +kernel
theorem hd_X2_placeOf : yX2_placeOf.cls ≠ "java/lang/invoke/MethodHandle" ∧ yX2_placeOf.cls ≠ "java/lang/invoke/VarHandle" ∧ (parseMethodDescriptor yX2_placeOf.desc).map (fun d => d.parameters.length) = some 2 := by decide +kernel
theorem hd_X2_isKept : yX2_isKept.cls ≠ "java/lang/invoke/MethodHandle" ∧ yX2_isKept.cls ≠ "java/lang/invoke/VarHandle" ∧ (parseMethodDescriptor yX2_isKept.desc).map (fun d => d.parameters.length) = some 2 := by decide +kernel
theorem hd_X2_pairs : yX2_pairs.cls ≠ "java/lang/invoke/MethodHandle" ∧ yX2_pairs.cls ≠ "java/lang/invoke/VarHandle" ∧ (parseMethodDescriptor yX2_pairs.desc).map (fun d => d.parameters.length) = some 2 := by decide +kernel
theorem hd_X3_start : yX3_start.cls ≠ "java/lang/invoke/MethodHandle" ∧ yX3_start.cls ≠ "java/lang/invoke/VarHandle" ∧ (parseMethodDescriptor yX3_start.desc).map (fun d => d.parameters.length) = some 1 := by decide +kernel
theorem hd_X1_append : yX1_append.cls = RX1 ∧ yX1_append.cls ≠ "java/lang/invoke/MethodHandle" ∧ yX1_append.cls ≠ "java/lang/invoke/VarHandle" ∧ (parseMethodDescriptor yX1_append.desc).map (fun d => d.parameters.length) = some 3 := by decide +kernel
theorem hd_X1_copyFrom : yX1_copyFrom.cls = RX1 ∧ yX1_copyFrom.cls ≠ "java/lang/invoke/MethodHandle" ∧ yX1_copyFrom.cls ≠ "java/lang/invoke/VarHandle" ∧ (parseMethodDescriptor yX1_copyFrom.desc).map (fun d => d.parameters.length) = some 1 := by decide +kernel
theorem hd_X2_rounds : yX2_rounds.cls ≠ "java/lang/invoke/MethodHandle" ∧ yX2_rounds.cls ≠ "java/lang/invoke/VarHandle" ∧ (parseMethodDescriptor yX2_rounds.desc).map (fun d => d.parameters.length) = some 1 := by decide +kernel
theorem hd_X4_holdsPattern : yX4_holdsPattern.cls = RX4 ∧ yX4_holdsPattern.cls ≠ "java/lang/invoke/MethodHandle" ∧ yX4_holdsPattern.cls ≠ "java/lang/invoke/VarHandle" ∧ (parseMethodDescriptor yX4_holdsPattern.desc).map (fun d => d.parameters.length) = some 1 := by decide +kernel
theorem hd_X2_isRightAhead : yX2_isRightAhead.cls ≠ "java/lang/invoke/MethodHandle" ∧ yX2_isRightAhead.cls ≠ "java/lang/invoke/VarHandle" ∧ (parseMethodDescriptor yX2_isRightAhead.desc).map (fun d => d.parameters.length) = some 3 := by decide +kernel
theorem hd_X4_calledChange : yX4_calledChange.cls = RX4 ∧ yX4_calledChange.cls ≠ "java/lang/invoke/MethodHandle" ∧ yX4_calledChange.cls ≠ "java/lang/invoke/VarHandle" ∧ (parseMethodDescriptor yX4_calledChange.desc).map (fun d => d.parameters.length) = some 1 := by decide +kernel
theorem hd_X2_swapped : yX2_swapped.cls ≠ "java/lang/invoke/MethodHandle" ∧ yX2_swapped.cls ≠ "java/lang/invoke/VarHandle" ∧ (parseMethodDescriptor yX2_swapped.desc).map (fun d => d.parameters.length) = some 2 := by decide +kernel
theorem hd_X7_begin : yX7_begin.cls = RX7 ∧ yX7_begin.cls ≠ "java/lang/invoke/MethodHandle" ∧ yX7_begin.cls ≠ "java/lang/invoke/VarHandle" ∧ (parseMethodDescriptor yX7_begin.desc).map (fun d => d.parameters.length) = some 1 := by decide +kernel
theorem hd_X7_step : yX7_step.cls = RX7 ∧ yX7_step.cls ≠ "java/lang/invoke/MethodHandle" ∧ yX7_step.cls ≠ "java/lang/invoke/VarHandle" ∧ (parseMethodDescriptor yX7_step.desc).map (fun d => d.parameters.length) = some 2 := by decide +kernel
theorem hd_X3_enter : yX3_enter.cls = RX3 ∧ yX3_enter.cls ≠ "java/lang/invoke/MethodHandle" ∧ yX3_enter.cls ≠ "java/lang/invoke/VarHandle" ∧ (parseMethodDescriptor yX3_enter.desc).map (fun d => d.parameters.length) = some 2 := by decide +kernel
theorem hd_X3_leave : yX3_leave.cls = RX3 ∧ yX3_leave.cls ≠ "java/lang/invoke/MethodHandle" ∧ yX3_leave.cls ≠ "java/lang/invoke/VarHandle" ∧ (parseMethodDescriptor yX3_leave.desc).map (fun d => d.parameters.length) = some 2 := by decide +kernel
theorem hd_X7_compare : yX7_compare.cls = RX7 ∧ yX7_compare.cls ≠ "java/lang/invoke/MethodHandle" ∧ yX7_compare.cls ≠ "java/lang/invoke/VarHandle" ∧ (parseMethodDescriptor yX7_compare.desc).map (fun d => d.parameters.length) = some 0 := by decide +kernel
theorem hd_X7_falseRow : yX7_falseRow.cls = RX7 ∧ yX7_falseRow.cls ≠ "java/lang/invoke/MethodHandle" ∧ yX7_falseRow.cls ≠ "java/lang/invoke/VarHandle" ∧ (parseMethodDescriptor yX7_falseRow.desc).map (fun d => d.parameters.length) = some 0 := by decide +kernel
theorem hd_X0_ringTillAgain : yX0_ringTillAgain.cls = RX0 ∧ yX0_ringTillAgain.cls ≠ "java/lang/invoke/MethodHandle" ∧ yX0_ringTillAgain.cls ≠ "java/lang/invoke/VarHandle" ∧ (parseMethodDescriptor yX0_ringTillAgain.desc).map (fun d => d.parameters.length) = some 1 := by decide +kernel
theorem hd_X0_isEnd : yX0_isEnd.cls = RX0 ∧ yX0_isEnd.cls ≠ "java/lang/invoke/MethodHandle" ∧ yX0_isEnd.cls ≠ "java/lang/invoke/VarHandle" ∧ (parseMethodDescriptor yX0_isEnd.desc).map (fun d => d.parameters.length) = some 1 := by decide +kernel
theorem hd_X0_search : yX0_search.cls ≠ "java/lang/invoke/MethodHandle" ∧ yX0_search.cls ≠ "java/lang/invoke/VarHandle" ∧ (parseMethodDescriptor yX0_search.desc).map (fun d => d.parameters.length) = some 4 := by decide +kernel
theorem hd_X0_backTo : yX0_backTo.cls = RX0 ∧ yX0_backTo.cls ≠ "java/lang/invoke/MethodHandle" ∧ yX0_backTo.cls ≠ "java/lang/invoke/VarHandle" ∧ (parseMethodDescriptor yX0_backTo.desc).map (fun d => d.parameters.length) = some 1 := by decide +kernel
theorem hd_X5_next : yX5_next.cls = RX5 ∧ yX5_next.cls ≠ "java/lang/invoke/MethodHandle" ∧ yX5_next.cls ≠ "java/lang/invoke/VarHandle" ∧ (parseMethodDescriptor yX5_next.desc).map (fun d => d.parameters.length) = some 0 := by decide +kernel
theorem hd_X5_keep : yX5_keep.cls = RX5 ∧ yX5_keep.cls ≠ "java/lang/invoke/MethodHandle" ∧ yX5_keep.cls ≠ "java/lang/invoke/VarHandle" ∧ (parseMethodDescriptor yX5_keep.desc).map (fun d => d.parameters.length) = some 1 := by decide +kernel
theorem hd_X5_isPlaceSign : yX5_isPlaceSign.cls ≠ "java/lang/invoke/MethodHandle" ∧ yX5_isPlaceSign.cls ≠ "java/lang/invoke/VarHandle" ∧ (parseMethodDescriptor yX5_isPlaceSign.desc).map (fun d => d.parameters.length) = some 1 := by decide +kernel
theorem hd_X5_parseWord : yX5_parseWord.cls = RX5 ∧ yX5_parseWord.cls ≠ "java/lang/invoke/MethodHandle" ∧ yX5_parseWord.cls ≠ "java/lang/invoke/VarHandle" ∧ (parseMethodDescriptor yX5_parseWord.desc).map (fun d => d.parameters.length) = some 0 := by decide +kernel
theorem hd_X5_callOf : yX5_callOf.cls ≠ "java/lang/invoke/MethodHandle" ∧ yX5_callOf.cls ≠ "java/lang/invoke/VarHandle" ∧ (parseMethodDescriptor yX5_callOf.desc).map (fun d => d.parameters.length) = some 1 := by decide +kernel
theorem hd_X5_parseCalls : yX5_parseCalls.cls = RX5 ∧ yX5_parseCalls.cls ≠ "java/lang/invoke/MethodHandle" ∧ yX5_parseCalls.cls ≠ "java/lang/invoke/VarHandle" ∧ (parseMethodDescriptor yX5_parseCalls.desc).map (fun d => d.parameters.length) = some 0 := by decide +kernel
theorem hd_X5_parseWords : yX5_parseWords.cls = RX5 ∧ yX5_parseWords.cls ≠ "java/lang/invoke/MethodHandle" ∧ yX5_parseWords.cls ≠ "java/lang/invoke/VarHandle" ∧ (parseMethodDescriptor yX5_parseWords.desc).map (fun d => d.parameters.length) = some 0 := by decide +kernel
theorem hd_X5_parseDigit : yX5_parseDigit.cls = RX5 ∧ yX5_parseDigit.cls ≠ "java/lang/invoke/MethodHandle" ∧ yX5_parseDigit.cls ≠ "java/lang/invoke/VarHandle" ∧ (parseMethodDescriptor yX5_parseDigit.desc).map (fun d => d.parameters.length) = some 0 := by decide +kernel
theorem hd_X5_parseClause : yX5_parseClause.cls = RX5 ∧ yX5_parseClause.cls ≠ "java/lang/invoke/MethodHandle" ∧ yX5_parseClause.cls ≠ "java/lang/invoke/VarHandle" ∧ (parseMethodDescriptor yX5_parseClause.desc).map (fun d => d.parameters.length) = some 0 := by decide +kernel
theorem hd_X4_begin : yX4_begin.cls = RX4 ∧ yX4_begin.cls ≠ "java/lang/invoke/MethodHandle" ∧ yX4_begin.cls ≠ "java/lang/invoke/VarHandle" ∧ (parseMethodDescriptor yX4_begin.desc).map (fun d => d.parameters.length) = some 1 := by decide +kernel
theorem hd_X2_isGood : yX2_isGood.cls ≠ "java/lang/invoke/MethodHandle" ∧ yX2_isGood.cls ≠ "java/lang/invoke/VarHandle" ∧ (parseMethodDescriptor yX2_isGood.desc).map (fun d => d.parameters.length) = some 2 := by decide +kernel
theorem hd_X4_setCalledChange : yX4_setCalledChange.cls = RX4 ∧ yX4_setCalledChange.cls ≠ "java/lang/invoke/MethodHandle" ∧ yX4_setCalledChange.cls ≠ "java/lang/invoke/VarHandle" ∧ (parseMethodDescriptor yX4_setCalledChange.desc).map (fun d => d.parameters.length) = some 2 := by decide +kernel
theorem hd_X5_setCall : yX5_setCall.cls ≠ "java/lang/invoke/MethodHandle" ∧ yX5_setCall.cls ≠ "java/lang/invoke/VarHandle" ∧ (parseMethodDescriptor yX5_setCall.desc).map (fun d => d.parameters.length) = some 3 := by decide +kernel
theorem hd_X5_setMethod : yX5_setMethod.cls = RX5 ∧ yX5_setMethod.cls ≠ "java/lang/invoke/MethodHandle" ∧ yX5_setMethod.cls ≠ "java/lang/invoke/VarHandle" ∧ (parseMethodDescriptor yX5_setMethod.desc).map (fun d => d.parameters.length) = some 3 := by decide +kernel
theorem hd_X5_beginBells : yX5_beginBells.cls ≠ "java/lang/invoke/MethodHandle" ∧ yX5_beginBells.cls ≠ "java/lang/invoke/VarHandle" ∧ (parseMethodDescriptor yX5_beginBells.desc).map (fun d => d.parameters.length) = some 2 := by decide +kernel
theorem hd_X5_setLeads : yX5_setLeads.cls = RX5 ∧ yX5_setLeads.cls ≠ "java/lang/invoke/MethodHandle" ∧ yX5_setLeads.cls ≠ "java/lang/invoke/VarHandle" ∧ (parseMethodDescriptor yX5_setLeads.desc).map (fun d => d.parameters.length) = some 3 := by decide +kernel
theorem hd_X5_performClause : yX5_performClause.cls = RX5 ∧ yX5_performClause.cls ≠ "java/lang/invoke/MethodHandle" ∧ yX5_performClause.cls ≠ "java/lang/invoke/VarHandle" ∧ (parseMethodDescriptor yX5_performClause.desc).map (fun d => d.parameters.length) = some 4 := by decide +kernel
theorem hd_X8_isPlaces : yX8_isPlaces.cls = RX8 ∧ yX8_isPlaces.cls ≠ "java/lang/invoke/MethodHandle" ∧ yX8_isPlaces.cls ≠ "java/lang/invoke/VarHandle" ∧ (parseMethodDescriptor yX8_isPlaces.desc).map (fun d => d.parameters.length) = some 1 := by decide +kernel
theorem hd_X8_isLead : yX8_isLead.cls ≠ "java/lang/invoke/MethodHandle" ∧ yX8_isLead.cls ≠ "java/lang/invoke/VarHandle" ∧ (parseMethodDescriptor yX8_isLead.desc).map (fun d => d.parameters.length) = some 1 := by decide +kernel
theorem hd_X5_append : yX5_append.cls = RX5 ∧ yX5_append.cls ≠ "java/lang/invoke/MethodHandle" ∧ yX5_append.cls ≠ "java/lang/invoke/VarHandle" ∧ (parseMethodDescriptor yX5_append.desc).map (fun d => d.parameters.length) = some 1 := by decide +kernel
theorem hd_X5_parse : yX5_parse.cls = RX5 ∧ yX5_parse.cls ≠ "java/lang/invoke/MethodHandle" ∧ yX5_parse.cls ≠ "java/lang/invoke/VarHandle" ∧ (parseMethodDescriptor yX5_parse.desc).map (fun d => d.parameters.length) = some 0 := by decide +kernel
theorem hd_X5_perform : yX5_perform.cls = RX5 ∧ yX5_perform.cls ≠ "java/lang/invoke/MethodHandle" ∧ yX5_perform.cls ≠ "java/lang/invoke/VarHandle" ∧ (parseMethodDescriptor yX5_perform.desc).map (fun d => d.parameters.length) = some 1 := by decide +kernel
theorem hd_X8_orNotFound : yX8_orNotFound.cls ≠ "java/lang/invoke/MethodHandle" ∧ yX8_orNotFound.cls ≠ "java/lang/invoke/VarHandle" ∧ (parseMethodDescriptor yX8_orNotFound.desc).map (fun d => d.parameters.length) = some 1 := by decide +kernel
theorem hd_X7_ring : yX7_ring.cls = RX7 ∧ yX7_ring.cls ≠ "java/lang/invoke/MethodHandle" ∧ yX7_ring.cls ≠ "java/lang/invoke/VarHandle" ∧ (parseMethodDescriptor yX7_ring.desc).map (fun d => d.parameters.length) = some 1 := by decide +kernel
theorem hd_X8_rung : yX8_rung.cls = RX8 ∧ yX8_rung.cls ≠ "java/lang/invoke/MethodHandle" ∧ yX8_rung.cls ≠ "java/lang/invoke/VarHandle" ∧ (parseMethodDescriptor yX8_rung.desc).map (fun d => d.parameters.length) = some 0 := by decide +kernel
theorem hd_X7_roundRow : yX7_roundRow.cls = RX7 ∧ yX7_roundRow.cls ≠ "java/lang/invoke/MethodHandle" ∧ yX7_roundRow.cls ≠ "java/lang/invoke/VarHandle" ∧ (parseMethodDescriptor yX7_roundRow.desc).map (fun d => d.parameters.length) = some 0 := by decide +kernel
theorem hd_X7_isTrue : yX7_isTrue.cls = RX7 ∧ yX7_isTrue.cls ≠ "java/lang/invoke/MethodHandle" ∧ yX7_isTrue.cls ≠ "java/lang/invoke/VarHandle" ∧ (parseMethodDescriptor yX7_isTrue.desc).map (fun d => d.parameters.length) = some 0 := by decide +kernel
theorem hd_X7_course : yX7_course.cls = RX7 ∧ yX7_course.cls ≠ "java/lang/invoke/MethodHandle" ∧ yX7_course.cls ≠ "java/lang/invoke/VarHandle" ∧ (parseMethodDescriptor yX7_course.desc).map (fun d => d.parameters.length) = some 0 := by decide +kernel
theorem hd_X8_isRow : yX8_isRow.cls = RX8 ∧ yX8_isRow.cls ≠ "java/lang/invoke/MethodHandle" ∧ yX8_isRow.cls ≠ "java/lang/invoke/VarHandle" ∧ (parseMethodDescriptor yX8_isRow.desc).map (fun d => d.parameters.length) = some 1 := by decide +kernel
theorem hd_X8_isBell : yX8_isBell.cls = RX8 ∧ yX8_isBell.cls ≠ "java/lang/invoke/MethodHandle" ∧ yX8_isBell.cls ≠ "java/lang/invoke/VarHandle" ∧ (parseMethodDescriptor yX8_isBell.desc).map (fun d => d.parameters.length) = some 1 := by decide +kernel
theorem hd_X7_firstAs : yX7_firstAs.cls = RX7 ∧ yX7_firstAs.cls ≠ "java/lang/invoke/MethodHandle" ∧ yX7_firstAs.cls ≠ "java/lang/invoke/VarHandle" ∧ (parseMethodDescriptor yX7_firstAs.desc).map (fun d => d.parameters.length) = some 1 := by decide +kernel
theorem hd_X4_isMusic : yX4_isMusic.cls = RX4 ∧ yX4_isMusic.cls ≠ "java/lang/invoke/MethodHandle" ∧ yX4_isMusic.cls ≠ "java/lang/invoke/VarHandle" ∧ (parseMethodDescriptor yX4_isMusic.desc).map (fun d => d.parameters.length) = some 2 := by decide +kernel
theorem hd_X8_countMusic : yX8_countMusic.cls = RX8 ∧ yX8_countMusic.cls ≠ "java/lang/invoke/MethodHandle" ∧ yX8_countMusic.cls ≠ "java/lang/invoke/VarHandle" ∧ (parseMethodDescriptor yX8_countMusic.desc).map (fun d => d.parameters.length) = some 1 := by decide +kernel
theorem hd_X0_find : yX0_find.cls = RX0 ∧ yX0_find.cls ≠ "java/lang/invoke/MethodHandle" ∧ yX0_find.cls ≠ "java/lang/invoke/VarHandle" ∧ (parseMethodDescriptor yX0_find.desc).map (fun d => d.parameters.length) = some 2 := by decide +kernel
theorem hd_X4_copyFrom : yX4_copyFrom.cls = RX4 ∧ yX4_copyFrom.cls ≠ "java/lang/invoke/MethodHandle" ∧ yX4_copyFrom.cls ≠ "java/lang/invoke/VarHandle" ∧ (parseMethodDescriptor yX4_copyFrom.desc).map (fun d => d.parameters.length) = some 1 := by decide +kernel
theorem hd_X8_fitsLast : yX8_fitsLast.cls = RX8 ∧ yX8_fitsLast.cls ≠ "java/lang/invoke/MethodHandle" ∧ yX8_fitsLast.cls ≠ "java/lang/invoke/VarHandle" ∧ (parseMethodDescriptor yX8_fitsLast.desc).map (fun d => d.parameters.length) = some 1 := by decide +kernel
theorem hd_X8_isPart : yX8_isPart.cls ≠ "java/lang/invoke/MethodHandle" ∧ yX8_isPart.cls ≠ "java/lang/invoke/VarHandle" ∧ (parseMethodDescriptor yX8_isPart.desc).map (fun d => d.parameters.length) = some 1 := by decide +kernel
theorem hd_X8_lowestTerms : yX8_lowestTerms.cls ≠ "java/lang/invoke/MethodHandle" ∧ yX8_lowestTerms.cls ≠ "java/lang/invoke/VarHandle" ∧ (parseMethodDescriptor yX8_lowestTerms.desc).map (fun d => d.parameters.length) = some 3 := by decide +kernel
theorem hd_X4_happen : yX4_happen.cls = RX4 ∧ yX4_happen.cls ≠ "java/lang/invoke/MethodHandle" ∧ yX4_happen.cls ≠ "java/lang/invoke/VarHandle" ∧ (parseMethodDescriptor yX4_happen.desc).map (fun d => d.parameters.length) = some 0 := by decide +kernel
theorem hd_X8_isTape : yX8_isTape.cls ≠ "java/lang/invoke/MethodHandle" ∧ yX8_isTape.cls ≠ "java/lang/invoke/VarHandle" ∧ (parseMethodDescriptor yX8_isTape.desc).map (fun d => d.parameters.length) = some 1 := by decide +kernel
theorem hd_X6_has : yX6_has.cls = RX6 ∧ yX6_has.cls ≠ "java/lang/invoke/MethodHandle" ∧ yX6_has.cls ≠ "java/lang/invoke/VarHandle" ∧ (parseMethodDescriptor yX6_has.desc).map (fun d => d.parameters.length) = some 2 := by decide +kernel
theorem hd_X6_begin : yX6_begin.cls = RX6 ∧ yX6_begin.cls ≠ "java/lang/invoke/MethodHandle" ∧ yX6_begin.cls ≠ "java/lang/invoke/VarHandle" ∧ (parseMethodDescriptor yX6_begin.desc).map (fun d => d.parameters.length) = some 2 := by decide +kernel
theorem hd_X6_narrowed : yX6_narrowed.cls ≠ "java/lang/invoke/MethodHandle" ∧ yX6_narrowed.cls ≠ "java/lang/invoke/VarHandle" ∧ (parseMethodDescriptor yX6_narrowed.desc).map (fun d => d.parameters.length) = some 2 := by decide +kernel
theorem hd_X9_within : yX9_within.cls ≠ "java/lang/invoke/MethodHandle" ∧ yX9_within.cls ≠ "java/lang/invoke/VarHandle" ∧ (parseMethodDescriptor yX9_within.desc).map (fun d => d.parameters.length) = some 3 := by decide +kernel
theorem hd_X9_begins : yX9_begins.cls = RX9 ∧ yX9_begins.cls ≠ "java/lang/invoke/MethodHandle" ∧ yX9_begins.cls ≠ "java/lang/invoke/VarHandle" ∧ (parseMethodDescriptor yX9_begins.desc).map (fun d => d.parameters.length) = some 1 := by decide +kernel
theorem hd_X9_areKept : yX9_areKept.cls = RX9 ∧ yX9_areKept.cls ≠ "java/lang/invoke/MethodHandle" ∧ yX9_areKept.cls ≠ "java/lang/invoke/VarHandle" ∧ (parseMethodDescriptor yX9_areKept.desc).map (fun d => d.parameters.length) = some 1 := by decide +kernel
theorem hd_X9_isGood : yX9_isGood.cls = RX9 ∧ yX9_isGood.cls ≠ "java/lang/invoke/MethodHandle" ∧ yX9_isGood.cls ≠ "java/lang/invoke/VarHandle" ∧ (parseMethodDescriptor yX9_isGood.desc).map (fun d => d.parameters.length) = some 1 := by decide +kernel
theorem hd_X9_becomes : yX9_becomes.cls = RX9 ∧ yX9_becomes.cls ≠ "java/lang/invoke/MethodHandle" ∧ yX9_becomes.cls ≠ "java/lang/invoke/VarHandle" ∧ (parseMethodDescriptor yX9_becomes.desc).map (fun d => d.parameters.length) = some 2 := by decide +kernel
theorem hd_X9_sign : yX9_sign.cls = RX9 ∧ yX9_sign.cls ≠ "java/lang/invoke/MethodHandle" ∧ yX9_sign.cls ≠ "java/lang/invoke/VarHandle" ∧ (parseMethodDescriptor yX9_sign.desc).map (fun d => d.parameters.length) = some 0 := by decide +kernel
theorem hd_X9_adds : yX9_adds.cls = RX9 ∧ yX9_adds.cls ≠ "java/lang/invoke/MethodHandle" ∧ yX9_adds.cls ≠ "java/lang/invoke/VarHandle" ∧ (parseMethodDescriptor yX9_adds.desc).map (fun d => d.parameters.length) = some 1 := by decide +kernel
theorem hd_X9_wrong : yX9_wrong.cls = RX9 ∧ yX9_wrong.cls ≠ "java/lang/invoke/MethodHandle" ∧ yX9_wrong.cls ≠ "java/lang/invoke/VarHandle" ∧ (parseMethodDescriptor yX9_wrong.desc).map (fun d => d.parameters.length) = some 0 := by decide +kernel
theorem hd_X9_digits : yX9_digits.cls = RX9 ∧ yX9_digits.cls ≠ "java/lang/invoke/MethodHandle" ∧ yX9_digits.cls ≠ "java/lang/invoke/VarHandle" ∧ (parseMethodDescriptor yX9_digits.desc).map (fun d => d.parameters.length) = some 0 := by decide +kernel
theorem hd_X9_word : yX9_word.cls = RX9 ∧ yX9_word.cls ≠ "java/lang/invoke/MethodHandle" ∧ yX9_word.cls ≠ "java/lang/invoke/VarHandle" ∧ (parseMethodDescriptor yX9_word.desc).map (fun d => d.parameters.length) = some 0 := by decide +kernel
theorem hd_X9_words : yX9_words.cls = RX9 ∧ yX9_words.cls ≠ "java/lang/invoke/MethodHandle" ∧ yX9_words.cls ≠ "java/lang/invoke/VarHandle" ∧ (parseMethodDescriptor yX9_words.desc).map (fun d => d.parameters.length) = some 0 := by decide +kernel
theorem hd_X9_callOf : yX9_callOf.cls ≠ "java/lang/invoke/MethodHandle" ∧ yX9_callOf.cls ≠ "java/lang/invoke/VarHandle" ∧ (parseMethodDescriptor yX9_callOf.desc).map (fun d => d.parameters.length) = some 1 := by decide +kernel
theorem hd_X9_calls : yX9_calls.cls = RX9 ∧ yX9_calls.cls ≠ "java/lang/invoke/MethodHandle" ∧ yX9_calls.cls ≠ "java/lang/invoke/VarHandle" ∧ (parseMethodDescriptor yX9_calls.desc).map (fun d => d.parameters.length) = some 2 := by decide +kernel
theorem hd_X9_bells : yX9_bells.cls = RX9 ∧ yX9_bells.cls ≠ "java/lang/invoke/MethodHandle" ∧ yX9_bells.cls ≠ "java/lang/invoke/VarHandle" ∧ (parseMethodDescriptor yX9_bells.desc).map (fun d => d.parameters.length) = some 1 := by decide +kernel
theorem hd_X9_areGood : yX9_areGood.cls = RX9 ∧ yX9_areGood.cls ≠ "java/lang/invoke/MethodHandle" ∧ yX9_areGood.cls ≠ "java/lang/invoke/VarHandle" ∧ (parseMethodDescriptor yX9_areGood.desc).map (fun d => d.parameters.length) = some 1 := by decide +kernel
theorem hd_X9_reads : yX9_reads.cls = RX9 ∧ yX9_reads.cls ≠ "java/lang/invoke/MethodHandle" ∧ yX9_reads.cls ≠ "java/lang/invoke/VarHandle" ∧ (parseMethodDescriptor yX9_reads.desc).map (fun d => d.parameters.length) = some 0 := by decide +kernel
theorem hd_X9_does : yX9_does.cls = RX9 ∧ yX9_does.cls ≠ "java/lang/invoke/MethodHandle" ∧ yX9_does.cls ≠ "java/lang/invoke/VarHandle" ∧ (parseMethodDescriptor yX9_does.desc).map (fun d => d.parameters.length) = some 1 := by decide +kernel
theorem hd_X9_keys : yX9_keys.cls = RX9 ∧ yX9_keys.cls ≠ "java/lang/invoke/MethodHandle" ∧ yX9_keys.cls ≠ "java/lang/invoke/VarHandle" ∧ (parseMethodDescriptor yX9_keys.desc).map (fun d => d.parameters.length) = some 1 := by decide +kernel
theorem hd_X9_goes : yX9_goes.cls = RX9 ∧ yX9_goes.cls ≠ "java/lang/invoke/MethodHandle" ∧ yX9_goes.cls ≠ "java/lang/invoke/VarHandle" ∧ (parseMethodDescriptor yX9_goes.desc).map (fun d => d.parameters.length) = some 2 := by decide +kernel
theorem hd_X9_first : yX9_first.cls = RX9 ∧ yX9_first.cls ≠ "java/lang/invoke/MethodHandle" ∧ yX9_first.cls ≠ "java/lang/invoke/VarHandle" ∧ (parseMethodDescriptor yX9_first.desc).map (fun d => d.parameters.length) = some 1 := by decide +kernel
theorem hd_X9_wrongRow : yX9_wrongRow.cls = RX9 ∧ yX9_wrongRow.cls ≠ "java/lang/invoke/MethodHandle" ∧ yX9_wrongRow.cls ≠ "java/lang/invoke/VarHandle" ∧ (parseMethodDescriptor yX9_wrongRow.desc).map (fun d => d.parameters.length) = some 0 := by decide +kernel
theorem hd_X9_rings : yX9_rings.cls = RX9 ∧ yX9_rings.cls ≠ "java/lang/invoke/MethodHandle" ∧ yX9_rings.cls ≠ "java/lang/invoke/VarHandle" ∧ (parseMethodDescriptor yX9_rings.desc).map (fun d => d.parameters.length) = some 0 := by decide +kernel
theorem hd_X9_round : yX9_round.cls = RX9 ∧ yX9_round.cls ≠ "java/lang/invoke/MethodHandle" ∧ yX9_round.cls ≠ "java/lang/invoke/VarHandle" ∧ (parseMethodDescriptor yX9_round.desc).map (fun d => d.parameters.length) = some 0 := by decide +kernel
theorem hd_X9_isTrue : yX9_isTrue.cls = RX9 ∧ yX9_isTrue.cls ≠ "java/lang/invoke/MethodHandle" ∧ yX9_isTrue.cls ≠ "java/lang/invoke/VarHandle" ∧ (parseMethodDescriptor yX9_isTrue.desc).map (fun d => d.parameters.length) = some 0 := by decide +kernel
theorem hd_X9_course : yX9_course.cls = RX9 ∧ yX9_course.cls ≠ "java/lang/invoke/MethodHandle" ∧ yX9_course.cls ≠ "java/lang/invoke/VarHandle" ∧ (parseMethodDescriptor yX9_course.desc).map (fun d => d.parameters.length) = some 0 := by decide +kernel
theorem hd_X9_isPlace : yX9_isPlace.cls = RX9 ∧ yX9_isPlace.cls ≠ "java/lang/invoke/MethodHandle" ∧ yX9_isPlace.cls ≠ "java/lang/invoke/VarHandle" ∧ (parseMethodDescriptor yX9_isPlace.desc).map (fun d => d.parameters.length) = some 1 := by decide +kernel
theorem hd_X9_place : yX9_place.cls = RX9 ∧ yX9_place.cls ≠ "java/lang/invoke/MethodHandle" ∧ yX9_place.cls ≠ "java/lang/invoke/VarHandle" ∧ (parseMethodDescriptor yX9_place.desc).map (fun d => d.parameters.length) = some 2 := by decide +kernel
theorem hd_X9_isMusic : yX9_isMusic.cls = RX9 ∧ yX9_isMusic.cls ≠ "java/lang/invoke/MethodHandle" ∧ yX9_isMusic.cls ≠ "java/lang/invoke/VarHandle" ∧ (parseMethodDescriptor yX9_isMusic.desc).map (fun d => d.parameters.length) = some 2 := by decide +kernel
theorem hd_X9_musicOf : yX9_musicOf.cls = RX9 ∧ yX9_musicOf.cls ≠ "java/lang/invoke/MethodHandle" ∧ yX9_musicOf.cls ≠ "java/lang/invoke/VarHandle" ∧ (parseMethodDescriptor yX9_musicOf.desc).map (fun d => d.parameters.length) = some 1 := by decide +kernel
theorem hd_X9_isSeen : yX9_isSeen.cls = RX9 ∧ yX9_isSeen.cls ≠ "java/lang/invoke/MethodHandle" ∧ yX9_isSeen.cls ≠ "java/lang/invoke/VarHandle" ∧ (parseMethodDescriptor yX9_isSeen.desc).map (fun d => d.parameters.length) = some 0 := by decide +kernel
theorem hd_X9_lowest : yX9_lowest.cls ≠ "java/lang/invoke/MethodHandle" ∧ yX9_lowest.cls ≠ "java/lang/invoke/VarHandle" ∧ (parseMethodDescriptor yX9_lowest.desc).map (fun d => d.parameters.length) = some 3 := by decide +kernel
theorem hd_X9_isTape : yX9_isTape.cls ≠ "java/lang/invoke/MethodHandle" ∧ yX9_isTape.cls ≠ "java/lang/invoke/VarHandle" ∧ (parseMethodDescriptor yX9_isTape.desc).map (fun d => d.parameters.length) = some 1 := by decide +kernel
