/-! the class: what a kind is -/
set_option maxRecDepth 100000 in
set_option maxHeartbeats 600000 in
theorem k_warms_X3_2 {g : mh_G} {d : Nat} (hd : 2 ≤ d) {h : Nat → Int → Int} {v m : Int} (hm : 0 ≤ m ∧ m ≤ 9) (hv : 0 ≤ v ∧ v ≤ 100000) : mh_MP g d yX3_warms cX3_warms 3 (some .int) 96 [.ref 2, .int (Int32.ofInt (v)), .int (Int32.ofInt (m))] h (some (.int (Int32.ofInt (v)))) := by
  refine mh_M_of RX3 rfl (by decide +kernel) [some (.ref 2), some (.int (Int32.ofInt (v))), some (.int (Int32.ofInt (m)))] rfl (Nat.le_of_ble_eq_true rfl) (fun f F Z hn0 hR => ?_)
  have ht1 := mh_tdivb (k := 2) hv.1 (by decide)
  have ht2 := mh_tdivb (k := 3) hm.1 (by decide)
  refine mh_iload1 (pc := 0) F dX3_warms_0 ?_
  exact mh_ireturnp F Z dX3_warms_1 rfl rfl

set_option maxRecDepth 100000 in
set_option maxHeartbeats 600000 in
theorem k_warms_X3_3 {g : mh_G} {d : Nat} (hd : 2 ≤ d) {h : Nat → Int → Int} {v m : Int} (hm : 0 ≤ m ∧ m ≤ 9) (hv : 0 ≤ v ∧ v ≤ 100000) : mh_MP g d yX3_warms cX3_warms 3 (some .int) 96 [.ref 3, .int (Int32.ofInt (v)), .int (Int32.ofInt (m))] h (some (.int (Int32.ofInt (v)))) := by
  refine mh_M_of RX3 rfl (by decide +kernel) [some (.ref 3), some (.int (Int32.ofInt (v))), some (.int (Int32.ofInt (m)))] rfl (Nat.le_of_ble_eq_true rfl) (fun f F Z hn0 hR => ?_)
  have ht1 := mh_tdivb (k := 2) hv.1 (by decide)
  have ht2 := mh_tdivb (k := 3) hm.1 (by decide)
  refine mh_iload1 (pc := 0) F dX3_warms_0 ?_
  exact mh_ireturnp F Z dX3_warms_1 rfl rfl

set_option maxRecDepth 100000 in
set_option maxHeartbeats 600000 in
theorem k_warms_X2_3 {g : mh_G} {d : Nat} (hd : 3 ≤ d) {h : Nat → Int → Int} {v m : Int} (hm : 0 ≤ m ∧ m ≤ 9) (hv : 0 ≤ v ∧ v ≤ 100000) : mh_MP g d yX2_warms cX2_warms 3 (some .int) 96 [.ref 3, .int (Int32.ofInt (v)), .int (Int32.ofInt (m))] h (some (.int (Int32.ofInt (v + m.tdiv 3)))) := by
  refine mh_M_of RX2 rfl (by decide +kernel) [some (.ref 3), some (.int (Int32.ofInt (v))), some (.int (Int32.ofInt (m)))] rfl (Nat.le_of_ble_eq_true rfl) (fun f F Z hn0 hR => ?_)
  have ht1 := mh_tdivb (k := 2) hv.1 (by decide)
  have ht2 := mh_tdivb (k := 3) hm.1 (by decide)
  refine mh_aload0 (pc := 0) F dX2_warms_0 ?_
  refine mh_iload1 (pc := 1) F dX2_warms_1 ?_
  refine mh_iload2 (pc := 2) F dX2_warms_2 ?_
  refine mh_callSUp (pc := 3) (As := [.int (Int32.ofInt (v)), .int (Int32.ofInt (m))]) (st := []) F (by omega) (k_warms_X3_3 (by omega) (by omega) (by omega)) wz_RX2_7 dX2_warms_3 sh_3 (by decide) rfl rfl (Nat.le_of_ble_eq_true rfl) ⟨Nat.zero_le _, Nat.zero_le _⟩ ?_
  refine mh_iload2 (pc := 6) F dX2_warms_6 ?_
  refine mh_iconst (pc := 7) F dX2_warms_7 ?_
  refine mh_idiv (pc := 8) F dX2_warms_8 (by omega) (by omega) (by omega) ?_
  refine mh_iadd (pc := 9) F dX2_warms_9 ?_
  exact mh_ireturnp F Z dX2_warms_10 rfl rfl

set_option maxRecDepth 100000 in
set_option maxHeartbeats 600000 in
theorem k_warms_X3_4 {g : mh_G} {d : Nat} (hd : 2 ≤ d) {h : Nat → Int → Int} {v m : Int} (hm : 0 ≤ m ∧ m ≤ 9) (hv : 0 ≤ v ∧ v ≤ 100000) : mh_MP g d yX3_warms cX3_warms 3 (some .int) 96 [.ref 4, .int (Int32.ofInt (v)), .int (Int32.ofInt (m))] h (some (.int (Int32.ofInt (v)))) := by
  refine mh_M_of RX3 rfl (by decide +kernel) [some (.ref 4), some (.int (Int32.ofInt (v))), some (.int (Int32.ofInt (m)))] rfl (Nat.le_of_ble_eq_true rfl) (fun f F Z hn0 hR => ?_)
  have ht1 := mh_tdivb (k := 2) hv.1 (by decide)
  have ht2 := mh_tdivb (k := 3) hm.1 (by decide)
  refine mh_iload1 (pc := 0) F dX3_warms_0 ?_
  exact mh_ireturnp F Z dX3_warms_1 rfl rfl

set_option maxRecDepth 100000 in
set_option maxHeartbeats 600000 in
theorem k_warms_X4_4 {g : mh_G} {d : Nat} (hd : 3 ≤ d) {h : Nat → Int → Int} {v m : Int} (hm : 0 ≤ m ∧ m ≤ 9) (hv : 0 ≤ v ∧ v ≤ 100000) : mh_MP g d yX4_warms cX4_warms 3 (some .int) 96 [.ref 4, .int (Int32.ofInt (v)), .int (Int32.ofInt (m))] h (some (.int (Int32.ofInt (v.tdiv 2)))) := by
  refine mh_M_of RX4 rfl (by decide +kernel) [some (.ref 4), some (.int (Int32.ofInt (v))), some (.int (Int32.ofInt (m)))] rfl (Nat.le_of_ble_eq_true rfl) (fun f F Z hn0 hR => ?_)
  have ht1 := mh_tdivb (k := 2) hv.1 (by decide)
  have ht2 := mh_tdivb (k := 3) hm.1 (by decide)
  refine mh_aload0 (pc := 0) F dX4_warms_0 ?_
  refine mh_iload1 (pc := 1) F dX4_warms_1 ?_
  refine mh_iload2 (pc := 2) F dX4_warms_2 ?_
  refine mh_callSUp (pc := 3) (As := [.int (Int32.ofInt (v)), .int (Int32.ofInt (m))]) (st := []) F (by omega) (k_warms_X3_4 (by omega) (by omega) (by omega)) wz_RX4_7 dX4_warms_3 sh_4 (by decide) rfl rfl (Nat.le_of_ble_eq_true rfl) ⟨Nat.zero_le _, Nat.zero_le _⟩ ?_
  refine mh_iconst (pc := 6) F dX4_warms_6 ?_
  refine mh_idiv (pc := 7) F dX4_warms_7 (by omega) (by omega) (by omega) ?_
  exact mh_ireturnp F Z dX4_warms_8 rfl rfl

set_option maxRecDepth 100000 in
set_option maxHeartbeats 600000 in
theorem k_warms_X3_5 {g : mh_G} {d : Nat} (hd : 2 ≤ d) {h : Nat → Int → Int} {v m : Int} (hm : 0 ≤ m ∧ m ≤ 9) (hv : 0 ≤ v ∧ v ≤ 100000) : mh_MP g d yX3_warms cX3_warms 3 (some .int) 96 [.ref 5, .int (Int32.ofInt (v)), .int (Int32.ofInt (m))] h (some (.int (Int32.ofInt (v)))) := by
  refine mh_M_of RX3 rfl (by decide +kernel) [some (.ref 5), some (.int (Int32.ofInt (v))), some (.int (Int32.ofInt (m)))] rfl (Nat.le_of_ble_eq_true rfl) (fun f F Z hn0 hR => ?_)
  have ht1 := mh_tdivb (k := 2) hv.1 (by decide)
  have ht2 := mh_tdivb (k := 3) hm.1 (by decide)
  refine mh_iload1 (pc := 0) F dX3_warms_0 ?_
  exact mh_ireturnp F Z dX3_warms_1 rfl rfl

set_option maxRecDepth 100000 in
set_option maxHeartbeats 600000 in
theorem k_warms_X3_6 {g : mh_G} {d : Nat} (hd : 2 ≤ d) {h : Nat → Int → Int} {v m : Int} (hm : 0 ≤ m ∧ m ≤ 9) (hv : 0 ≤ v ∧ v ≤ 100000) : mh_MP g d yX3_warms cX3_warms 3 (some .int) 96 [.ref 6, .int (Int32.ofInt (v)), .int (Int32.ofInt (m))] h (some (.int (Int32.ofInt (v)))) := by
  refine mh_M_of RX3 rfl (by decide +kernel) [some (.ref 6), some (.int (Int32.ofInt (v))), some (.int (Int32.ofInt (m)))] rfl (Nat.le_of_ble_eq_true rfl) (fun f F Z hn0 hR => ?_)
  have ht1 := mh_tdivb (k := 2) hv.1 (by decide)
  have ht2 := mh_tdivb (k := 3) hm.1 (by decide)
  refine mh_iload1 (pc := 0) F dX3_warms_0 ?_
  exact mh_ireturnp F Z dX3_warms_1 rfl rfl

set_option maxRecDepth 100000 in
set_option maxHeartbeats 600000 in
theorem k_warms_X2_6 {g : mh_G} {d : Nat} (hd : 3 ≤ d) {h : Nat → Int → Int} {v m : Int} (hm : 0 ≤ m ∧ m ≤ 9) (hv : 0 ≤ v ∧ v ≤ 100000) : mh_MP g d yX2_warms cX2_warms 3 (some .int) 96 [.ref 6, .int (Int32.ofInt (v)), .int (Int32.ofInt (m))] h (some (.int (Int32.ofInt (v + m.tdiv 3)))) := by
  refine mh_M_of RX2 rfl (by decide +kernel) [some (.ref 6), some (.int (Int32.ofInt (v))), some (.int (Int32.ofInt (m)))] rfl (Nat.le_of_ble_eq_true rfl) (fun f F Z hn0 hR => ?_)
  have ht1 := mh_tdivb (k := 2) hv.1 (by decide)
  have ht2 := mh_tdivb (k := 3) hm.1 (by decide)
  refine mh_aload0 (pc := 0) F dX2_warms_0 ?_
  refine mh_iload1 (pc := 1) F dX2_warms_1 ?_
  refine mh_iload2 (pc := 2) F dX2_warms_2 ?_
  refine mh_callSUp (pc := 3) (As := [.int (Int32.ofInt (v)), .int (Int32.ofInt (m))]) (st := []) F (by omega) (k_warms_X3_6 (by omega) (by omega) (by omega)) wz_RX2_7 dX2_warms_3 sh_6 (by decide) rfl rfl (Nat.le_of_ble_eq_true rfl) ⟨Nat.zero_le _, Nat.zero_le _⟩ ?_
  refine mh_iload2 (pc := 6) F dX2_warms_6 ?_
  refine mh_iconst (pc := 7) F dX2_warms_7 ?_
  refine mh_idiv (pc := 8) F dX2_warms_8 (by omega) (by omega) (by omega) ?_
  refine mh_iadd (pc := 9) F dX2_warms_9 ?_
  exact mh_ireturnp F Z dX2_warms_10 rfl rfl

set_option maxRecDepth 100000 in
set_option maxHeartbeats 600000 in
theorem k_warms_X3_7 {g : mh_G} {d : Nat} (hd : 2 ≤ d) {h : Nat → Int → Int} {v m : Int} (hm : 0 ≤ m ∧ m ≤ 9) (hv : 0 ≤ v ∧ v ≤ 100000) : mh_MP g d yX3_warms cX3_warms 3 (some .int) 96 [.ref 7, .int (Int32.ofInt (v)), .int (Int32.ofInt (m))] h (some (.int (Int32.ofInt (v)))) := by
  refine mh_M_of RX3 rfl (by decide +kernel) [some (.ref 7), some (.int (Int32.ofInt (v))), some (.int (Int32.ofInt (m)))] rfl (Nat.le_of_ble_eq_true rfl) (fun f F Z hn0 hR => ?_)
  have ht1 := mh_tdivb (k := 2) hv.1 (by decide)
  have ht2 := mh_tdivb (k := 3) hm.1 (by decide)
  refine mh_iload1 (pc := 0) F dX3_warms_0 ?_
  exact mh_ireturnp F Z dX3_warms_1 rfl rfl

set_option maxRecDepth 100000 in
set_option maxHeartbeats 600000 in
theorem k_warms_X4_7 {g : mh_G} {d : Nat} (hd : 3 ≤ d) {h : Nat → Int → Int} {v m : Int} (hm : 0 ≤ m ∧ m ≤ 9) (hv : 0 ≤ v ∧ v ≤ 100000) : mh_MP g d yX4_warms cX4_warms 3 (some .int) 96 [.ref 7, .int (Int32.ofInt (v)), .int (Int32.ofInt (m))] h (some (.int (Int32.ofInt (v.tdiv 2)))) := by
  refine mh_M_of RX4 rfl (by decide +kernel) [some (.ref 7), some (.int (Int32.ofInt (v))), some (.int (Int32.ofInt (m)))] rfl (Nat.le_of_ble_eq_true rfl) (fun f F Z hn0 hR => ?_)
  have ht1 := mh_tdivb (k := 2) hv.1 (by decide)
  have ht2 := mh_tdivb (k := 3) hm.1 (by decide)
  refine mh_aload0 (pc := 0) F dX4_warms_0 ?_
  refine mh_iload1 (pc := 1) F dX4_warms_1 ?_
  refine mh_iload2 (pc := 2) F dX4_warms_2 ?_
  refine mh_callSUp (pc := 3) (As := [.int (Int32.ofInt (v)), .int (Int32.ofInt (m))]) (st := []) F (by omega) (k_warms_X3_7 (by omega) (by omega) (by omega)) wz_RX4_7 dX4_warms_3 sh_7 (by decide) rfl rfl (Nat.le_of_ble_eq_true rfl) ⟨Nat.zero_le _, Nat.zero_le _⟩ ?_
  refine mh_iconst (pc := 6) F dX4_warms_6 ?_
  refine mh_idiv (pc := 7) F dX4_warms_7 (by omega) (by omega) (by omega) ?_
  exact mh_ireturnp F Z dX4_warms_8 rfl rfl

set_option maxRecDepth 100000 in
set_option maxHeartbeats 600000 in
theorem k_warms_X8_7 {g : mh_G} {d : Nat} (hd : 4 ≤ d) {h : Nat → Int → Int} {v m : Int} (hm : 0 ≤ m ∧ m ≤ 9) (hv : 0 ≤ v ∧ v ≤ 100000) : mh_MP g d yX8_warms cX8_warms 3 (some .int) 96 [.ref 7, .int (Int32.ofInt (v)), .int (Int32.ofInt (m))] h (some (.int (Int32.ofInt (max 0 (v.tdiv 2 - 1))))) := by
  refine mh_M_of RX8 rfl (by decide +kernel) [some (.ref 7), some (.int (Int32.ofInt (v))), some (.int (Int32.ofInt (m)))] rfl (Nat.le_of_ble_eq_true rfl) (fun f F Z hn0 hR => ?_)
  have ht1 := mh_tdivb (k := 2) hv.1 (by decide)
  have ht2 := mh_tdivb (k := 3) hm.1 (by decide)
  refine mh_iconst (pc := 0) F dX8_warms_0 ?_
  refine mh_aload0 (pc := 1) F dX8_warms_1 ?_
  refine mh_iload1 (pc := 2) F dX8_warms_2 ?_
  refine mh_iload2 (pc := 3) F dX8_warms_3 ?_
  refine mh_callSUp (pc := 4) (As := [.int (Int32.ofInt (v)), .int (Int32.ofInt (m))]) (st := [.int (Int32.ofInt (0))]) F (by omega) (k_warms_X4_7 (by omega) (by omega) (by omega)) wz_RX8_7 dX8_warms_4 sh_7 (by decide) rfl rfl (Nat.le_of_ble_eq_true rfl) ⟨Nat.zero_le _, Nat.zero_le _⟩ ?_
  refine mh_iconst (pc := 7) F dX8_warms_7 ?_
  refine mh_isub (pc := 8) F dX8_warms_8 ?_
  refine mh_callSp (pc := 9) (As := [.int (Int32.ofInt (0)), .int (Int32.ofInt ((v.tdiv 2) - 1))]) (st := []) F (by omega) (k_max (by omega) (by omega) (by omega)) ws_RX8_11 dX8_warms_9 rfl rfl (Nat.le_of_ble_eq_true rfl) ⟨Nat.zero_le _, Nat.zero_le _⟩ ?_
  exact mh_ireturnp F Z dX8_warms_12 rfl rfl

set_option maxRecDepth 100000 in
set_option maxHeartbeats 600000 in
theorem k_warms_X3_8 {g : mh_G} {d : Nat} (hd : 2 ≤ d) {h : Nat → Int → Int} {v m : Int} (hm : 0 ≤ m ∧ m ≤ 9) (hv : 0 ≤ v ∧ v ≤ 100000) : mh_MP g d yX3_warms cX3_warms 3 (some .int) 96 [.ref 8, .int (Int32.ofInt (v)), .int (Int32.ofInt (m))] h (some (.int (Int32.ofInt (v)))) := by
  refine mh_M_of RX3 rfl (by decide +kernel) [some (.ref 8), some (.int (Int32.ofInt (v))), some (.int (Int32.ofInt (m)))] rfl (Nat.le_of_ble_eq_true rfl) (fun f F Z hn0 hR => ?_)
  have ht1 := mh_tdivb (k := 2) hv.1 (by decide)
  have ht2 := mh_tdivb (k := 3) hm.1 (by decide)
  refine mh_iload1 (pc := 0) F dX3_warms_0 ?_
  exact mh_ireturnp F Z dX3_warms_1 rfl rfl

set_option maxRecDepth 100000 in
set_option maxHeartbeats 600000 in
theorem k_warms_X5_8 {g : mh_G} {d : Nat} (hd : 4 ≤ d) {h : Nat → Int → Int} {v m : Int} (hm : 0 ≤ m ∧ m ≤ 9) (hv : 0 ≤ v ∧ v ≤ 100000) : mh_MP g d yX5_warms cX5_warms 3 (some .int) 96 [.ref 8, .int (Int32.ofInt (v)), .int (Int32.ofInt (m))] h (some (.int (Int32.ofInt (v + 2)))) := by
  refine mh_M_of RX5 rfl (by decide +kernel) [some (.ref 8), some (.int (Int32.ofInt (v))), some (.int (Int32.ofInt (m)))] rfl (Nat.le_of_ble_eq_true rfl) (fun f F Z hn0 hR => ?_)
  have ht1 := mh_tdivb (k := 2) hv.1 (by decide)
  have ht2 := mh_tdivb (k := 3) hm.1 (by decide)
  refine mh_aload0 (pc := 0) F dX5_warms_0 ?_
  refine mh_iload1 (pc := 1) F dX5_warms_1 ?_
  refine mh_iload2 (pc := 2) F dX5_warms_2 ?_
  refine mh_callSXp (pc := 3) (As := [.int (Int32.ofInt (v)), .int (Int32.ofInt (m))]) (st := []) F (by omega) (k_warms_X3_8 (by omega) (by omega) (by omega)) wx_RX5_7 dX5_warms_3 sh_8 (by decide) rfl rfl (Nat.le_of_ble_eq_true rfl) ⟨Nat.zero_le _, Nat.zero_le _⟩ ?_
  refine mh_iconst (pc := 6) F dX5_warms_6 ?_
  refine mh_iadd (pc := 7) F dX5_warms_7 ?_
  exact mh_ireturnp F Z dX5_warms_8 rfl rfl

set_option maxRecDepth 100000 in
set_option maxHeartbeats 600000 in
theorem k_jolts_X3_2 {g : mh_G} {d : Nat} (hd : 2 ≤ d) {h : Nat → Int → Int} {v m : Int} (hm : 0 ≤ m ∧ m ≤ 9) (hv : 0 ≤ v ∧ v ≤ 100000) : mh_MP g d yX3_jolts cX3_jolts 3 (some .int) 96 [.ref 2, .int (Int32.ofInt (v)), .int (Int32.ofInt (m))] h (some (.int (Int32.ofInt (v)))) := by
  refine mh_M_of RX3 rfl (by decide +kernel) [some (.ref 2), some (.int (Int32.ofInt (v))), some (.int (Int32.ofInt (m)))] rfl (Nat.le_of_ble_eq_true rfl) (fun f F Z hn0 hR => ?_)
  refine mh_iload1 (pc := 0) F dX3_jolts_0 ?_
  exact mh_ireturnp F Z dX3_jolts_1 rfl rfl

set_option maxRecDepth 100000 in
set_option maxHeartbeats 600000 in
theorem k_jolts_X3_3 {g : mh_G} {d : Nat} (hd : 2 ≤ d) {h : Nat → Int → Int} {v m : Int} (hm : 0 ≤ m ∧ m ≤ 9) (hv : 0 ≤ v ∧ v ≤ 100000) : mh_MP g d yX3_jolts cX3_jolts 3 (some .int) 96 [.ref 3, .int (Int32.ofInt (v)), .int (Int32.ofInt (m))] h (some (.int (Int32.ofInt (v)))) := by
  refine mh_M_of RX3 rfl (by decide +kernel) [some (.ref 3), some (.int (Int32.ofInt (v))), some (.int (Int32.ofInt (m)))] rfl (Nat.le_of_ble_eq_true rfl) (fun f F Z hn0 hR => ?_)
  refine mh_iload1 (pc := 0) F dX3_jolts_0 ?_
  exact mh_ireturnp F Z dX3_jolts_1 rfl rfl

set_option maxRecDepth 100000 in
set_option maxHeartbeats 600000 in
theorem k_jolts_X3_4 {g : mh_G} {d : Nat} (hd : 2 ≤ d) {h : Nat → Int → Int} {v m : Int} (hm : 0 ≤ m ∧ m ≤ 9) (hv : 0 ≤ v ∧ v ≤ 100000) : mh_MP g d yX3_jolts cX3_jolts 3 (some .int) 96 [.ref 4, .int (Int32.ofInt (v)), .int (Int32.ofInt (m))] h (some (.int (Int32.ofInt (v)))) := by
  refine mh_M_of RX3 rfl (by decide +kernel) [some (.ref 4), some (.int (Int32.ofInt (v))), some (.int (Int32.ofInt (m)))] rfl (Nat.le_of_ble_eq_true rfl) (fun f F Z hn0 hR => ?_)
  refine mh_iload1 (pc := 0) F dX3_jolts_0 ?_
  exact mh_ireturnp F Z dX3_jolts_1 rfl rfl

set_option maxRecDepth 100000 in
set_option maxHeartbeats 600000 in
theorem k_jolts_X1_5 {g : mh_G} {d : Nat} (hd : 3 ≤ d) {h : Nat → Int → Int} {v m : Int} (hm : 0 ≤ m ∧ m ≤ 9) (hv : 0 ≤ v ∧ v ≤ 100000) : mh_MP g d yX1_jolts cX1_jolts 3 (some .int) 96 [.ref 5, .int (Int32.ofInt (v)), .int (Int32.ofInt (m))] h (some (.int (Int32.ofInt (2 * v)))) := by
  refine mh_M_of RX1 rfl (by decide +kernel) [some (.ref 5), some (.int (Int32.ofInt (v))), some (.int (Int32.ofInt (m)))] rfl (Nat.le_of_ble_eq_true rfl) (fun f F Z hn0 hR => ?_)
  refine mh_iconst (pc := 0) F dX1_jolts_0 ?_
  refine mh_iload1 (pc := 1) F dX1_jolts_1 ?_
  refine mh_imul (pc := 2) F dX1_jolts_2 ?_
  exact mh_ireturnp F Z dX1_jolts_3 rfl rfl

set_option maxRecDepth 100000 in
set_option maxHeartbeats 600000 in
theorem k_jolts_X3_6 {g : mh_G} {d : Nat} (hd : 2 ≤ d) {h : Nat → Int → Int} {v m : Int} (hm : 0 ≤ m ∧ m ≤ 9) (hv : 0 ≤ v ∧ v ≤ 100000) : mh_MP g d yX3_jolts cX3_jolts 3 (some .int) 96 [.ref 6, .int (Int32.ofInt (v)), .int (Int32.ofInt (m))] h (some (.int (Int32.ofInt (v)))) := by
  refine mh_M_of RX3 rfl (by decide +kernel) [some (.ref 6), some (.int (Int32.ofInt (v))), some (.int (Int32.ofInt (m)))] rfl (Nat.le_of_ble_eq_true rfl) (fun f F Z hn0 hR => ?_)
  refine mh_iload1 (pc := 0) F dX3_jolts_0 ?_
  exact mh_ireturnp F Z dX3_jolts_1 rfl rfl

set_option maxRecDepth 100000 in
set_option maxHeartbeats 600000 in
theorem k_jolts_X7_6 {g : mh_G} {d : Nat} (hd : 4 ≤ d) {h : Nat → Int → Int} {v m : Int} (hm : 0 ≤ m ∧ m ≤ 9) (hv : 0 ≤ v ∧ v ≤ 100000) : mh_MP g d yX7_jolts cX7_jolts 3 (some .int) 96 [.ref 6, .int (Int32.ofInt (v)), .int (Int32.ofInt (m))] h (some (.int (Int32.ofInt (max 0 (v - 2))))) := by
  refine mh_M_of RX7 rfl (by decide +kernel) [some (.ref 6), some (.int (Int32.ofInt (v))), some (.int (Int32.ofInt (m)))] rfl (Nat.le_of_ble_eq_true rfl) (fun f F Z hn0 hR => ?_)
  refine mh_iconst (pc := 0) F dX7_jolts_0 ?_
  refine mh_aload0 (pc := 1) F dX7_jolts_1 ?_
  refine mh_iload1 (pc := 2) F dX7_jolts_2 ?_
  refine mh_iload2 (pc := 3) F dX7_jolts_3 ?_
  refine mh_callSXp (pc := 4) (As := [.int (Int32.ofInt (v)), .int (Int32.ofInt (m))]) (st := [.int (Int32.ofInt (0))]) F (by omega) (k_jolts_X3_6 (by omega) (by omega) (by omega)) wx_RX7_7 dX7_jolts_4 sh_6 (by decide) rfl rfl (Nat.le_of_ble_eq_true rfl) ⟨Nat.zero_le _, Nat.zero_le _⟩ ?_
  refine mh_iconst (pc := 7) F dX7_jolts_7 ?_
  refine mh_isub (pc := 8) F dX7_jolts_8 ?_
  refine mh_callSp (pc := 9) (As := [.int (Int32.ofInt (0)), .int (Int32.ofInt (v - 2))]) (st := []) F (by omega) (k_max (by omega) (by omega) (by omega)) ws_RX7_11 dX7_jolts_9 rfl rfl (Nat.le_of_ble_eq_true rfl) ⟨Nat.zero_le _, Nat.zero_le _⟩ ?_
  exact mh_ireturnp F Z dX7_jolts_12 rfl rfl

set_option maxRecDepth 100000 in
set_option maxHeartbeats 600000 in
theorem k_jolts_X3_7 {g : mh_G} {d : Nat} (hd : 2 ≤ d) {h : Nat → Int → Int} {v m : Int} (hm : 0 ≤ m ∧ m ≤ 9) (hv : 0 ≤ v ∧ v ≤ 100000) : mh_MP g d yX3_jolts cX3_jolts 3 (some .int) 96 [.ref 7, .int (Int32.ofInt (v)), .int (Int32.ofInt (m))] h (some (.int (Int32.ofInt (v)))) := by
  refine mh_M_of RX3 rfl (by decide +kernel) [some (.ref 7), some (.int (Int32.ofInt (v))), some (.int (Int32.ofInt (m)))] rfl (Nat.le_of_ble_eq_true rfl) (fun f F Z hn0 hR => ?_)
  refine mh_iload1 (pc := 0) F dX3_jolts_0 ?_
  exact mh_ireturnp F Z dX3_jolts_1 rfl rfl

set_option maxRecDepth 100000 in
set_option maxHeartbeats 600000 in
theorem k_jolts_X1_8 {g : mh_G} {d : Nat} (hd : 3 ≤ d) {h : Nat → Int → Int} {v m : Int} (hm : 0 ≤ m ∧ m ≤ 9) (hv : 0 ≤ v ∧ v ≤ 100000) : mh_MP g d yX1_jolts cX1_jolts 3 (some .int) 96 [.ref 8, .int (Int32.ofInt (v)), .int (Int32.ofInt (m))] h (some (.int (Int32.ofInt (2 * v)))) := by
  refine mh_M_of RX1 rfl (by decide +kernel) [some (.ref 8), some (.int (Int32.ofInt (v))), some (.int (Int32.ofInt (m)))] rfl (Nat.le_of_ble_eq_true rfl) (fun f F Z hn0 hR => ?_)
  refine mh_iconst (pc := 0) F dX1_jolts_0 ?_
  refine mh_iload1 (pc := 1) F dX1_jolts_1 ?_
  refine mh_imul (pc := 2) F dX1_jolts_2 ?_
  exact mh_ireturnp F Z dX1_jolts_3 rfl rfl

set_option maxRecDepth 100000 in
set_option maxHeartbeats 600000 in
theorem k_jolts_X5_8 {g : mh_G} {d : Nat} (hd : 4 ≤ d) {h : Nat → Int → Int} {v m : Int} (hm : 0 ≤ m ∧ m ≤ 9) (hv : 0 ≤ v ∧ v ≤ 100000) : mh_MP g d yX5_jolts cX5_jolts 3 (some .int) 96 [.ref 8, .int (Int32.ofInt (v)), .int (Int32.ofInt (m))] h (some (.int (Int32.ofInt (2 * v + m)))) := by
  refine mh_M_of RX5 rfl (by decide +kernel) [some (.ref 8), some (.int (Int32.ofInt (v))), some (.int (Int32.ofInt (m)))] rfl (Nat.le_of_ble_eq_true rfl) (fun f F Z hn0 hR => ?_)
  refine mh_aload0 (pc := 0) F dX5_jolts_0 ?_
  refine mh_iload1 (pc := 1) F dX5_jolts_1 ?_
  refine mh_iload2 (pc := 2) F dX5_jolts_2 ?_
  refine mh_callSUp (pc := 3) (As := [.int (Int32.ofInt (v)), .int (Int32.ofInt (m))]) (st := []) F (by omega) (k_jolts_X1_8 (by omega) (by omega) (by omega)) wz_RX5_11 dX5_jolts_3 sh_8 (by decide) rfl rfl (Nat.le_of_ble_eq_true rfl) ⟨Nat.zero_le _, Nat.zero_le _⟩ ?_
  refine mh_iload2 (pc := 6) F dX5_jolts_6 ?_
  refine mh_iadd (pc := 7) F dX5_jolts_7 ?_
  exact mh_ireturnp F Z dX5_jolts_8 rfl rfl

set_option maxRecDepth 100000 in
set_option maxHeartbeats 600000 in
theorem k_turns_X3_2 {g : mh_G} {d : Nat} (hd : 2 ≤ d) {h : Nat → Int → Int} {m : Int} (hm : 0 ≤ m ∧ m ≤ 9) : mh_MP g d yX3_turns cX3_turns 2 (some .int) 96 [.ref 2, .int (Int32.ofInt (m))] h (some (.int (Int32.ofInt (100)))) := by
  refine mh_M_of RX3 rfl (by decide +kernel) [some (.ref 2), some (.int (Int32.ofInt (m)))] rfl (Nat.le_of_ble_eq_true rfl) (fun f F Z hn0 hR => ?_)
  refine mh_bipush (pc := 0) F dX3_turns_0 rfl ?_
  exact mh_ireturnp F Z dX3_turns_2 rfl rfl

set_option maxRecDepth 100000 in
set_option maxHeartbeats 600000 in
theorem k_turns_X2_3 {g : mh_G} {d : Nat} (hd : 3 ≤ d) {h : Nat → Int → Int} {m : Int} (hm : 0 ≤ m ∧ m ≤ 9) : mh_MP g d yX2_turns cX2_turns 2 (some .int) 96 [.ref 3, .int (Int32.ofInt (m))] h (some (.int (Int32.ofInt (80)))) := by
  refine mh_M_of RX2 rfl (by decide +kernel) [some (.ref 3), some (.int (Int32.ofInt (m)))] rfl (Nat.le_of_ble_eq_true rfl) (fun f F Z hn0 hR => ?_)
  refine mh_bipush (pc := 0) F dX2_turns_0 rfl ?_
  exact mh_ireturnp F Z dX2_turns_2 rfl rfl

set_option maxRecDepth 100000 in
set_option maxHeartbeats 600000 in
theorem k_turns_X3_4 {g : mh_G} {d : Nat} (hd : 2 ≤ d) {h : Nat → Int → Int} {m : Int} (hm : 0 ≤ m ∧ m ≤ 9) : mh_MP g d yX3_turns cX3_turns 2 (some .int) 96 [.ref 4, .int (Int32.ofInt (m))] h (some (.int (Int32.ofInt (100)))) := by
  refine mh_M_of RX3 rfl (by decide +kernel) [some (.ref 4), some (.int (Int32.ofInt (m)))] rfl (Nat.le_of_ble_eq_true rfl) (fun f F Z hn0 hR => ?_)
  refine mh_bipush (pc := 0) F dX3_turns_0 rfl ?_
  exact mh_ireturnp F Z dX3_turns_2 rfl rfl

set_option maxRecDepth 100000 in
set_option maxHeartbeats 600000 in
theorem k_turns_X3_5 {g : mh_G} {d : Nat} (hd : 2 ≤ d) {h : Nat → Int → Int} {m : Int} (hm : 0 ≤ m ∧ m ≤ 9) : mh_MP g d yX3_turns cX3_turns 2 (some .int) 96 [.ref 5, .int (Int32.ofInt (m))] h (some (.int (Int32.ofInt (100)))) := by
  refine mh_M_of RX3 rfl (by decide +kernel) [some (.ref 5), some (.int (Int32.ofInt (m)))] rfl (Nat.le_of_ble_eq_true rfl) (fun f F Z hn0 hR => ?_)
  refine mh_bipush (pc := 0) F dX3_turns_0 rfl ?_
  exact mh_ireturnp F Z dX3_turns_2 rfl rfl

set_option maxRecDepth 100000 in
set_option maxHeartbeats 600000 in
theorem k_turns_X2_6 {g : mh_G} {d : Nat} (hd : 3 ≤ d) {h : Nat → Int → Int} {m : Int} (hm : 0 ≤ m ∧ m ≤ 9) : mh_MP g d yX2_turns cX2_turns 2 (some .int) 96 [.ref 6, .int (Int32.ofInt (m))] h (some (.int (Int32.ofInt (80)))) := by
  refine mh_M_of RX2 rfl (by decide +kernel) [some (.ref 6), some (.int (Int32.ofInt (m)))] rfl (Nat.le_of_ble_eq_true rfl) (fun f F Z hn0 hR => ?_)
  refine mh_bipush (pc := 0) F dX2_turns_0 rfl ?_
  exact mh_ireturnp F Z dX2_turns_2 rfl rfl

set_option maxRecDepth 100000 in
set_option maxHeartbeats 600000 in
theorem k_turns_X7_6 {g : mh_G} {d : Nat} (hd : 4 ≤ d) {h : Nat → Int → Int} {m : Int} (hm : 0 ≤ m ∧ m ≤ 9) : mh_MP g d yX7_turns cX7_turns 2 (some .int) 96 [.ref 6, .int (Int32.ofInt (m))] h (some (.int (Int32.ofInt (80 + 5 * m)))) := by
  refine mh_M_of RX7 rfl (by decide +kernel) [some (.ref 6), some (.int (Int32.ofInt (m)))] rfl (Nat.le_of_ble_eq_true rfl) (fun f F Z hn0 hR => ?_)
  refine mh_aload0 (pc := 0) F dX7_turns_0 ?_
  refine mh_iload1 (pc := 1) F dX7_turns_1 ?_
  refine mh_callSUp (pc := 2) (As := [.int (Int32.ofInt (m))]) (st := []) F (by omega) (k_turns_X2_6 (by omega) (by omega)) wz_RX7_16 dX7_turns_2 sh_6 (by decide) rfl rfl (Nat.le_of_ble_eq_true rfl) ⟨Nat.zero_le _, Nat.zero_le _⟩ ?_
  refine mh_iconst (pc := 5) F dX7_turns_5 ?_
  refine mh_iload1 (pc := 6) F dX7_turns_6 ?_
  refine mh_imul (pc := 7) F dX7_turns_7 ?_
  refine mh_iadd (pc := 8) F dX7_turns_8 ?_
  exact mh_ireturnp F Z dX7_turns_9 rfl rfl

set_option maxRecDepth 100000 in
set_option maxHeartbeats 600000 in
theorem k_turns_X3_7 {g : mh_G} {d : Nat} (hd : 2 ≤ d) {h : Nat → Int → Int} {m : Int} (hm : 0 ≤ m ∧ m ≤ 9) : mh_MP g d yX3_turns cX3_turns 2 (some .int) 96 [.ref 7, .int (Int32.ofInt (m))] h (some (.int (Int32.ofInt (100)))) := by
  refine mh_M_of RX3 rfl (by decide +kernel) [some (.ref 7), some (.int (Int32.ofInt (m)))] rfl (Nat.le_of_ble_eq_true rfl) (fun f F Z hn0 hR => ?_)
  refine mh_bipush (pc := 0) F dX3_turns_0 rfl ?_
  exact mh_ireturnp F Z dX3_turns_2 rfl rfl

set_option maxRecDepth 100000 in
set_option maxHeartbeats 600000 in
theorem k_turns_X8_7 {g : mh_G} {d : Nat} (hd : 4 ≤ d) {h : Nat → Int → Int} {m : Int} (hm : 0 ≤ m ∧ m ≤ 9) : mh_MP g d yX8_turns cX8_turns 2 (some .int) 96 [.ref 7, .int (Int32.ofInt (m))] h (some (.int (Int32.ofInt (120)))) := by
  refine mh_M_of RX8 rfl (by decide +kernel) [some (.ref 7), some (.int (Int32.ofInt (m)))] rfl (Nat.le_of_ble_eq_true rfl) (fun f F Z hn0 hR => ?_)
  refine mh_aload0 (pc := 0) F dX8_turns_0 ?_
  refine mh_iload1 (pc := 1) F dX8_turns_1 ?_
  refine mh_callSXp (pc := 2) (As := [.int (Int32.ofInt (m))]) (st := []) F (by omega) (k_turns_X3_7 (by omega) (by omega)) wx_RX8_16 dX8_turns_2 sh_7 (by decide) rfl rfl (Nat.le_of_ble_eq_true rfl) ⟨Nat.zero_le _, Nat.zero_le _⟩ ?_
  refine mh_bipush (pc := 5) F dX8_turns_5 rfl ?_
  refine mh_iadd (pc := 7) F dX8_turns_7 ?_
  refine mh_top (y := 120) rfl ?_
  exact mh_ireturnp F Z dX8_turns_8 rfl rfl

set_option maxRecDepth 100000 in
set_option maxHeartbeats 600000 in
theorem k_turns_X3_8 {g : mh_G} {d : Nat} (hd : 2 ≤ d) {h : Nat → Int → Int} {m : Int} (hm : 0 ≤ m ∧ m ≤ 9) : mh_MP g d yX3_turns cX3_turns 2 (some .int) 96 [.ref 8, .int (Int32.ofInt (m))] h (some (.int (Int32.ofInt (100)))) := by
  refine mh_M_of RX3 rfl (by decide +kernel) [some (.ref 8), some (.int (Int32.ofInt (m)))] rfl (Nat.le_of_ble_eq_true rfl) (fun f F Z hn0 hR => ?_)
  refine mh_bipush (pc := 0) F dX3_turns_0 rfl ?_
  exact mh_ireturnp F Z dX3_turns_2 rfl rfl

theorem kd_turns_RX0_44 {g : mh_G} {f : mh_F} {cc : ByteArray} {nL d n cl sl pc : Nat} {loc : List (Option Value)} {st : List Value} {h : Nat → Int → Int} (F : mh_Fr g f RX0 cc nL d) (hd1 : 5 ≤ d) {k m : Int} (hk : 0 ≤ k ∧ k ≤ 6) (hm : 0 ≤ m ∧ m ≤ 9) (hd : decode cc pc = .ok (.invokevirtual 44, 3)) (hn : n = 96) (h8 : (st.map fun v => v.category).sum ≤ 8) (hc : cl ≤ (mh_R f).cells ∧ sl ≤ (mh_R f).slots) (kk : mh_V g f nL n cl sl (pc + 3) loc (.int (Int32.ofInt (sp_turns k m)) :: st) h) : mh_V g f nL n cl sl pc loc (.int (Int32.ofInt m) :: .ref (2 + k.toNat) :: st) h := by
  subst hn
  rcases (show k = 0 ∨ k = 1 ∨ k = 2 ∨ k = 3 ∨ k = 4 ∨ k = 5 ∨ k = 6 by omega) with z | z | z | z | z | z | z
  · subst z
    have e : sp_turns 0 m = 100 := by simp [sp_turns]
    rw [e] at kk
    exact mh_callVp (As := [.int (Int32.ofInt m)]) (st := st) F (by omega) (k_turns_X3_2 (by omega) hm) wv_RX0_44_yX3_turns hd sh_2 rfl (by decide) rfl rfl h8 hc kk
  · subst z
    have e : sp_turns 1 m = 80 := by simp [sp_turns]
    rw [e] at kk
    exact mh_callUp (As := [.int (Int32.ofInt m)]) (st := st) F (by omega) (k_turns_X2_3 (by omega) hm) wu_RX0_44_RX2 hd sh_3 (by decide) rfl rfl h8 hc kk
  · subst z
    have e : sp_turns 2 m = 100 := by simp [sp_turns]
    rw [e] at kk
    exact mh_callUp (As := [.int (Int32.ofInt m)]) (st := st) F (by omega) (k_turns_X3_4 (by omega) hm) wu_RX0_44_RX4 hd sh_4 (by decide) rfl rfl h8 hc kk
  · subst z
    have e : sp_turns 3 m = 100 := by simp [sp_turns]
    rw [e] at kk
    exact mh_callUp (As := [.int (Int32.ofInt m)]) (st := st) F (by omega) (k_turns_X3_5 (by omega) hm) wu_RX0_44_RX1 hd sh_5 (by decide) rfl rfl h8 hc kk
  · subst z
    have e : sp_turns 4 m = 80 + 5 * m := by simp [sp_turns]
    rw [e] at kk
    exact mh_callUp (As := [.int (Int32.ofInt m)]) (st := st) F (by omega) (k_turns_X7_6 (by omega) hm) wu_RX0_44_RX7 hd sh_6 (by decide) rfl rfl h8 hc kk
  · subst z
    have e : sp_turns 5 m = 120 := by simp [sp_turns]
    rw [e] at kk
    exact mh_callUp (As := [.int (Int32.ofInt m)]) (st := st) F (by omega) (k_turns_X8_7 (by omega) hm) wu_RX0_44_RX8 hd sh_7 (by decide) rfl rfl h8 hc kk
  · subst z
    have e : sp_turns 6 m = 100 := by simp [sp_turns]
    rw [e] at kk
    exact mh_callUp (As := [.int (Int32.ofInt m)]) (st := st) F (by omega) (k_turns_X3_8 (by omega) hm) wu_RX0_44_RX5 hd sh_8 (by decide) rfl rfl h8 hc kk

theorem kd_turns_RX6_65 {g : mh_G} {f : mh_F} {cc : ByteArray} {nL d n cl sl pc : Nat} {loc : List (Option Value)} {st : List Value} {h : Nat → Int → Int} (F : mh_Fr g f RX6 cc nL d) (hd1 : 5 ≤ d) {k m : Int} (hk : 0 ≤ k ∧ k ≤ 6) (hm : 0 ≤ m ∧ m ≤ 9) (hd : decode cc pc = .ok (.invokevirtual 65, 3)) (hn : n = 96) (h8 : (st.map fun v => v.category).sum ≤ 8) (hc : cl ≤ (mh_R f).cells ∧ sl ≤ (mh_R f).slots) (kk : mh_V g f nL n cl sl (pc + 3) loc (.int (Int32.ofInt (sp_turns k m)) :: st) h) : mh_V g f nL n cl sl pc loc (.int (Int32.ofInt m) :: .ref (2 + k.toNat) :: st) h := by
  subst hn
  rcases (show k = 0 ∨ k = 1 ∨ k = 2 ∨ k = 3 ∨ k = 4 ∨ k = 5 ∨ k = 6 by omega) with z | z | z | z | z | z | z
  · subst z
    have e : sp_turns 0 m = 100 := by simp [sp_turns]
    rw [e] at kk
    exact mh_callVp (As := [.int (Int32.ofInt m)]) (st := st) F (by omega) (k_turns_X3_2 (by omega) hm) wv_RX6_65_yX3_turns hd sh_2 rfl (by decide) rfl rfl h8 hc kk
  · subst z
    have e : sp_turns 1 m = 80 := by simp [sp_turns]
    rw [e] at kk
    exact mh_callUp (As := [.int (Int32.ofInt m)]) (st := st) F (by omega) (k_turns_X2_3 (by omega) hm) wu_RX6_65_RX2 hd sh_3 (by decide) rfl rfl h8 hc kk
  · subst z
    have e : sp_turns 2 m = 100 := by simp [sp_turns]
    rw [e] at kk
    exact mh_callUp (As := [.int (Int32.ofInt m)]) (st := st) F (by omega) (k_turns_X3_4 (by omega) hm) wu_RX6_65_RX4 hd sh_4 (by decide) rfl rfl h8 hc kk
  · subst z
    have e : sp_turns 3 m = 100 := by simp [sp_turns]
    rw [e] at kk
    exact mh_callUp (As := [.int (Int32.ofInt m)]) (st := st) F (by omega) (k_turns_X3_5 (by omega) hm) wu_RX6_65_RX1 hd sh_5 (by decide) rfl rfl h8 hc kk
  · subst z
    have e : sp_turns 4 m = 80 + 5 * m := by simp [sp_turns]
    rw [e] at kk
    exact mh_callUp (As := [.int (Int32.ofInt m)]) (st := st) F (by omega) (k_turns_X7_6 (by omega) hm) wu_RX6_65_RX7 hd sh_6 (by decide) rfl rfl h8 hc kk
  · subst z
    have e : sp_turns 5 m = 120 := by simp [sp_turns]
    rw [e] at kk
    exact mh_callUp (As := [.int (Int32.ofInt m)]) (st := st) F (by omega) (k_turns_X8_7 (by omega) hm) wu_RX6_65_RX8 hd sh_7 (by decide) rfl rfl h8 hc kk
  · subst z
    have e : sp_turns 6 m = 100 := by simp [sp_turns]
    rw [e] at kk
    exact mh_callUp (As := [.int (Int32.ofInt m)]) (st := st) F (by omega) (k_turns_X3_8 (by omega) hm) wu_RX6_65_RX5 hd sh_8 (by decide) rfl rfl h8 hc kk

theorem kd_jolts_RX6_82 {g : mh_G} {f : mh_F} {cc : ByteArray} {nL d n cl sl pc : Nat} {loc : List (Option Value)} {st : List Value} {h : Nat → Int → Int} (F : mh_Fr g f RX6 cc nL d) (hd1 : 5 ≤ d) {k m v : Int} (hk : 0 ≤ k ∧ k ≤ 6) (hm : 0 ≤ m ∧ m ≤ 9) (hv : 0 ≤ v ∧ v ≤ 100000) (hd : decode cc pc = .ok (.invokevirtual 82, 3)) (hn : n = 96) (h8 : (st.map fun v => v.category).sum ≤ 8) (hc : cl ≤ (mh_R f).cells ∧ sl ≤ (mh_R f).slots) (kk : mh_V g f nL n cl sl (pc + 3) loc (.int (Int32.ofInt (sp_jolts k m v)) :: st) h) : mh_V g f nL n cl sl pc loc (.int (Int32.ofInt m) :: .int (Int32.ofInt v) :: .ref (2 + k.toNat) :: st) h := by
  subst hn
  rcases (show k = 0 ∨ k = 1 ∨ k = 2 ∨ k = 3 ∨ k = 4 ∨ k = 5 ∨ k = 6 by omega) with z | z | z | z | z | z | z
  · subst z
    have e : sp_jolts 0 m v = v := by simp [sp_jolts]
    rw [e] at kk
    exact mh_callVp (As := [.int (Int32.ofInt v), .int (Int32.ofInt m)]) (st := st) F (by omega) (k_jolts_X3_2 (by omega) hm hv) wv_RX6_82_yX3_jolts hd sh_2 rfl (by decide) rfl rfl h8 hc kk
  · subst z
    have e : sp_jolts 1 m v = v := by simp [sp_jolts]
    rw [e] at kk
    exact mh_callUp (As := [.int (Int32.ofInt v), .int (Int32.ofInt m)]) (st := st) F (by omega) (k_jolts_X3_3 (by omega) hm hv) wu_RX6_82_RX2 hd sh_3 (by decide) rfl rfl h8 hc kk
  · subst z
    have e : sp_jolts 2 m v = v := by simp [sp_jolts]
    rw [e] at kk
    exact mh_callUp (As := [.int (Int32.ofInt v), .int (Int32.ofInt m)]) (st := st) F (by omega) (k_jolts_X3_4 (by omega) hm hv) wu_RX6_82_RX4 hd sh_4 (by decide) rfl rfl h8 hc kk
  · subst z
    have e : sp_jolts 3 m v = 2 * v := by simp [sp_jolts]
    rw [e] at kk
    exact mh_callUp (As := [.int (Int32.ofInt v), .int (Int32.ofInt m)]) (st := st) F (by omega) (k_jolts_X1_5 (by omega) hm hv) wu_RX6_82_RX1 hd sh_5 (by decide) rfl rfl h8 hc kk
  · subst z
    have e : sp_jolts 4 m v = max 0 (v - 2) := by simp [sp_jolts]
    rw [e] at kk
    exact mh_callUp (As := [.int (Int32.ofInt v), .int (Int32.ofInt m)]) (st := st) F (by omega) (k_jolts_X7_6 (by omega) hm hv) wu_RX6_82_RX7 hd sh_6 (by decide) rfl rfl h8 hc kk
  · subst z
    have e : sp_jolts 5 m v = v := by simp [sp_jolts]
    rw [e] at kk
    exact mh_callUp (As := [.int (Int32.ofInt v), .int (Int32.ofInt m)]) (st := st) F (by omega) (k_jolts_X3_7 (by omega) hm hv) wu_RX6_82_RX8 hd sh_7 (by decide) rfl rfl h8 hc kk
  · subst z
    have e : sp_jolts 6 m v = 2 * v + m := by simp [sp_jolts]
    rw [e] at kk
    exact mh_callUp (As := [.int (Int32.ofInt v), .int (Int32.ofInt m)]) (st := st) F (by omega) (k_jolts_X5_8 (by omega) hm hv) wu_RX6_82_RX5 hd sh_8 (by decide) rfl rfl h8 hc kk

theorem kd_warms_RX6_142 {g : mh_G} {f : mh_F} {cc : ByteArray} {nL d n cl sl pc : Nat} {loc : List (Option Value)} {st : List Value} {h : Nat → Int → Int} (F : mh_Fr g f RX6 cc nL d) (hd1 : 5 ≤ d) {k m v : Int} (hk : 0 ≤ k ∧ k ≤ 6) (hm : 0 ≤ m ∧ m ≤ 9) (hv : 0 ≤ v ∧ v ≤ 100000) (hd : decode cc pc = .ok (.invokevirtual 142, 3)) (hn : n = 96) (h8 : (st.map fun v => v.category).sum ≤ 8) (hc : cl ≤ (mh_R f).cells ∧ sl ≤ (mh_R f).slots) (kk : mh_V g f nL n cl sl (pc + 3) loc (.int (Int32.ofInt (sp_warms k m v)) :: st) h) : mh_V g f nL n cl sl pc loc (.int (Int32.ofInt m) :: .int (Int32.ofInt v) :: .ref (2 + k.toNat) :: st) h := by
  subst hn
  rcases (show k = 0 ∨ k = 1 ∨ k = 2 ∨ k = 3 ∨ k = 4 ∨ k = 5 ∨ k = 6 by omega) with z | z | z | z | z | z | z
  · subst z
    have e : sp_warms 0 m v = v := by simp [sp_warms]
    rw [e] at kk
    exact mh_callVp (As := [.int (Int32.ofInt v), .int (Int32.ofInt m)]) (st := st) F (by omega) (k_warms_X3_2 (by omega) hm hv) wv_RX6_142_yX3_warms hd sh_2 rfl (by decide) rfl rfl h8 hc kk
  · subst z
    have e : sp_warms 1 m v = v + m.tdiv 3 := by simp [sp_warms]
    rw [e] at kk
    exact mh_callUp (As := [.int (Int32.ofInt v), .int (Int32.ofInt m)]) (st := st) F (by omega) (k_warms_X2_3 (by omega) hm hv) wu_RX6_142_RX2 hd sh_3 (by decide) rfl rfl h8 hc kk
  · subst z
    have e : sp_warms 2 m v = v.tdiv 2 := by simp [sp_warms]
    rw [e] at kk
    exact mh_callUp (As := [.int (Int32.ofInt v), .int (Int32.ofInt m)]) (st := st) F (by omega) (k_warms_X4_4 (by omega) hm hv) wu_RX6_142_RX4 hd sh_4 (by decide) rfl rfl h8 hc kk
  · subst z
    have e : sp_warms 3 m v = v := by simp [sp_warms]
    rw [e] at kk
    exact mh_callUp (As := [.int (Int32.ofInt v), .int (Int32.ofInt m)]) (st := st) F (by omega) (k_warms_X3_5 (by omega) hm hv) wu_RX6_142_RX1 hd sh_5 (by decide) rfl rfl h8 hc kk
  · subst z
    have e : sp_warms 4 m v = v + m.tdiv 3 := by simp [sp_warms]
    rw [e] at kk
    exact mh_callUp (As := [.int (Int32.ofInt v), .int (Int32.ofInt m)]) (st := st) F (by omega) (k_warms_X2_6 (by omega) hm hv) wu_RX6_142_RX7 hd sh_6 (by decide) rfl rfl h8 hc kk
  · subst z
    have e : sp_warms 5 m v = max 0 (v.tdiv 2 - 1) := by simp [sp_warms]
    rw [e] at kk
    exact mh_callUp (As := [.int (Int32.ofInt v), .int (Int32.ofInt m)]) (st := st) F (by omega) (k_warms_X8_7 (by omega) hm hv) wu_RX6_142_RX8 hd sh_7 (by decide) rfl rfl h8 hc kk
  · subst z
    have e : sp_warms 6 m v = v + 2 := by simp [sp_warms]
    rw [e] at kk
    exact mh_callUp (As := [.int (Int32.ofInt v), .int (Int32.ofInt m)]) (st := st) F (by omega) (k_warms_X5_8 (by omega) hm hv) wu_RX6_142_RX5 hd sh_8 (by decide) rfl rfl h8 hc kk

theorem kd_warms_RX10_163 {g : mh_G} {f : mh_F} {cc : ByteArray} {nL d n cl sl pc : Nat} {loc : List (Option Value)} {st : List Value} {h : Nat → Int → Int} (F : mh_Fr g f RX10 cc nL d) (hd1 : 5 ≤ d) {k m v : Int} (hk : 0 ≤ k ∧ k ≤ 6) (hm : 0 ≤ m ∧ m ≤ 9) (hv : 0 ≤ v ∧ v ≤ 100000) (hd : decode cc pc = .ok (.invokevirtual 163, 3)) (hn : n = 96) (h8 : (st.map fun v => v.category).sum ≤ 8) (hc : cl ≤ (mh_R f).cells ∧ sl ≤ (mh_R f).slots) (kk : mh_V g f nL n cl sl (pc + 3) loc (.int (Int32.ofInt (sp_warms k m v)) :: st) h) : mh_V g f nL n cl sl pc loc (.int (Int32.ofInt m) :: .int (Int32.ofInt v) :: .ref (2 + k.toNat) :: st) h := by
  subst hn
  rcases (show k = 0 ∨ k = 1 ∨ k = 2 ∨ k = 3 ∨ k = 4 ∨ k = 5 ∨ k = 6 by omega) with z | z | z | z | z | z | z
  · subst z
    have e : sp_warms 0 m v = v := by simp [sp_warms]
    rw [e] at kk
    exact mh_callVp (As := [.int (Int32.ofInt v), .int (Int32.ofInt m)]) (st := st) F (by omega) (k_warms_X3_2 (by omega) hm hv) wv_RX10_163_yX3_warms hd sh_2 rfl (by decide) rfl rfl h8 hc kk
  · subst z
    have e : sp_warms 1 m v = v + m.tdiv 3 := by simp [sp_warms]
    rw [e] at kk
    exact mh_callUp (As := [.int (Int32.ofInt v), .int (Int32.ofInt m)]) (st := st) F (by omega) (k_warms_X2_3 (by omega) hm hv) wu_RX10_163_RX2 hd sh_3 (by decide) rfl rfl h8 hc kk
  · subst z
    have e : sp_warms 2 m v = v.tdiv 2 := by simp [sp_warms]
    rw [e] at kk
    exact mh_callUp (As := [.int (Int32.ofInt v), .int (Int32.ofInt m)]) (st := st) F (by omega) (k_warms_X4_4 (by omega) hm hv) wu_RX10_163_RX4 hd sh_4 (by decide) rfl rfl h8 hc kk
  · subst z
    have e : sp_warms 3 m v = v := by simp [sp_warms]
    rw [e] at kk
    exact mh_callUp (As := [.int (Int32.ofInt v), .int (Int32.ofInt m)]) (st := st) F (by omega) (k_warms_X3_5 (by omega) hm hv) wu_RX10_163_RX1 hd sh_5 (by decide) rfl rfl h8 hc kk
  · subst z
    have e : sp_warms 4 m v = v + m.tdiv 3 := by simp [sp_warms]
    rw [e] at kk
    exact mh_callUp (As := [.int (Int32.ofInt v), .int (Int32.ofInt m)]) (st := st) F (by omega) (k_warms_X2_6 (by omega) hm hv) wu_RX10_163_RX7 hd sh_6 (by decide) rfl rfl h8 hc kk
  · subst z
    have e : sp_warms 5 m v = max 0 (v.tdiv 2 - 1) := by simp [sp_warms]
    rw [e] at kk
    exact mh_callUp (As := [.int (Int32.ofInt v), .int (Int32.ofInt m)]) (st := st) F (by omega) (k_warms_X8_7 (by omega) hm hv) wu_RX10_163_RX8 hd sh_7 (by decide) rfl rfl h8 hc kk
  · subst z
    have e : sp_warms 6 m v = v + 2 := by simp [sp_warms]
    rw [e] at kk
    exact mh_callUp (As := [.int (Int32.ofInt v), .int (Int32.ofInt m)]) (st := st) F (by omega) (k_warms_X5_8 (by omega) hm hv) wu_RX10_163_RX5 hd sh_8 (by decide) rfl rfl h8 hc kk

theorem kd_jolts_RX10_175 {g : mh_G} {f : mh_F} {cc : ByteArray} {nL d n cl sl pc : Nat} {loc : List (Option Value)} {st : List Value} {h : Nat → Int → Int} (F : mh_Fr g f RX10 cc nL d) (hd1 : 5 ≤ d) {k m v : Int} (hk : 0 ≤ k ∧ k ≤ 6) (hm : 0 ≤ m ∧ m ≤ 9) (hv : 0 ≤ v ∧ v ≤ 100000) (hd : decode cc pc = .ok (.invokevirtual 175, 3)) (hn : n = 96) (h8 : (st.map fun v => v.category).sum ≤ 8) (hc : cl ≤ (mh_R f).cells ∧ sl ≤ (mh_R f).slots) (kk : mh_V g f nL n cl sl (pc + 3) loc (.int (Int32.ofInt (sp_jolts k m v)) :: st) h) : mh_V g f nL n cl sl pc loc (.int (Int32.ofInt m) :: .int (Int32.ofInt v) :: .ref (2 + k.toNat) :: st) h := by
  subst hn
  rcases (show k = 0 ∨ k = 1 ∨ k = 2 ∨ k = 3 ∨ k = 4 ∨ k = 5 ∨ k = 6 by omega) with z | z | z | z | z | z | z
  · subst z
    have e : sp_jolts 0 m v = v := by simp [sp_jolts]
    rw [e] at kk
    exact mh_callVp (As := [.int (Int32.ofInt v), .int (Int32.ofInt m)]) (st := st) F (by omega) (k_jolts_X3_2 (by omega) hm hv) wv_RX10_175_yX3_jolts hd sh_2 rfl (by decide) rfl rfl h8 hc kk
  · subst z
    have e : sp_jolts 1 m v = v := by simp [sp_jolts]
    rw [e] at kk
    exact mh_callUp (As := [.int (Int32.ofInt v), .int (Int32.ofInt m)]) (st := st) F (by omega) (k_jolts_X3_3 (by omega) hm hv) wu_RX10_175_RX2 hd sh_3 (by decide) rfl rfl h8 hc kk
  · subst z
    have e : sp_jolts 2 m v = v := by simp [sp_jolts]
    rw [e] at kk
    exact mh_callUp (As := [.int (Int32.ofInt v), .int (Int32.ofInt m)]) (st := st) F (by omega) (k_jolts_X3_4 (by omega) hm hv) wu_RX10_175_RX4 hd sh_4 (by decide) rfl rfl h8 hc kk
  · subst z
    have e : sp_jolts 3 m v = 2 * v := by simp [sp_jolts]
    rw [e] at kk
    exact mh_callUp (As := [.int (Int32.ofInt v), .int (Int32.ofInt m)]) (st := st) F (by omega) (k_jolts_X1_5 (by omega) hm hv) wu_RX10_175_RX1 hd sh_5 (by decide) rfl rfl h8 hc kk
  · subst z
    have e : sp_jolts 4 m v = max 0 (v - 2) := by simp [sp_jolts]
    rw [e] at kk
    exact mh_callUp (As := [.int (Int32.ofInt v), .int (Int32.ofInt m)]) (st := st) F (by omega) (k_jolts_X7_6 (by omega) hm hv) wu_RX10_175_RX7 hd sh_6 (by decide) rfl rfl h8 hc kk
  · subst z
    have e : sp_jolts 5 m v = v := by simp [sp_jolts]
    rw [e] at kk
    exact mh_callUp (As := [.int (Int32.ofInt v), .int (Int32.ofInt m)]) (st := st) F (by omega) (k_jolts_X3_7 (by omega) hm hv) wu_RX10_175_RX8 hd sh_7 (by decide) rfl rfl h8 hc kk
  · subst z
    have e : sp_jolts 6 m v = 2 * v + m := by simp [sp_jolts]
    rw [e] at kk
    exact mh_callUp (As := [.int (Int32.ofInt v), .int (Int32.ofInt m)]) (st := st) F (by omega) (k_jolts_X5_8 (by omega) hm hv) wu_RX10_175_RX5 hd sh_8 (by decide) rfl rfl h8 hc kk

