theorem mh_ur_eq {s : Int → Int} {i j v : Int} (h : j = i) : mh_ur s i v j = v := by unfold mh_ur; rw [if_pos h]
theorem mh_ur_ne {s : Int → Int} {i j v : Int} (h : j ≠ i) : mh_ur s i v j = s j := by unfold mh_ur; rw [if_neg h]
def sp_ck0 (c : Int → Int) : Prop := (0 ≤ c 0 ∧ c 0 ≤ 6) ∧ (0 ≤ c 1 ∧ c 1 ≤ 9) ∧ (0 ≤ c 2 ∧ c 2 ≤ 9) ∧ (0 ≤ c 3 ∧ c 3 ≤ 3) ∧ (0 ≤ c 4 ∧ c 4 ≤ 9) ∧ (0 ≤ c 5 ∧ c 5 ≤ 9999) ∧ (0 ≤ c 6 ∧ c 6 ≤ 9999) ∧ (0 ≤ c 7 ∧ c 7 ≤ 3) ∧ (0 ≤ c 8 ∧ c 8 ≤ 1)
/-- a churn comes to the next hill, or the town -/
def sp_comes (s : Int → Int) (k : Int) : Int → Int :=
  if s (41 + 9 * k + 2) + 1 = 9 then sp_takes (mh_ur (mh_ur s (41 + 9 * k + 2) (s (41 + 9 * k + 2) + 1)) (41 + 9 * k + 3) 3) (sp_worth (mh_ur (mh_ur s (41 + 9 * k + 2) (s (41 + 9 * k + 2) + 1)) (41 + 9 * k + 3) 3) k (s (41 + 9 * k + 5)) (s (41 + 9 * k + 6)))
  else mh_ur (mh_ur s (41 + 9 * k + 2) (s (41 + 9 * k + 2) + 1)) (41 + 9 * k + 3) 0
def sp_q5 (s : Int → Int) (k : Int) : Int := sp_warms (s (41 + 9 * k + 0)) (s (41 + 9 * k + 1)) (sp_warm s (s (41 + 9 * k + 2)) (s 0))
def sp_q6 (s : Int → Int) (k : Int) : Int := sp_held (s (41 + 9 * k + 6) + sp_jolts (s (41 + 9 * k + 0)) (s (41 + 9 * k + 1)) (s (33 + 2 * s (41 + 9 * k + 7) + 1))) 0 9999
/-- a quarter of one churn -/
def sp_go (s : Int → Int) (k : Int) : Int → Int :=
  if s (41 + 9 * k + 8) = 1 ∨ s (41 + 9 * k + 3) = 3 ∨ s (41 + 9 * k + 3) = 1 then s
  else if s (41 + 9 * k + 3) ≠ 2 then sp_sours s k (sp_q5 s k)
  else if s (41 + 9 * k + 4) - 1 ≠ 0 then mh_ur (mh_ur (sp_sours s k (sp_q5 s k)) (41 + 9 * k + 6) (sp_q6 s k)) (41 + 9 * k + 4) (s (41 + 9 * k + 4) - 1)
  else sp_comes (mh_ur (mh_ur (sp_sours s k (sp_q5 s k)) (41 + 9 * k + 6) (sp_q6 s k)) (41 + 9 * k + 4) (s (41 + 9 * k + 4) - 1)) k
set_option maxRecDepth 100000 in
set_option maxHeartbeats 4000000 in
theorem k_comes {g : mh_G} {d : Nat} (hd : 6 ≤ d) {h : Nat → Int → Int} (hF : mh_FX h) {s : Int → Int} (r82 : h 82 = s) {k : Int} (hk : 0 ≤ k ∧ k < 6) (hc : sp_ck0 (sp_row s k)) (hws : sp_wfs s) (h1 : -99999 ≤ s 1 ∧ s 1 ≤ 99999) (h2 : s (41 + 9 * k + 2) ≤ 8) : mh_M g d yX12_comes cX12_comes 3 none 96 0 0 [.ref 81, .int (Int32.ofInt (k))] h (fun r h2 => r = none ∧ mh_FX h2 ∧ mh_fr [82, 86, 87] h h2 ∧ h2 82 = sp_comes s k) := by
  refine mh_M_of RX12 rfl (by decide +kernel) [some (.ref 81), some (.int (Int32.ofInt (k))), none] rfl (Nat.le_of_ble_eq_true rfl) (fun f F Z hn0 hR => ?_)
  obtain ⟨c0, c1, c2, c3, c4, c5, c6, c7, c8⟩ := hc
  unfold sp_row at c0 c1 c2 c3 c4 c5 c6 c7 c8
  refine mh_aload0 (pc := 0) F dX12_comes_0 ?_
  refine mh_iload1 (pc := 1) F dX12_comes_1 ?_
  refine mh_iconst (pc := 2) F dX12_comes_2 ?_
  refine mh_aload0 (pc := 3) F dX12_comes_3 ?_
  refine mh_iload1 (pc := 4) F dX12_comes_4 ?_
  refine mh_iconst (pc := 5) F dX12_comes_5 ?_
  refine mh_callVp (pc := 6) (As := [.int (Int32.ofInt (k)), .int (Int32.ofInt (2))]) (st := [.int (Int32.ofInt (2)), .int (Int32.ofInt (k)), .ref 81]) F (by omega) (k_its (by omega) hF r82 (by omega) (by omega)) wv_RX12_79_yX12_its dX12_comes_6 sh_81 rfl (by decide) rfl rfl (Nat.le_of_ble_eq_true rfl) ⟨Nat.zero_le _, Nat.zero_le _⟩ ?_
  refine mh_iconst (pc := 9) F dX12_comes_9 ?_
  refine mh_iadd (pc := 10) F dX12_comes_10 ?_
  refine mh_callV0 (pc := 11) (As := [.int (Int32.ofInt (k)), .int (Int32.ofInt (2)), .int (Int32.ofInt ((s (41 + 9 * k + 2)) + 1))]) (st := []) F (by omega) (k_sets (by omega) hF r82 (by omega) (by omega)) wv_RX12_140_yX12_sets dX12_comes_11 sh_81 rfl (by decide) rfl rfl (Nat.le_of_ble_eq_true rfl) ⟨Nat.zero_le _, Nat.zero_le _⟩ (fun r1 h1 q1 => ?_)
  obtain ⟨rfl, F1, fr1, q1_0⟩ := q1
  have fr2 : mh_fr [82] h h1 := (mh_fr.tr mh_fr.rf fr1).mono (by simp)
  obtain ⟨s1, es1⟩ : ∃ z : Int → Int, z = mh_ur s (41 + 9 * k + 2) ((s (41 + 9 * k + 2)) + 1) := ⟨_, rfl⟩
  rw [← es1] at q1_0
  have s1a : s1 (41 + 9 * k + 2) = s (41 + 9 * k + 2) + 1 := by rw [es1]; exact mh_ur_eq rfl
  have s1f : ∀ j, j ≠ 41 + 9 * k + 2 → s1 j = s j := fun j hj => by rw [es1]; exact mh_ur_ne hj
  refine mh_aload0 (pc := 14) F dX12_comes_14 ?_
  refine mh_iload1 (pc := 15) F dX12_comes_15 ?_
  refine mh_iconst (pc := 16) F dX12_comes_16 ?_
  refine mh_callVp (pc := 17) (As := [.int (Int32.ofInt (k)), .int (Int32.ofInt (2))]) (st := []) F (by omega) (k_its (by omega) F1 q1_0 (by omega) (by omega)) wv_RX12_79_yX12_its dX12_comes_17 sh_81 rfl (by decide) rfl rfl (Nat.le_of_ble_eq_true rfl) ⟨Nat.zero_le _, Nat.zero_le _⟩ ?_
  refine mh_bipush (pc := 20) F dX12_comes_20 rfl ?_
  refine mh_icmp_ne (pc := 22) (tgt := 29) F dX12_comes_22 rfl (by omega) (by omega) (fun c_22 => ?_) (fun c_22 => ?_)
  · refine mh_iconst (pc := 29) F dX12_comes_29 ?_
    refine mh_istore2 (pc := 30) F dX12_comes_30 rfl (by decide) ?_
    refine mh_aload0 (pc := 31) F dX12_comes_31 ?_
    refine mh_iload1 (pc := 32) F dX12_comes_32 ?_
    refine mh_iconst (pc := 33) F dX12_comes_33 ?_
    refine mh_iload2 (pc := 34) F dX12_comes_34 ?_
    refine mh_if_eq (pc := 35) (tgt := 42) F dX12_comes_35 rfl (by omega) (fun c_35 => ?_) (fun c_35 => ?_)
    · refine mh_iconst (pc := 42) F dX12_comes_42 ?_
      refine mh_callV0 (pc := 43) (As := [.int (Int32.ofInt (k)), .int (Int32.ofInt (3)), .int (Int32.ofInt (0))]) (st := []) F (by omega) (k_sets (by omega) F1 q1_0 (by omega) (by omega)) wv_RX12_140_yX12_sets dX12_comes_43 sh_81 rfl (by decide) rfl rfl (Nat.le_of_ble_eq_true rfl) ⟨Nat.zero_le _, Nat.zero_le _⟩ (fun r3 h3 q3 => ?_)
      obtain ⟨rfl, F3, fr3, q3_0⟩ := q3
      have fr4 : mh_fr [82] h h3 := (mh_fr.tr fr2 fr3).mono (by simp)
      obtain ⟨s2, es2⟩ : ∃ z : Int → Int, z = mh_ur s1 (41 + 9 * k + 3) 0 := ⟨_, rfl⟩
      rw [← es2] at q3_0
      have s2f : ∀ j, j ≠ 41 + 9 * k + 3 → s2 j = s1 j := fun j hj => by rw [es2]; exact mh_ur_ne hj
      have s25 := (s2f (41 + 9 * k + 5) (by omega)).trans (s1f _ (by omega))
      have s26 := (s2f (41 + 9 * k + 6) (by omega)).trans (s1f _ (by omega))
      have s20 := (s2f (41 + 9 * k + 0) (by omega)).trans (s1f _ (by omega))
      have s21 := (s2f (41 + 9 * k + 1) (by omega)).trans (s1f _ (by omega))
      have s211 := (s2f 1 (by omega)).trans (s1f 1 (by omega))
      have hws : sp_wfs s2 := sp_wfs_same (fun i hi => ((s2f i (by omega)).trans (s1f i (by omega))).symm) hws
      have hwr : 0 ≤ sp_worth s2 k (s2 (41 + 9 * k + 5)) (s2 (41 + 9 * k + 6)) ∧ sp_worth s2 k (s2 (41 + 9 * k + 5)) (s2 (41 + 9 * k + 6)) ≤ 999 := sp_law_rg1
      refine mh_iload2 (pc := 46) F dX12_comes_46 ?_
      refine mh_if_eq (pc := 47) (tgt := 72) F dX12_comes_47 rfl (by omega) (fun c_47 => ?_) (fun c_47 => ?_)
      · exact mh_return F Z dX12_comes_72 ⟨rfl, F3, (fr4.mono (by simp)), (q3_0.trans (by unfold sp_comes; first | (rw [if_pos (by omega), ← es1, ← es2, ← s25, ← s26]) | (rw [if_neg (by omega), ← es1, ← es2])))⟩
      · exact absurd c_47 (by decide)
    · exact absurd c_35 (by decide)
  · refine mh_iconst (pc := 25) F dX12_comes_25 ?_
    refine mh_goto (pc := 26) (tgt := 30) F dX12_comes_26 rfl ?_
    refine mh_istore2 (pc := 30) F dX12_comes_30 rfl (by decide) ?_
    refine mh_aload0 (pc := 31) F dX12_comes_31 ?_
    refine mh_iload1 (pc := 32) F dX12_comes_32 ?_
    refine mh_iconst (pc := 33) F dX12_comes_33 ?_
    refine mh_iload2 (pc := 34) F dX12_comes_34 ?_
    refine mh_if_eq (pc := 35) (tgt := 42) F dX12_comes_35 rfl (by omega) (fun c_35 => ?_) (fun c_35 => ?_)
    · exact absurd c_35 (by decide)
    · refine mh_iconst (pc := 38) F dX12_comes_38 ?_
      refine mh_goto (pc := 39) (tgt := 43) F dX12_comes_39 rfl ?_
      refine mh_callV0 (pc := 43) (As := [.int (Int32.ofInt (k)), .int (Int32.ofInt (3)), .int (Int32.ofInt (3))]) (st := []) F (by omega) (k_sets (by omega) F1 q1_0 (by omega) (by omega)) wv_RX12_140_yX12_sets dX12_comes_43 sh_81 rfl (by decide) rfl rfl (Nat.le_of_ble_eq_true rfl) ⟨Nat.zero_le _, Nat.zero_le _⟩ (fun r5 h5 q5 => ?_)
      obtain ⟨rfl, F5, fr5, q5_0⟩ := q5
      have fr6 : mh_fr [82] h h5 := (mh_fr.tr fr2 fr5).mono (by simp)
      obtain ⟨s2, es2⟩ : ∃ z : Int → Int, z = mh_ur s1 (41 + 9 * k + 3) 3 := ⟨_, rfl⟩
      rw [← es2] at q5_0
      have s2f : ∀ j, j ≠ 41 + 9 * k + 3 → s2 j = s1 j := fun j hj => by rw [es2]; exact mh_ur_ne hj
      have s25 := (s2f (41 + 9 * k + 5) (by omega)).trans (s1f _ (by omega))
      have s26 := (s2f (41 + 9 * k + 6) (by omega)).trans (s1f _ (by omega))
      have s20 := (s2f (41 + 9 * k + 0) (by omega)).trans (s1f _ (by omega))
      have s21 := (s2f (41 + 9 * k + 1) (by omega)).trans (s1f _ (by omega))
      have s211 := (s2f 1 (by omega)).trans (s1f 1 (by omega))
      have hws : sp_wfs s2 := sp_wfs_same (fun i hi => ((s2f i (by omega)).trans (s1f i (by omega))).symm) hws
      have hwr : 0 ≤ sp_worth s2 k (s2 (41 + 9 * k + 5)) (s2 (41 + 9 * k + 6)) ∧ sp_worth s2 k (s2 (41 + 9 * k + 5)) (s2 (41 + 9 * k + 6)) ≤ 999 := sp_law_rg1
      refine mh_iload2 (pc := 46) F dX12_comes_46 ?_
      refine mh_if_eq (pc := 47) (tgt := 72) F dX12_comes_47 rfl (by omega) (fun c_47 => ?_) (fun c_47 => ?_)
      · exact absurd c_47 (by decide)
      · refine mh_aload0 (pc := 50) F dX12_comes_50 ?_
        refine mh_aload0 (pc := 51) F dX12_comes_51 ?_
        refine mh_iload1 (pc := 52) F dX12_comes_52 ?_
        refine mh_aload0 (pc := 53) F dX12_comes_53 ?_
        refine mh_iload1 (pc := 54) F dX12_comes_54 ?_
        refine mh_iconst (pc := 55) F dX12_comes_55 ?_
        refine mh_callVp (pc := 56) (As := [.int (Int32.ofInt (k)), .int (Int32.ofInt (5))]) (st := [.int (Int32.ofInt (k)), .ref 81, .ref 81]) F (by omega) (k_its (by omega) F5 q5_0 (by omega) (by omega)) wv_RX12_79_yX12_its dX12_comes_56 sh_81 rfl (by decide) rfl rfl (Nat.le_of_ble_eq_true rfl) ⟨Nat.zero_le _, Nat.zero_le _⟩ ?_
        refine mh_aload0 (pc := 59) F dX12_comes_59 ?_
        refine mh_iload1 (pc := 60) F dX12_comes_60 ?_
        refine mh_bipush (pc := 61) F dX12_comes_61 rfl ?_
        refine mh_callVp (pc := 63) (As := [.int (Int32.ofInt (k)), .int (Int32.ofInt (6))]) (st := [.int (Int32.ofInt (s2 (41 + 9 * k + 5))), .int (Int32.ofInt (k)), .ref 81, .ref 81]) F (by omega) (k_its (by omega) F5 q5_0 (by omega) (by omega)) wv_RX12_79_yX12_its dX12_comes_63 sh_81 rfl (by decide) rfl rfl (Nat.le_of_ble_eq_true rfl) ⟨Nat.zero_le _, Nat.zero_le _⟩ ?_
        refine mh_callV0 (pc := 66) (As := [.int (Int32.ofInt (k)), .int (Int32.ofInt (s2 (41 + 9 * k + 5))), .int (Int32.ofInt (s2 (41 + 9 * k + 6)))]) (st := [.ref 81]) F (by omega) (k_worth (by omega) F5 q5_0 (by omega) (by omega) (by omega) (by omega) (by omega) hws) wv_RX12_257_yX12_worth dX12_comes_66 sh_81 rfl (by decide) rfl rfl (Nat.le_of_ble_eq_true rfl) ⟨Nat.zero_le _, Nat.zero_le _⟩ (fun r7 h7 q7 => ?_)
        obtain ⟨rfl, F7, fr7⟩ := q7
        have r82_8 : h7 82 = s2 := (fr7 _ (by decide)).trans q5_0
        have fr8 : mh_fr [86, 87, 82] h h7 := (mh_fr.tr fr6 fr7).mono (by simp)
        refine mh_callV0 (pc := 69) (As := [.int (Int32.ofInt (sp_worth s2 k (s2 (41 + 9 * k + 5)) (s2 (41 + 9 * k + 6))))]) (st := []) F (by omega) (k_takes (by omega) F7 r82_8 (by omega) (by omega)) wv_RX12_175_yX12_takes dX12_comes_69 sh_81 rfl (by decide) rfl rfl (Nat.le_of_ble_eq_true rfl) ⟨Nat.zero_le _, Nat.zero_le _⟩ (fun r9 h9 q9 => ?_)
        obtain ⟨rfl, F9, fr9, q9_0⟩ := q9
        have fr10 : mh_fr [86, 87, 82] h h9 := (mh_fr.tr fr8 fr9).mono (by simp)
        exact mh_return F Z dX12_comes_72 ⟨rfl, F9, (fr10.mono (by simp)), (q9_0.trans (by unfold sp_comes; first | (rw [if_pos (by omega), ← es1, ← es2, ← s25, ← s26]) | (rw [if_neg (by omega), ← es1, ← es2])))⟩

set_option maxRecDepth 100000 in
set_option maxHeartbeats 4000000 in
theorem k_goesOn {g : mh_G} {d : Nat} (hd : 7 ≤ d) {h : Nat → Int → Int} (hF : mh_FX h) {s : Int → Int} (r82 : h 82 = s) {k : Int} (hk : 0 ≤ k ∧ k < 6) (hi : sp_inv s) : mh_M g d yX12_goesOn cX12_goesOn 4 none 96 0 0 [.ref 81, .int (Int32.ofInt (k))] h (fun r h2 => r = none ∧ mh_FX h2 ∧ mh_fr [82, 86, 87] h h2 ∧ h2 82 = sp_go s k) := by
  refine mh_M_of RX12 rfl (by decide +kernel) [some (.ref 81), some (.int (Int32.ofInt (k))), none, none] rfl (Nat.le_of_ble_eq_true rfl) (fun f F Z hn0 hR => ?_)
  have hcc := hi.2.2.2.2.1 k hk.1 hk.2
  have hws := hi.2.2.2.2.2
  have hq0 := hi.2.1
  have hs1 := hi.2.2.1
  obtain ⟨hH, hC⟩ := hi.2.2.2.1
  have hcc2 := hcc
  obtain ⟨c0, c1, c2, c3, c4, c5, c6, c7, c8, c9, c10, c11, c12, c13⟩ := hcc2
  unfold sp_row at c0 c1 c2 c3 c4 c5 c6 c7 c8 c9 c10 c11 c12 c13
  refine mh_aload0 (pc := 0) F dX12_goesOn_0 ?_
  refine mh_iload1 (pc := 1) F dX12_goesOn_1 ?_
  refine mh_bipush (pc := 2) F dX12_goesOn_2 rfl ?_
  refine mh_callVp (pc := 4) (As := [.int (Int32.ofInt (k)), .int (Int32.ofInt (8))]) (st := []) F (by omega) (k_its (by omega) hF r82 (by omega) (by omega)) wv_RX12_79_yX12_its dX12_goesOn_4 sh_81 rfl (by decide) rfl rfl (Nat.le_of_ble_eq_true rfl) ⟨Nat.zero_le _, Nat.zero_le _⟩ ?_
  refine mh_iconst (pc := 7) F dX12_goesOn_7 ?_
  refine mh_icmp_eq (pc := 8) (tgt := 31) F dX12_goesOn_8 rfl (by omega) (by omega) (fun c_8 => ?_) (fun c_8 => ?_)
  · exact mh_return F Z dX12_goesOn_31 ⟨rfl, hF, (mh_fr.rf.mono (by simp)), (r82.trans (by unfold sp_go; rw [if_pos (by omega)]))⟩
  · refine mh_aload0 (pc := 11) F dX12_goesOn_11 ?_
    refine mh_iload1 (pc := 12) F dX12_goesOn_12 ?_
    refine mh_iconst (pc := 13) F dX12_goesOn_13 ?_
    refine mh_callVp (pc := 14) (As := [.int (Int32.ofInt (k)), .int (Int32.ofInt (3))]) (st := []) F (by omega) (k_its (by omega) hF r82 (by omega) (by omega)) wv_RX12_79_yX12_its dX12_goesOn_14 sh_81 rfl (by decide) rfl rfl (Nat.le_of_ble_eq_true rfl) ⟨Nat.zero_le _, Nat.zero_le _⟩ ?_
    refine mh_iconst (pc := 17) F dX12_goesOn_17 ?_
    refine mh_icmp_eq (pc := 18) (tgt := 31) F dX12_goesOn_18 rfl (by omega) (by omega) (fun c_18 => ?_) (fun c_18 => ?_)
    · exact mh_return F Z dX12_goesOn_31 ⟨rfl, hF, (mh_fr.rf.mono (by simp)), (r82.trans (by unfold sp_go; rw [if_pos (by omega)]))⟩
    · refine mh_aload0 (pc := 21) F dX12_goesOn_21 ?_
      refine mh_iload1 (pc := 22) F dX12_goesOn_22 ?_
      refine mh_iconst (pc := 23) F dX12_goesOn_23 ?_
      refine mh_callVp (pc := 24) (As := [.int (Int32.ofInt (k)), .int (Int32.ofInt (3))]) (st := []) F (by omega) (k_its (by omega) hF r82 (by omega) (by omega)) wv_RX12_79_yX12_its dX12_goesOn_24 sh_81 rfl (by decide) rfl rfl (Nat.le_of_ble_eq_true rfl) ⟨Nat.zero_le _, Nat.zero_le _⟩ ?_
      refine mh_iconst (pc := 27) F dX12_goesOn_27 ?_
      refine mh_icmp_ne (pc := 28) (tgt := 32) F dX12_goesOn_28 rfl (by omega) (by omega) (fun c_28 => ?_) (fun c_28 => ?_)
      · have hh := (hH (s (41 + 9 * k + 2)) (by omega) (by omega)).1
        have hwm : 0 ≤ sp_warm s (s (41 + 9 * k + 2)) (s 0) ∧ sp_warm s (s (41 + 9 * k + 2)) (s 0) ≤ 40 := sp_law_rg0
        have hq5 := sp_warms_rg (k := s (41 + 9 * k + 0)) c1 hwm
        refine mh_aload0 (pc := 32) F dX12_goesOn_32 ?_
        refine mh_iload1 (pc := 33) F dX12_goesOn_33 ?_
        refine mh_iconst (pc := 34) F dX12_goesOn_34 ?_
        refine mh_callVp (pc := 35) (As := [.int (Int32.ofInt (k)), .int (Int32.ofInt (0))]) (st := []) F (by omega) (k_its (by omega) hF r82 (by omega) (by omega)) wv_RX12_79_yX12_its dX12_goesOn_35 sh_81 rfl (by decide) rfl rfl (Nat.le_of_ble_eq_true rfl) ⟨Nat.zero_le _, Nat.zero_le _⟩ ?_
        refine mh_istore2 (pc := 38) F dX12_goesOn_38 rfl (by decide) ?_
        refine mh_aload0 (pc := 39) F dX12_goesOn_39 ?_
        refine mh_iload1 (pc := 40) F dX12_goesOn_40 ?_
        refine mh_iconst (pc := 41) F dX12_goesOn_41 ?_
        refine mh_callVp (pc := 42) (As := [.int (Int32.ofInt (k)), .int (Int32.ofInt (1))]) (st := []) F (by omega) (k_its (by omega) hF r82 (by omega) (by omega)) wv_RX12_79_yX12_its dX12_goesOn_42 sh_81 rfl (by decide) rfl rfl (Nat.le_of_ble_eq_true rfl) ⟨Nat.zero_le _, Nat.zero_le _⟩ ?_
        refine mh_istore3 (pc := 45) F dX12_goesOn_45 rfl (by decide) ?_
        refine mh_aload0 (pc := 46) F dX12_goesOn_46 ?_
        refine mh_iload1 (pc := 47) F dX12_goesOn_47 ?_
        refine mh_iload2 (pc := 48) F dX12_goesOn_48 ?_
        refine mh_iload3 (pc := 49) F dX12_goesOn_49 ?_
        refine mh_aload0 (pc := 50) F dX12_goesOn_50 ?_
        refine mh_aload0 (pc := 51) F dX12_goesOn_51 ?_
        refine mh_iload1 (pc := 52) F dX12_goesOn_52 ?_
        refine mh_iconst (pc := 53) F dX12_goesOn_53 ?_
        refine mh_callVp (pc := 54) (As := [.int (Int32.ofInt (k)), .int (Int32.ofInt (2))]) (st := [.ref 81, .int (Int32.ofInt (s (41 + 9 * k + 1))), .int (Int32.ofInt (s (41 + 9 * k + 0))), .int (Int32.ofInt (k)), .ref 81]) F (by omega) (k_its (by omega) hF r82 (by omega) (by omega)) wv_RX12_79_yX12_its dX12_goesOn_54 sh_81 rfl (by decide) rfl rfl (Nat.le_of_ble_eq_true rfl) ⟨Nat.zero_le _, Nat.zero_le _⟩ ?_
        refine mh_aload0 (pc := 57) F dX12_goesOn_57 ?_
        refine mh_getr (b := 82) (pc := 58) F sh_81 (by decide) fw_RX12_9_12 dX12_goesOn_58 rfl (fx_81_0 hF) ?_
        refine mh_iconst (pc := 61) F dX12_goesOn_61 ?_
        refine mh_ialoadr (pc := 62) F sh_82 (by decide) (by omega) dX12_goesOn_62 r82 ?_
        refine mh_callV0 (pc := 63) (As := [.int (Int32.ofInt (s (41 + 9 * k + 2))), .int (Int32.ofInt (s 0))]) (st := [.int (Int32.ofInt (s (41 + 9 * k + 1))), .int (Int32.ofInt (s (41 + 9 * k + 0))), .int (Int32.ofInt (k)), .ref 81]) F (by omega) (k_warm (by omega) hF r82 (by omega) (by omega) (by omega) hws) wv_RX12_122_yX12_warm dX12_goesOn_63 sh_81 rfl (by decide) rfl rfl (Nat.le_of_ble_eq_true rfl) ⟨Nat.zero_le _, Nat.zero_le _⟩ (fun r1 h1 q1 => ?_)
        obtain ⟨rfl, F1, fr1⟩ := q1
        have r82_2 : h1 82 = s := (fr1 _ (by decide)).trans r82
        have fr2 : mh_fr [86, 87] h h1 := (mh_fr.tr mh_fr.rf fr1).mono (by simp)
        refine mh_callSp (pc := 66) (As := [.int (Int32.ofInt (s (41 + 9 * k + 0))), .int (Int32.ofInt (s (41 + 9 * k + 1))), .int (Int32.ofInt (sp_warm s (s (41 + 9 * k + 2)) (s 0)))]) (st := [.int (Int32.ofInt (k)), .ref 81]) F (by omega) (k_warms (by omega) (by omega) (by omega) (by omega)) ws_RX12_242 dX12_goesOn_66 rfl rfl (Nat.le_of_ble_eq_true rfl) ⟨Nat.zero_le _, Nat.zero_le _⟩ ?_
        refine mh_callV0 (pc := 69) (As := [.int (Int32.ofInt (k)), .int (Int32.ofInt (sp_warms (s (41 + 9 * k + 0)) (s (41 + 9 * k + 1)) (sp_warm s (s (41 + 9 * k + 2)) (s 0))))]) (st := []) F (by omega) (k_sours (by omega) F1 r82_2 (by omega) (by omega) (by omega)) wv_RX12_245_yX12_sours dX12_goesOn_69 sh_81 rfl (by decide) rfl rfl (Nat.le_of_ble_eq_true rfl) ⟨Nat.zero_le _, Nat.zero_le _⟩ (fun r3 h3 q3 => ?_)
        obtain ⟨rfl, F3, fr3, q3_0⟩ := q3
        have fr4 : mh_fr [82, 86, 87] h h3 := (mh_fr.tr fr2 fr3).mono (by simp)
        obtain ⟨s1, es1⟩ : ∃ z : Int → Int, z = sp_sours s k (sp_warms (s (41 + 9 * k + 0)) (s (41 + 9 * k + 1)) (sp_warm s (s (41 + 9 * k + 2)) (s 0))) := ⟨_, rfl⟩
        rw [← es1] at q3_0
        have s1f : ∀ j, j ≠ 41 + 9 * k + 5 → s1 j = s j := fun j hj => by rw [es1]; exact mh_ur_ne hj
        have s1e : s1 (41 + 9 * k + 5) = sp_held (s (41 + 9 * k + 5) + sp_q5 s k) 0 9999 := by rw [es1]; exact mh_ur_eq rfl
        have s1r : 0 ≤ s1 (41 + 9 * k + 5) ∧ s1 (41 + 9 * k + 5) ≤ 9999 := by rw [s1e]; exact sp_held_rg (by decide)
        have s1_0 := s1f (41 + 9 * k + 0) (by omega)
        have s1_1 := s1f (41 + 9 * k + 1) (by omega)
        have s1_2 := s1f (41 + 9 * k + 2) (by omega)
        have s1_3 := s1f (41 + 9 * k + 3) (by omega)
        have s1_4 := s1f (41 + 9 * k + 4) (by omega)
        have s1_6 := s1f (41 + 9 * k + 6) (by omega)
        have s1_7 := s1f (41 + 9 * k + 7) (by omega)
        have s1_8 := s1f (41 + 9 * k + 8) (by omega)
        have s1sh := s1f (33 + 2 * s (41 + 9 * k + 7) + 1) (by omega)
        refine mh_aload0 (pc := 72) F dX12_goesOn_72 ?_
        refine mh_iload1 (pc := 73) F dX12_goesOn_73 ?_
        refine mh_iconst (pc := 74) F dX12_goesOn_74 ?_
        refine mh_callVp (pc := 75) (As := [.int (Int32.ofInt (k)), .int (Int32.ofInt (3))]) (st := []) F (by omega) (k_its (by omega) F3 q3_0 (by omega) (by omega)) wv_RX12_79_yX12_its dX12_goesOn_75 sh_81 rfl (by decide) rfl rfl (Nat.le_of_ble_eq_true rfl) ⟨Nat.zero_le _, Nat.zero_le _⟩ ?_
        refine mh_iconst (pc := 78) F dX12_goesOn_78 ?_
        refine mh_icmp_ne (pc := 79) (tgt := 148) F dX12_goesOn_79 rfl (by omega) (by omega) (fun c_79 => ?_) (fun c_79 => ?_)
        · exact mh_return F Z dX12_goesOn_148 ⟨rfl, F3, (fr4.mono (by simp)), (q3_0.trans (by unfold sp_go; rw [if_neg (by omega), if_pos (by omega), es1]; rfl))⟩
        · have s1shx : s1 (33 + 2 * s1 (41 + 9 * k + 7) + 1) = s (33 + 2 * s (41 + 9 * k + 7) + 1) := by rw [s1_7]; exact s1sh
          have hsh := (hC (s (41 + 9 * k + 7)) (by omega) (by omega)).2
          have hjl := sp_jolts_rg (k := s (41 + 9 * k + 0)) c1 hsh
          rw [← s1shx] at hjl
          have hq6 : 0 ≤ sp_q6 s k ∧ sp_q6 s k ≤ 9999 := sp_held_rg (by decide)
          refine mh_aload0 (pc := 82) F dX12_goesOn_82 ?_
          refine mh_iload1 (pc := 83) F dX12_goesOn_83 ?_
          refine mh_bipush (pc := 84) F dX12_goesOn_84 rfl ?_
          refine mh_aload0 (pc := 86) F dX12_goesOn_86 ?_
          refine mh_iload1 (pc := 87) F dX12_goesOn_87 ?_
          refine mh_bipush (pc := 88) F dX12_goesOn_88 rfl ?_
          refine mh_callVp (pc := 90) (As := [.int (Int32.ofInt (k)), .int (Int32.ofInt (6))]) (st := [.int (Int32.ofInt (6)), .int (Int32.ofInt (k)), .ref 81]) F (by omega) (k_its (by omega) F3 q3_0 (by omega) (by omega)) wv_RX12_79_yX12_its dX12_goesOn_90 sh_81 rfl (by decide) rfl rfl (Nat.le_of_ble_eq_true rfl) ⟨Nat.zero_le _, Nat.zero_le _⟩ ?_
          refine mh_iload2 (pc := 93) F dX12_goesOn_93 ?_
          refine mh_iload3 (pc := 94) F dX12_goesOn_94 ?_
          refine mh_aload0 (pc := 95) F dX12_goesOn_95 ?_
          refine mh_aload0 (pc := 96) F dX12_goesOn_96 ?_
          refine mh_iload1 (pc := 97) F dX12_goesOn_97 ?_
          refine mh_bipush (pc := 98) F dX12_goesOn_98 rfl ?_
          refine mh_callVp (pc := 100) (As := [.int (Int32.ofInt (k)), .int (Int32.ofInt (7))]) (st := [.ref 81, .int (Int32.ofInt (s (41 + 9 * k + 1))), .int (Int32.ofInt (s (41 + 9 * k + 0))), .int (Int32.ofInt (s1 (41 + 9 * k + 6))), .int (Int32.ofInt (6)), .int (Int32.ofInt (k)), .ref 81]) F (by omega) (k_its (by omega) F3 q3_0 (by omega) (by omega)) wv_RX12_79_yX12_its dX12_goesOn_100 sh_81 rfl (by decide) rfl rfl (Nat.le_of_ble_eq_true rfl) ⟨Nat.zero_le _, Nat.zero_le _⟩ ?_
          refine mh_callVp (pc := 103) (As := [.int (Int32.ofInt (s1 (41 + 9 * k + 7)))]) (st := [.int (Int32.ofInt (s (41 + 9 * k + 1))), .int (Int32.ofInt (s (41 + 9 * k + 0))), .int (Int32.ofInt (s1 (41 + 9 * k + 6))), .int (Int32.ofInt (6)), .int (Int32.ofInt (k)), .ref 81]) F (by omega) (k_shake (by omega) F3 q3_0 (by omega)) wv_RX12_248_yX12_shake dX12_goesOn_103 sh_81 rfl (by decide) rfl rfl (Nat.le_of_ble_eq_true rfl) ⟨Nat.zero_le _, Nat.zero_le _⟩ ?_
          refine mh_callSp (pc := 106) (As := [.int (Int32.ofInt (s (41 + 9 * k + 0))), .int (Int32.ofInt (s (41 + 9 * k + 1))), .int (Int32.ofInt (s1 (33 + 2 * (s1 (41 + 9 * k + 7)) + 1)))]) (st := [.int (Int32.ofInt (s1 (41 + 9 * k + 6))), .int (Int32.ofInt (6)), .int (Int32.ofInt (k)), .ref 81]) F (by omega) (k_jolts (by omega) (by omega) (by omega) (by omega)) ws_RX12_251 dX12_goesOn_106 rfl rfl (Nat.le_of_ble_eq_true rfl) ⟨Nat.zero_le _, Nat.zero_le _⟩ ?_
          refine mh_iadd (pc := 109) F dX12_goesOn_109 ?_
          refine mh_iconst (pc := 110) F dX12_goesOn_110 ?_
          refine mh_sipush (pc := 111) F dX12_goesOn_111 rfl ?_
          refine mh_callSp (pc := 114) (As := [.int (Int32.ofInt ((s1 (41 + 9 * k + 6)) + (sp_jolts (s (41 + 9 * k + 0)) (s (41 + 9 * k + 1)) (s1 (33 + 2 * (s1 (41 + 9 * k + 7)) + 1))))), .int (Int32.ofInt (0)), .int (Int32.ofInt (9999))]) (st := [.int (Int32.ofInt (6)), .int (Int32.ofInt (k)), .ref 81]) F (by omega) (k_held (by omega) (by omega) (by omega) (by omega)) ws_RX12_95 dX12_goesOn_114 rfl rfl (Nat.le_of_ble_eq_true rfl) ⟨Nat.zero_le _, Nat.zero_le _⟩ ?_
          refine mh_callV0 (pc := 117) (As := [.int (Int32.ofInt (k)), .int (Int32.ofInt (6)), .int (Int32.ofInt (sp_held ((s1 (41 + 9 * k + 6)) + (sp_jolts (s (41 + 9 * k + 0)) (s (41 + 9 * k + 1)) (s1 (33 + 2 * (s1 (41 + 9 * k + 7)) + 1)))) (0) (9999)))]) (st := []) F (by omega) (k_sets (by omega) F3 q3_0 (by omega) (by omega)) wv_RX12_140_yX12_sets dX12_goesOn_117 sh_81 rfl (by decide) rfl rfl (Nat.le_of_ble_eq_true rfl) ⟨Nat.zero_le _, Nat.zero_le _⟩ (fun r5 h5 q5 => ?_)
          obtain ⟨rfl, F5, fr5, q5_0⟩ := q5
          have fr6 : mh_fr [82, 86, 87] h h5 := (mh_fr.tr fr4 fr5).mono (by simp)
          obtain ⟨s2, es2⟩ : ∃ z : Int → Int, z = mh_ur s1 (41 + 9 * k + 6) (sp_held ((s1 (41 + 9 * k + 6)) + (sp_jolts (s (41 + 9 * k + 0)) (s (41 + 9 * k + 1)) (s1 (33 + 2 * (s1 (41 + 9 * k + 7)) + 1)))) (0) (9999)) := ⟨_, rfl⟩
          rw [← es2] at q5_0
          have s2f : ∀ j, j ≠ 41 + 9 * k + 6 → s2 j = s1 j := fun j hj => by rw [es2]; exact mh_ur_ne hj
          have s2e : s2 (41 + 9 * k + 6) = sp_q6 s k := by rw [es2]; refine (mh_ur_eq rfl).trans ?_; unfold sp_q6; rw [s1_6, s1_7, s1sh]
          have s2_0 := s2f (41 + 9 * k + 0) (by omega)
          have s2_1 := s2f (41 + 9 * k + 1) (by omega)
          have s2_2 := s2f (41 + 9 * k + 2) (by omega)
          have s2_3 := s2f (41 + 9 * k + 3) (by omega)
          have s2_4 := s2f (41 + 9 * k + 4) (by omega)
          have s2_5 := s2f (41 + 9 * k + 5) (by omega)
          have s2_7 := s2f (41 + 9 * k + 7) (by omega)
          have s2_8 := s2f (41 + 9 * k + 8) (by omega)
          refine mh_aload0 (pc := 120) F dX12_goesOn_120 ?_
          refine mh_iload1 (pc := 121) F dX12_goesOn_121 ?_
          refine mh_iconst (pc := 122) F dX12_goesOn_122 ?_
          refine mh_aload0 (pc := 123) F dX12_goesOn_123 ?_
          refine mh_iload1 (pc := 124) F dX12_goesOn_124 ?_
          refine mh_iconst (pc := 125) F dX12_goesOn_125 ?_
          refine mh_callVp (pc := 126) (As := [.int (Int32.ofInt (k)), .int (Int32.ofInt (4))]) (st := [.int (Int32.ofInt (4)), .int (Int32.ofInt (k)), .ref 81]) F (by omega) (k_its (by omega) F5 q5_0 (by omega) (by omega)) wv_RX12_79_yX12_its dX12_goesOn_126 sh_81 rfl (by decide) rfl rfl (Nat.le_of_ble_eq_true rfl) ⟨Nat.zero_le _, Nat.zero_le _⟩ ?_
          refine mh_iconst (pc := 129) F dX12_goesOn_129 ?_
          refine mh_isub (pc := 130) F dX12_goesOn_130 ?_
          refine mh_callV0 (pc := 131) (As := [.int (Int32.ofInt (k)), .int (Int32.ofInt (4)), .int (Int32.ofInt ((s2 (41 + 9 * k + 4)) - 1))]) (st := []) F (by omega) (k_sets (by omega) F5 q5_0 (by omega) (by omega)) wv_RX12_140_yX12_sets dX12_goesOn_131 sh_81 rfl (by decide) rfl rfl (Nat.le_of_ble_eq_true rfl) ⟨Nat.zero_le _, Nat.zero_le _⟩ (fun r7 h7 q7 => ?_)
          obtain ⟨rfl, F7, fr7, q7_0⟩ := q7
          have fr8 : mh_fr [82, 86, 87] h h7 := (mh_fr.tr fr6 fr7).mono (by simp)
          obtain ⟨s3, es3⟩ : ∃ z : Int → Int, z = mh_ur s2 (41 + 9 * k + 4) ((s2 (41 + 9 * k + 4)) - 1) := ⟨_, rfl⟩
          rw [← es3] at q7_0
          have s3f : ∀ j, j ≠ 41 + 9 * k + 4 → s3 j = s2 j := fun j hj => by rw [es3]; exact mh_ur_ne hj
          have s3e : s3 (41 + 9 * k + 4) = s (41 + 9 * k + 4) - 1 := by rw [es3]; refine (mh_ur_eq rfl).trans ?_; rw [s2_4, s1_4]
          have s3_0 := s3f (41 + 9 * k + 0) (by omega)
          have s3_1 := s3f (41 + 9 * k + 1) (by omega)
          have s3_2 := s3f (41 + 9 * k + 2) (by omega)
          have s3_3 := s3f (41 + 9 * k + 3) (by omega)
          have s3_5 := s3f (41 + 9 * k + 5) (by omega)
          have s3_6 := s3f (41 + 9 * k + 6) (by omega)
          have s3_7 := s3f (41 + 9 * k + 7) (by omega)
          have s3_8 := s3f (41 + 9 * k + 8) (by omega)
          have s3f1 : s3 1 = s 1 := by rw [s3f 1 (by omega), s2f 1 (by omega), s1f 1 (by omega)]
          refine mh_aload0 (pc := 134) F dX12_goesOn_134 ?_
          refine mh_iload1 (pc := 135) F dX12_goesOn_135 ?_
          refine mh_iconst (pc := 136) F dX12_goesOn_136 ?_
          refine mh_callVp (pc := 137) (As := [.int (Int32.ofInt (k)), .int (Int32.ofInt (4))]) (st := []) F (by omega) (k_its (by omega) F7 q7_0 (by omega) (by omega)) wv_RX12_79_yX12_its dX12_goesOn_137 sh_81 rfl (by decide) rfl rfl (Nat.le_of_ble_eq_true rfl) ⟨Nat.zero_le _, Nat.zero_le _⟩ ?_
          refine mh_if_ne (pc := 140) (tgt := 148) F dX12_goesOn_140 rfl (by omega) (fun c_140 => ?_) (fun c_140 => ?_)
          · exact mh_return F Z dX12_goesOn_148 ⟨rfl, F7, (fr8.mono (by simp)), (q7_0.trans (by have z3 : s3 = mh_ur (mh_ur (sp_sours s k (sp_q5 s k)) (41 + 9 * k + 6) (sp_q6 s k)) (41 + 9 * k + 4) (s (41 + 9 * k + 4) - 1) := (by rw [es3, s2_4, s1_4, es2, show sp_held (s1 (41 + 9 * k + 6) + sp_jolts (s (41 + 9 * k + 0)) (s (41 + 9 * k + 1)) (s1 (33 + 2 * s1 (41 + 9 * k + 7) + 1))) 0 9999 = sp_q6 s k by (unfold sp_q6; rw [s1_6, s1_7, s1sh]), es1]; rfl); unfold sp_go; rw [if_neg (by omega), if_neg (by omega), if_pos (by omega)]; exact z3))⟩
          · have zHWS : sp_wfs s3 := sp_wfs_same (fun i hi => by rw [s3f i (by omega), s2f i (by omega), s1f i (by omega)]) hws
            have zHC : sp_ck0 (sp_row s3 k) := by
              unfold sp_ck0 sp_row
              omega
            refine mh_aload0 (pc := 143) F dX12_goesOn_143 ?_
            refine mh_iload1 (pc := 144) F dX12_goesOn_144 ?_
            refine mh_callV0 (pc := 145) (As := [.int (Int32.ofInt (k))]) (st := []) F (by omega) (k_comes (by omega) F7 q7_0 (by omega) zHC zHWS (by omega) (by omega)) wv_RX12_254_yX12_comes dX12_goesOn_145 sh_81 rfl (by decide) rfl rfl (Nat.le_of_ble_eq_true rfl) ⟨Nat.zero_le _, Nat.zero_le _⟩ (fun r9 h9 q9 => ?_)
            obtain ⟨rfl, F9, fr9, q9_0⟩ := q9
            have fr10 : mh_fr [82, 86, 87] h h9 := (mh_fr.tr fr8 fr9).mono (by simp)
            exact mh_return F Z dX12_goesOn_148 ⟨rfl, F9, (fr10.mono (by simp)), (q9_0.trans (by have z3 : s3 = mh_ur (mh_ur (sp_sours s k (sp_q5 s k)) (41 + 9 * k + 6) (sp_q6 s k)) (41 + 9 * k + 4) (s (41 + 9 * k + 4) - 1) := (by rw [es3, s2_4, s1_4, es2, show sp_held (s1 (41 + 9 * k + 6) + sp_jolts (s (41 + 9 * k + 0)) (s (41 + 9 * k + 1)) (s1 (33 + 2 * s1 (41 + 9 * k + 7) + 1))) 0 9999 = sp_q6 s k by (unfold sp_q6; rw [s1_6, s1_7, s1sh]), es1]; rfl); unfold sp_go; rw [if_neg (by omega), if_neg (by omega), if_neg (by omega), ← z3]))⟩
      · exact mh_return F Z dX12_goesOn_31 ⟨rfl, hF, (mh_fr.rf.mono (by simp)), (r82.trans (by unfold sp_go; rw [if_pos (by omega)]))⟩

