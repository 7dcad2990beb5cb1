/-! what the public acts answer and leave: answer, the row, the errors told -/
def sp_er (s er : Int → Int) (k : Int) : Int × (Int → Int) × (Int → Int) := (-1000000000 - k, s, mh_ur er k (er k + 1))
def sp_inB (s : Int → Int) (x : Int) : Int := sp_cnt (fun j => decide (s (41 + 9 * j + 3) = 1 ∧ s (41 + 9 * j + 2) = x)) (s 3).toNat
theorem sp_inB_rg {s : Int → Int} (hm : 0 ≤ s 3 ∧ s 3 ≤ 6) (x : Int) : 0 ≤ sp_inB s x ∧ sp_inB s x ≤ 6 := by
  have := sp_cnt_rg (fun j => decide (s (41 + 9 * j + 3) = 1 ∧ s (41 + 9 * j + 2) = x)) (s 3).toNat
  unfold sp_inB; omega
def sp_bok (s : Int → Int) : Prop := ∀ j, 0 ≤ j → j < 6 → (0 ≤ s (41 + 9 * j + 2) ∧ s (41 + 9 * j + 2) ≤ 9) ∧ (0 ≤ s (41 + 9 * j + 3) ∧ s (41 + 9 * j + 3) ≤ 3)
theorem sp_inv_b {s : Int → Int} (h : sp_inv s) : sp_bok s := fun j j0 j1 => by
  have := h.2.2.2.2.1 j j0 j1
  exact ⟨this.2.2.1, this.2.2.2.1⟩
theorem k_inB {g : mh_G} {d : Nat} (hd : 2 ≤ d) {h : Nat → Int → Int} (hF : mh_FX h) {s : Int → Int} (r82 : h 82 = s) {x : Int} (hm : 0 ≤ s 3 ∧ s 3 ≤ 6) (hx : -2147483648 ≤ x ∧ x < 2147483648) (hc : sp_bok s) : mh_MP g d yX12_inBrook cX12_inBrook 4 (some .int) 96 [.ref 81, .int (Int32.ofInt x)] h (some (.int (Int32.ofInt (sp_inB s x)))) := k_inBrook hd hF r82 hm hx hc
def sp_most (w : Int) : Int := if w = 0 then 40 else if w = 1 then 3 else 99
def sp_hill (a w v : Int) (s er : Int → Int) : Int × (Int → Int) × (Int → Int) :=
  if ¬ ((0 ≤ a ∧ a ≤ 8) ∧ (0 ≤ w ∧ w ≤ 2) ∧ (0 ≤ v ∧ v ≤ sp_most w)) then sp_er s er 1
  else if w = 1 ∧ v < sp_inB s a then sp_er s er 3
  else (s (6 + 3 * a + w), mh_ur s (6 + 3 * a + w) v, er)
def sp_ofHill (a w : Int) (s er : Int → Int) : Int × (Int → Int) × (Int → Int) :=
  if ¬ ((0 ≤ a ∧ a ≤ 8) ∧ (0 ≤ w ∧ w ≤ 4)) then sp_er s er 1
  else (if w < 3 then s (6 + 3 * a + w) else if w = 3 then sp_inB s a else sp_warm s a (s 0), s, er)
def sp_carrier (c p k : Int) (s er : Int → Int) : Int × (Int → Int) × (Int → Int) :=
  if ¬ ((0 ≤ c ∧ c ≤ 3) ∧ (1 ≤ p ∧ p ≤ 9) ∧ (0 ≤ k ∧ k ≤ 20)) then sp_er s er 1
  else (10 * s (33 + 2 * c), mh_ur (mh_ur s (33 + 2 * c) p) (33 + 2 * c + 1) k, er)
def sp_anew (s : Int → Int) (k : Int) : Int → Int := fun i => if 41 + 9 * k + 2 ≤ i ∧ i ≤ 41 + 9 * k + 8 then 0 else s i
def sp_churn (x : Int) (s er : Int → Int) : Int × (Int → Int) × (Int → Int) :=
  if ¬ (0 ≤ x ∧ x ≤ 69) then sp_er s er 1
  else if s 3 = 6 then sp_er s er 4
  else (s 3, sp_anew (mh_ur (mh_ur (mh_ur s 3 (s 3 + 1)) (41 + 9 * s 3 + 0) (x.tdiv 10)) (41 + 9 * s 3 + 1) (x.tmod 10)) (s 3), er)
def sp_told (s : Int → Int) (k w : Int) : Int := if w = 4 then (if s (41 + 9 * k + 3) = 2 then s (41 + 9 * k + 4) else 0) else if w = 7 then sp_stm s k else if w = 8 then sp_turns (s (41 + 9 * k + 0)) (s (41 + 9 * k + 1)) else if w = 9 then (if s (41 + 9 * k + 3) = 2 then s (41 + 9 * k + 7) else -1) else s (41 + 9 * k + w)
def sp_ofChurn (k w : Int) (s er : Int → Int) : Int × (Int → Int) × (Int → Int) :=
  if ¬ ((0 ≤ k ∧ k ≤ s 3 - 1) ∧ (0 ≤ w ∧ w ≤ 9)) then sp_er s er 1 else (sp_told s k w, s, er)
def sp_become (k x : Int) (s er : Int → Int) : Int × (Int → Int) × (Int → Int) :=
  if ¬ ((0 ≤ k ∧ k ≤ s 3 - 1) ∧ (0 ≤ x ∧ x ≤ 69)) then sp_er s er 1
  else (s (41 + 9 * k + 0), mh_ur (mh_ur s (41 + 9 * k + 0) (x.tdiv 10)) (41 + 9 * k + 1) (x.tmod 10), er)
def sp_above (k : Int) : Int := if k = 4 then 1 else if k = 5 then 2 else if k = 6 then 3 else 0
def sp_as (k x : Int) (s er : Int → Int) : Int × (Int → Int) × (Int → Int) :=
  if ¬ ((0 ≤ k ∧ k ≤ s 3 - 1) ∧ (0 ≤ x ∧ x ≤ 6)) then sp_er s er 1
  else if ¬ (x = 0 ∨ s (41 + 9 * k + 0) = x ∨ sp_above (s (41 + 9 * k + 0)) = x) then sp_er s er 5 else (s (41 + 9 * k + 1), s, er)
def sp_leaves (s : Int → Int) (k c : Int) : Int → Int := mh_ur (mh_ur (mh_ur s (41 + 9 * k + 3) 2) (41 + 9 * k + 4) (s (33 + 2 * c))) (41 + 9 * k + 7) c
def sp_stands (s : Int → Int) (k : Int) : Prop := s (41 + 9 * k + 3) < 2 ∧ s (41 + 9 * k + 8) = 0
def sp_goP (k c : Int) (s er : Int → Int) : Int × (Int → Int) × (Int → Int) :=
  if ¬ ((0 ≤ k ∧ k ≤ s 3 - 1) ∧ (0 ≤ c ∧ c ≤ 3)) then sp_er s er 1
  else if ¬ (s (41 + 9 * k + 3) < 2 ∧ s (41 + 9 * k + 8) = 0) then sp_er s er 3
  else (s (33 + 2 * c), sp_leaves s k c, er)
def sp_brook (k : Int) (s er : Int → Int) : Int × (Int → Int) × (Int → Int) :=
  if ¬ (0 ≤ k ∧ k ≤ s 3 - 1) then sp_er s er 1
  else if ¬ (s (41 + 9 * k + 3) < 2 ∧ s (41 + 9 * k + 8) = 0) ∨ s (41 + 9 * k + 3) = 1 then sp_er s er 3
  else if sp_inB s (s (41 + 9 * k + 2)) = s (6 + 3 * s (41 + 9 * k + 2) + 1) then sp_er s er 4
  else (sp_inB (mh_ur s (41 + 9 * k + 3) 1) (s (41 + 9 * k + 2)), mh_ur s (41 + 9 * k + 3) 1, er)
def sp_rest (k : Int) (s er : Int → Int) : Int × (Int → Int) × (Int → Int) :=
  if ¬ (0 ≤ k ∧ k ≤ s 3 - 1) then sp_er s er 1
  else if s (41 + 9 * k + 3) ≠ 1 then sp_er s er 3
  else (sp_inB (mh_ur s (41 + 9 * k + 3) 0) (s (41 + 9 * k + 2)), mh_ur s (41 + 9 * k + 3) 0, er)
def sp_giveUp (k : Int) (s er : Int → Int) : Int × (Int → Int) × (Int → Int) :=
  if ¬ (0 ≤ k ∧ k ≤ s 3 - 1) then sp_er s er 1
  else if ¬ (s (41 + 9 * k + 3) < 2 ∧ s (41 + 9 * k + 8) = 0) then sp_er s er 3
  else (sp_cheese s (s (41 + 9 * k + 2)) (s (41 + 9 * k + 5)), sp_takes (mh_ur (mh_ur s (41 + 9 * k + 3) 0) (41 + 9 * k + 8) 1) (sp_cheese s (s (41 + 9 * k + 2)) (s (41 + 9 * k + 5))), er)
def sp_refill (k : Int) (s er : Int → Int) : Int × (Int → Int) × (Int → Int) :=
  if ¬ (0 ≤ k ∧ k ≤ s 3 - 1) then sp_er s er 1 else (s (41 + 9 * k + 3), sp_anew s k, er)
def sp_lawP (u a b c : Int) (s er : Int → Int) : Int × (Int → Int) × (Int → Int) :=
  if ¬ (0 ≤ u ∧ u ≤ 1) then sp_er s er 1 else (sp_law s u a b c, s, er)
def sp_quarters (n : Int) (s er : Int → Int) : Int × (Int → Int) × (Int → Int) :=
  if ¬ (1 ≤ n ∧ n ≤ 300) then sp_er s er 1
  else if 9999 < s 0 + n then sp_er s er 3 else (sp_aqs s n.toNat 1, sp_aqs s n.toNat, er)
theorem k_most {g : mh_G} {d : Nat} (hd : 1 ≤ d) {h : Nat → Int → Int} {x : Int} (hx : -2147483648 ≤ x ∧ x < 2147483648) : mh_MP g d yX12_mostOf cX12_mostOf 1 (some .int) 96 [.int (Int32.ofInt x)] h (some (.int (Int32.ofInt (sp_most x)))) := k_mostOf hd hx
theorem sp_most_rg (w : Int) : 3 ≤ sp_most w ∧ sp_most w ≤ 99 := by unfold sp_most; repeat' split <;> omega
theorem k_above {g : mh_G} {d : Nat} (hd : 1 ≤ d) {h : Nat → Int → Int} {k : Int} (hk : 0 ≤ k ∧ k ≤ 6) : mh_MP g d yX12_aboveOf cX12_aboveOf 1 (some .int) 96 [.int (Int32.ofInt k)] h (some (.int (Int32.ofInt (sp_above k)))) := k_aboveOf hd hk
theorem sp_above_rg (w : Int) : 0 ≤ sp_above w ∧ sp_above w ≤ 3 := by unfold sp_above; repeat' split <;> omega
set_option maxRecDepth 100000 in
set_option maxHeartbeats 4000000 in
theorem p_hill {g : mh_G} {d : Nat} (hd : 9 ≤ d) {h : Nat → Int → Int} (hF : mh_FX h) {s : Int → Int} (r82 : h 82 = s) {er : Int → Int} (r85 : h 85 = er) {a w v : Int} (ha : -2147483648 ≤ a ∧ a < 2147483648) (hw : -2147483648 ≤ w ∧ w < 2147483648) (hv : -2147483648 ≤ v ∧ v < 2147483648) (hi : sp_inv s) : mh_M g d yX12_hill cX12_hill 5 (some .int) 96 0 0 [.ref 81, .int (Int32.ofInt (a)), .int (Int32.ofInt (w)), .int (Int32.ofInt (v))] h (fun r h2 => ∃ (vv : Int) (tt ee : Int → Int), (vv, tt, ee) = sp_hill a w v s er ∧ r = some (.int (Int32.ofInt vv)) ∧ mh_FX h2 ∧ mh_fr [82, 85, 86, 87] h h2 ∧ h2 82 = tt ∧ h2 85 = ee) := by
  refine mh_M_of RX12 rfl (by decide +kernel) [some (.ref 81), some (.int (Int32.ofInt (a))), some (.int (Int32.ofInt (w))), some (.int (Int32.ofInt (v))), none] rfl (Nat.le_of_ble_eq_true rfl) (fun f F Z hn0 hR => ?_)
  have hib := sp_inv_b hi
  have hm := hi.1
  have hq0 := hi.2.1
  have hws := hi.2.2.2.2.2
  obtain ⟨hH, hC⟩ := hi.2.2.2.1
  have hs1 := hi.2.2.1
  have hmo := sp_most_rg w
  have hbr := sp_inB_rg hm a
  refine mh_iload1 (pc := 0) F dX12_hill_0 ?_
  refine mh_callSp (pc := 1) (As := [.int (Int32.ofInt (a))]) (st := []) F (by omega) (k_isHill (by omega) (by omega)) ws_RX12_105 dX12_hill_1 rfl rfl (Nat.le_of_ble_eq_true rfl) ⟨Nat.zero_le _, Nat.zero_le _⟩ ?_
  refine mh_ifb_eq (pc := 4) (tgt := 33) F dX12_hill_4 rfl (fun c_4 => ?_) (fun c_4 => ?_)
  · refine mh_aload0 (pc := 33) F dX12_hill_33 ?_
    refine mh_iconst (pc := 34) F dX12_hill_34 ?_
    refine mh_callV0 (pc := 35) (As := [.int (Int32.ofInt (1))]) (st := []) F (by omega) (k_error (by omega) hF r85 (by omega)) wv_RX12_114_yX12_error dX12_hill_35 sh_81 rfl (by decide) rfl rfl (Nat.le_of_ble_eq_true rfl) ⟨Nat.zero_le _, Nat.zero_le _⟩ (fun r1 h1 q1 => ?_)
    obtain ⟨rfl, F1, fr1, q1_0⟩ := q1
    have r82_2 : h1 82 = s := (fr1 _ (by decide)).trans r82
    have fr2 : mh_fr [85] h h1 := (mh_fr.tr mh_fr.rf fr1).mono (by simp)
    exact mh_ireturn F Z dX12_hill_38 ⟨_, _, _, (by unfold sp_hill; (repeat' split) <;> first | rfl | (exfalso; omega)), rfl, F1, (fr2.mono (by simp)), r82_2, q1_0⟩
  · refine mh_iload2 (pc := 7) F dX12_hill_7 ?_
    refine mh_i2l (pc := 8) F dX12_hill_8 (by omega) ?_
    refine mh_lconst (x := 0) (pc := 9) F dX12_hill_9 rfl ?_
    refine mh_ldc2 (x := 2) (pc := 10) F dX12_hill_10 tw_5_226 ?_
    refine mh_callSp (pc := 13) (As := [.long (Int64.ofInt (w)), .long (Int64.ofInt (0)), .long (Int64.ofInt (2))]) (st := []) F (by omega) (k_in (by omega) (by omega) (by omega) (by omega)) ws_RX12_69 dX12_hill_13 rfl rfl (Nat.le_of_ble_eq_true rfl) ⟨Nat.zero_le _, Nat.zero_le _⟩ ?_
    refine mh_ifb_eq (pc := 16) (tgt := 33) F dX12_hill_16 rfl (fun c_16 => ?_) (fun c_16 => ?_)
    · refine mh_aload0 (pc := 33) F dX12_hill_33 ?_
      refine mh_iconst (pc := 34) F dX12_hill_34 ?_
      refine mh_callV0 (pc := 35) (As := [.int (Int32.ofInt (1))]) (st := []) F (by omega) (k_error (by omega) hF r85 (by omega)) wv_RX12_114_yX12_error dX12_hill_35 sh_81 rfl (by decide) rfl rfl (Nat.le_of_ble_eq_true rfl) ⟨Nat.zero_le _, Nat.zero_le _⟩ (fun r3 h3 q3 => ?_)
      obtain ⟨rfl, F3, fr3, q3_0⟩ := q3
      have r82_4 : h3 82 = s := (fr3 _ (by decide)).trans r82
      have fr4 : mh_fr [85] h h3 := (mh_fr.tr mh_fr.rf fr3).mono (by simp)
      exact mh_ireturn F Z dX12_hill_38 ⟨_, _, _, (by unfold sp_hill; (repeat' split) <;> first | rfl | (exfalso; omega)), rfl, F3, (fr4.mono (by simp)), r82_4, q3_0⟩
    · refine mh_iload3 (pc := 19) F dX12_hill_19 ?_
      refine mh_i2l (pc := 20) F dX12_hill_20 (by omega) ?_
      refine mh_lconst (x := 0) (pc := 21) F dX12_hill_21 rfl ?_
      refine mh_iload2 (pc := 22) F dX12_hill_22 ?_
      refine mh_callSp (pc := 23) (As := [.int (Int32.ofInt (w))]) (st := [.long (Int64.ofInt (0)), .long (Int64.ofInt (v))]) F (by omega) (k_most (by omega) (by omega)) ws_RX12_111 dX12_hill_23 rfl rfl (Nat.le_of_ble_eq_true rfl) ⟨Nat.zero_le _, Nat.zero_le _⟩ ?_
      refine mh_i2l (pc := 26) F dX12_hill_26 (by omega) ?_
      refine mh_callSp (pc := 27) (As := [.long (Int64.ofInt (v)), .long (Int64.ofInt (0)), .long (Int64.ofInt (sp_most w))]) (st := []) F (by omega) (k_in (by omega) (by omega) (by omega) (by omega)) ws_RX12_69 dX12_hill_27 rfl rfl (Nat.le_of_ble_eq_true rfl) ⟨Nat.zero_le _, Nat.zero_le _⟩ ?_
      refine mh_ifb_ne (pc := 30) (tgt := 39) F dX12_hill_30 rfl (fun c_30 => ?_) (fun c_30 => ?_)
      · refine mh_iload2 (pc := 39) F dX12_hill_39 ?_
        refine mh_iconst (pc := 40) F dX12_hill_40 ?_
        refine mh_icmp_ne (pc := 41) (tgt := 59) F dX12_hill_41 rfl (by omega) (by omega) (fun c_41 => ?_) (fun c_41 => ?_)
        · refine mh_aload0 (pc := 59) F dX12_hill_59 ?_
          refine mh_iload1 (pc := 60) F dX12_hill_60 ?_
          refine mh_iload2 (pc := 61) F dX12_hill_61 ?_
          refine mh_callVp (pc := 62) (As := [.int (Int32.ofInt (a)), .int (Int32.ofInt (w))]) (st := []) F (by omega) (k_ofHillNow (by omega) hF r82 (by omega) (by omega)) wv_RX12_98_yX12_ofHillNow dX12_hill_62 sh_81 rfl (by decide) rfl rfl (Nat.le_of_ble_eq_true rfl) ⟨Nat.zero_le _, Nat.zero_le _⟩ ?_
          refine mh_istore4 (pc := 65) F dX12_hill_65 rfl (by decide) ?_
          refine mh_aload0 (pc := 67) F dX12_hill_67 ?_
          refine mh_getr (b := 82) (pc := 68) F sh_81 (by decide) fw_RX12_9_12 dX12_hill_68 rfl (fx_81_0 hF) ?_
          refine mh_bipush (pc := 71) F dX12_hill_71 rfl ?_
          refine mh_iconst (pc := 73) F dX12_hill_73 ?_
          refine mh_iload1 (pc := 74) F dX12_hill_74 ?_
          refine mh_imul (pc := 75) F dX12_hill_75 ?_
          refine mh_iadd (pc := 76) F dX12_hill_76 ?_
          refine mh_iload2 (pc := 77) F dX12_hill_77 ?_
          refine mh_iadd (pc := 78) F dX12_hill_78 ?_
          refine mh_iload3 (pc := 79) F dX12_hill_79 ?_
          refine mh_iastore (pc := 80) F sh_82 (by decide) (by omega) dX12_hill_80 ?_
          refine mh_nmh (fun h5 e5 => ?_)
          have F5 : mh_FX h5 := by rw [e5]; exact hF.upa rfl
          have r82_5 : h5 82 = mh_ur s ((6 + (3 * a)) + w) v := by rw [e5, mh_up_rs, r82]
          have r85_5 : h5 85 = er := by rw [e5, mh_up_row (by decide)]; exact r85
          have fr5 : mh_fr [82] h h5 := mh_fr.up mh_fr.rf e5
          refine mh_iload4 (pc := 81) F dX12_hill_81 ?_
          exact mh_ireturn F Z dX12_hill_83 ⟨_, _, _, (by unfold sp_hill; (repeat' split) <;> first | rfl | (exfalso; omega)), rfl, F5, (fr5.mono (by simp)), r82_5, r85_5⟩
        · refine mh_aload0 (pc := 44) F dX12_hill_44 ?_
          refine mh_iload1 (pc := 45) F dX12_hill_45 ?_
          refine mh_callVp (pc := 46) (As := [.int (Int32.ofInt (a))]) (st := []) F (by omega) (k_inB (by omega) hF r82 (by omega) (by omega) hib) wv_RX12_117_yX12_inBrook dX12_hill_46 sh_81 rfl (by decide) rfl rfl (Nat.le_of_ble_eq_true rfl) ⟨Nat.zero_le _, Nat.zero_le _⟩ ?_
          refine mh_iload3 (pc := 49) F dX12_hill_49 ?_
          refine mh_icmp_le (pc := 50) (tgt := 59) F dX12_hill_50 rfl (by omega) (by omega) (fun c_50 => ?_) (fun c_50 => ?_)
          · refine mh_aload0 (pc := 59) F dX12_hill_59 ?_
            refine mh_iload1 (pc := 60) F dX12_hill_60 ?_
            refine mh_iload2 (pc := 61) F dX12_hill_61 ?_
            refine mh_callVp (pc := 62) (As := [.int (Int32.ofInt (a)), .int (Int32.ofInt (w))]) (st := []) F (by omega) (k_ofHillNow (by omega) hF r82 (by omega) (by omega)) wv_RX12_98_yX12_ofHillNow dX12_hill_62 sh_81 rfl (by decide) rfl rfl (Nat.le_of_ble_eq_true rfl) ⟨Nat.zero_le _, Nat.zero_le _⟩ ?_
            refine mh_istore4 (pc := 65) F dX12_hill_65 rfl (by decide) ?_
            refine mh_aload0 (pc := 67) F dX12_hill_67 ?_
            refine mh_getr (b := 82) (pc := 68) F sh_81 (by decide) fw_RX12_9_12 dX12_hill_68 rfl (fx_81_0 hF) ?_
            refine mh_bipush (pc := 71) F dX12_hill_71 rfl ?_
            refine mh_iconst (pc := 73) F dX12_hill_73 ?_
            refine mh_iload1 (pc := 74) F dX12_hill_74 ?_
            refine mh_imul (pc := 75) F dX12_hill_75 ?_
            refine mh_iadd (pc := 76) F dX12_hill_76 ?_
            refine mh_iload2 (pc := 77) F dX12_hill_77 ?_
            refine mh_iadd (pc := 78) F dX12_hill_78 ?_
            refine mh_iload3 (pc := 79) F dX12_hill_79 ?_
            refine mh_iastore (pc := 80) F sh_82 (by decide) (by omega) dX12_hill_80 ?_
            refine mh_nmh (fun h6 e6 => ?_)
            have F6 : mh_FX h6 := by rw [e6]; exact hF.upa rfl
            have r82_6 : h6 82 = mh_ur s ((6 + (3 * a)) + w) v := by rw [e6, mh_up_rs, r82]
            have r85_6 : h6 85 = er := by rw [e6, mh_up_row (by decide)]; exact r85
            have fr6 : mh_fr [82] h h6 := mh_fr.up mh_fr.rf e6
            refine mh_iload4 (pc := 81) F dX12_hill_81 ?_
            exact mh_ireturn F Z dX12_hill_83 ⟨_, _, _, (by unfold sp_hill; (repeat' split) <;> first | rfl | (exfalso; omega)), rfl, F6, (fr6.mono (by simp)), r82_6, r85_6⟩
          · refine mh_aload0 (pc := 53) F dX12_hill_53 ?_
            refine mh_iconst (pc := 54) F dX12_hill_54 ?_
            refine mh_callV0 (pc := 55) (As := [.int (Int32.ofInt (3))]) (st := []) F (by omega) (k_error (by omega) hF r85 (by omega)) wv_RX12_114_yX12_error dX12_hill_55 sh_81 rfl (by decide) rfl rfl (Nat.le_of_ble_eq_true rfl) ⟨Nat.zero_le _, Nat.zero_le _⟩ (fun r7 h7 q7 => ?_)
            obtain ⟨rfl, F7, fr7, q7_0⟩ := q7
            have r82_8 : h7 82 = s := (fr7 _ (by decide)).trans r82
            have fr8 : mh_fr [85] h h7 := (mh_fr.tr mh_fr.rf fr7).mono (by simp)
            exact mh_ireturn F Z dX12_hill_58 ⟨_, _, _, (by unfold sp_hill; (repeat' split) <;> first | rfl | (exfalso; omega)), rfl, F7, (fr8.mono (by simp)), r82_8, q7_0⟩
      · refine mh_aload0 (pc := 33) F dX12_hill_33 ?_
        refine mh_iconst (pc := 34) F dX12_hill_34 ?_
        refine mh_callV0 (pc := 35) (As := [.int (Int32.ofInt (1))]) (st := []) F (by omega) (k_error (by omega) hF r85 (by omega)) wv_RX12_114_yX12_error dX12_hill_35 sh_81 rfl (by decide) rfl rfl (Nat.le_of_ble_eq_true rfl) ⟨Nat.zero_le _, Nat.zero_le _⟩ (fun r9 h9 q9 => ?_)
        obtain ⟨rfl, F9, fr9, q9_0⟩ := q9
        have r82_10 : h9 82 = s := (fr9 _ (by decide)).trans r82
        have fr10 : mh_fr [85] h h9 := (mh_fr.tr mh_fr.rf fr9).mono (by simp)
        exact mh_ireturn F Z dX12_hill_38 ⟨_, _, _, (by unfold sp_hill; (repeat' split) <;> first | rfl | (exfalso; omega)), rfl, F9, (fr10.mono (by simp)), r82_10, q9_0⟩

set_option maxRecDepth 100000 in
set_option maxHeartbeats 4000000 in
theorem p_ofHill {g : mh_G} {d : Nat} (hd : 9 ≤ d) {h : Nat → Int → Int} (hF : mh_FX h) {s : Int → Int} (r82 : h 82 = s) {er : Int → Int} (r85 : h 85 = er) {a w : Int} (ha : -2147483648 ≤ a ∧ a < 2147483648) (hw : -2147483648 ≤ w ∧ w < 2147483648) (hi : sp_inv s) : mh_M g d yX12_ofHill cX12_ofHill 3 (some .int) 96 0 0 [.ref 81, .int (Int32.ofInt (a)), .int (Int32.ofInt (w))] h (fun r h2 => ∃ (vv : Int) (tt ee : Int → Int), (vv, tt, ee) = sp_ofHill a w s er ∧ r = some (.int (Int32.ofInt vv)) ∧ mh_FX h2 ∧ mh_fr [82, 85, 86, 87] h h2 ∧ h2 82 = tt ∧ h2 85 = ee) := by
  refine mh_M_of RX12 rfl (by decide +kernel) [some (.ref 81), some (.int (Int32.ofInt (a))), some (.int (Int32.ofInt (w)))] rfl (Nat.le_of_ble_eq_true rfl) (fun f F Z hn0 hR => ?_)
  have hib := sp_inv_b hi
  have hm := hi.1
  have hq0 := hi.2.1
  have hws := hi.2.2.2.2.2
  obtain ⟨hH, hC⟩ := hi.2.2.2.1
  have hs1 := hi.2.2.1
  refine mh_iload1 (pc := 0) F dX12_ofHill_0 ?_
  refine mh_callSp (pc := 1) (As := [.int (Int32.ofInt (a))]) (st := []) F (by omega) (k_isHill (by omega) (by omega)) ws_RX12_105 dX12_ofHill_1 rfl rfl (Nat.le_of_ble_eq_true rfl) ⟨Nat.zero_le _, Nat.zero_le _⟩ ?_
  refine mh_ifb_eq (pc := 4) (tgt := 19) F dX12_ofHill_4 rfl (fun c_4 => ?_) (fun c_4 => ?_)
  · refine mh_aload0 (pc := 19) F dX12_ofHill_19 ?_
    refine mh_iconst (pc := 20) F dX12_ofHill_20 ?_
    refine mh_callV0 (pc := 21) (As := [.int (Int32.ofInt (1))]) (st := []) F (by omega) (k_error (by omega) hF r85 (by omega)) wv_RX12_114_yX12_error dX12_ofHill_21 sh_81 rfl (by decide) rfl rfl (Nat.le_of_ble_eq_true rfl) ⟨Nat.zero_le _, Nat.zero_le _⟩ (fun r1 h1 q1 => ?_)
    obtain ⟨rfl, F1, fr1, q1_0⟩ := q1
    have r82_2 : h1 82 = s := (fr1 _ (by decide)).trans r82
    have fr2 : mh_fr [85] h h1 := (mh_fr.tr mh_fr.rf fr1).mono (by simp)
    exact mh_ireturn F Z dX12_ofHill_24 ⟨_, _, _, (by unfold sp_ofHill; (repeat' split) <;> first | rfl | (exfalso; omega)), rfl, F1, (fr2.mono (by simp)), r82_2, q1_0⟩
  · refine mh_iload2 (pc := 7) F dX12_ofHill_7 ?_
    refine mh_i2l (pc := 8) F dX12_ofHill_8 (by omega) ?_
    refine mh_lconst (x := 0) (pc := 9) F dX12_ofHill_9 rfl ?_
    refine mh_ldc2 (x := 4) (pc := 10) F dX12_ofHill_10 tw_6_11 ?_
    refine mh_callSp (pc := 13) (As := [.long (Int64.ofInt (w)), .long (Int64.ofInt (0)), .long (Int64.ofInt (4))]) (st := []) F (by omega) (k_in (by omega) (by omega) (by omega) (by omega)) ws_RX12_69 dX12_ofHill_13 rfl rfl (Nat.le_of_ble_eq_true rfl) ⟨Nat.zero_le _, Nat.zero_le _⟩ ?_
    refine mh_ifb_ne (pc := 16) (tgt := 25) F dX12_ofHill_16 rfl (fun c_16 => ?_) (fun c_16 => ?_)
    · have hha := hH a (by omega) (by omega)
      refine mh_iload2 (pc := 25) F dX12_ofHill_25 ?_
      refine mh_iconst (pc := 26) F dX12_ofHill_26 ?_
      refine mh_icmp_ge (pc := 27) (tgt := 39) F dX12_ofHill_27 rfl (by omega) (by omega) (fun c_27 => ?_) (fun c_27 => ?_)
      · refine mh_iload2 (pc := 39) F dX12_ofHill_39 ?_
        refine mh_iconst (pc := 40) F dX12_ofHill_40 ?_
        refine mh_icmp_ne (pc := 41) (tgt := 52) F dX12_ofHill_41 rfl (by omega) (by omega) (fun c_41 => ?_) (fun c_41 => ?_)
        · refine mh_aload0 (pc := 52) F dX12_ofHill_52 ?_
          refine mh_iload1 (pc := 53) F dX12_ofHill_53 ?_
          refine mh_aload0 (pc := 54) F dX12_ofHill_54 ?_
          refine mh_getr (b := 82) (pc := 55) F sh_81 (by decide) fw_RX12_9_12 dX12_ofHill_55 rfl (fx_81_0 hF) ?_
          refine mh_iconst (pc := 58) F dX12_ofHill_58 ?_
          refine mh_ialoadr (pc := 59) F sh_82 (by decide) (by omega) dX12_ofHill_59 r82 ?_
          refine mh_callV0 (pc := 60) (As := [.int (Int32.ofInt (a)), .int (Int32.ofInt (s 0))]) (st := []) F (by omega) (k_warm (by omega) hF r82 (by omega) (by omega) (by omega) hws) wv_RX12_122_yX12_warm dX12_ofHill_60 sh_81 rfl (by decide) rfl rfl (Nat.le_of_ble_eq_true rfl) ⟨Nat.zero_le _, Nat.zero_le _⟩ (fun r3 h3 q3 => ?_)
          obtain ⟨rfl, F3, fr3⟩ := q3
          have r82_4 : h3 82 = s := (fr3 _ (by decide)).trans r82
          have r85_4 : h3 85 = er := (fr3 _ (by decide)).trans r85
          have fr4 : mh_fr [86, 87] h h3 := (mh_fr.tr mh_fr.rf fr3).mono (by simp)
          exact mh_ireturn F Z dX12_ofHill_63 ⟨_, _, _, (by unfold sp_ofHill; (repeat' split) <;> first | rfl | (exfalso; omega)), rfl, F3, (fr4.mono (by simp)), r82_4, r85_4⟩
        · refine mh_aload0 (pc := 44) F dX12_ofHill_44 ?_
          refine mh_iload1 (pc := 45) F dX12_ofHill_45 ?_
          refine mh_callVp (pc := 46) (As := [.int (Int32.ofInt (a))]) (st := []) F (by omega) (k_inB (by omega) hF r82 (by omega) (by omega) hib) wv_RX12_117_yX12_inBrook dX12_ofHill_46 sh_81 rfl (by decide) rfl rfl (Nat.le_of_ble_eq_true rfl) ⟨Nat.zero_le _, Nat.zero_le _⟩ ?_
          refine mh_goto (pc := 49) (tgt := 63) F dX12_ofHill_49 rfl ?_
          exact mh_ireturn F Z dX12_ofHill_63 ⟨_, _, _, (by unfold sp_ofHill; (repeat' split) <;> first | rfl | (exfalso; omega)), rfl, hF, (mh_fr.rf.mono (by simp)), r82, r85⟩
      · refine mh_aload0 (pc := 30) F dX12_ofHill_30 ?_
        refine mh_iload1 (pc := 31) F dX12_ofHill_31 ?_
        refine mh_iload2 (pc := 32) F dX12_ofHill_32 ?_
        refine mh_callVp (pc := 33) (As := [.int (Int32.ofInt (a)), .int (Int32.ofInt (w))]) (st := []) F (by omega) (k_ofHillNow (by omega) hF r82 (by omega) (by omega)) wv_RX12_98_yX12_ofHillNow dX12_ofHill_33 sh_81 rfl (by decide) rfl rfl (Nat.le_of_ble_eq_true rfl) ⟨Nat.zero_le _, Nat.zero_le _⟩ ?_
        refine mh_goto (pc := 36) (tgt := 63) F dX12_ofHill_36 rfl ?_
        exact mh_ireturn F Z dX12_ofHill_63 ⟨_, _, _, (by unfold sp_ofHill; (repeat' split) <;> first | rfl | (exfalso; omega)), rfl, hF, (mh_fr.rf.mono (by simp)), r82, r85⟩
    · refine mh_aload0 (pc := 19) F dX12_ofHill_19 ?_
      refine mh_iconst (pc := 20) F dX12_ofHill_20 ?_
      refine mh_callV0 (pc := 21) (As := [.int (Int32.ofInt (1))]) (st := []) F (by omega) (k_error (by omega) hF r85 (by omega)) wv_RX12_114_yX12_error dX12_ofHill_21 sh_81 rfl (by decide) rfl rfl (Nat.le_of_ble_eq_true rfl) ⟨Nat.zero_le _, Nat.zero_le _⟩ (fun r5 h5 q5 => ?_)
      obtain ⟨rfl, F5, fr5, q5_0⟩ := q5
      have r82_6 : h5 82 = s := (fr5 _ (by decide)).trans r82
      have fr6 : mh_fr [85] h h5 := (mh_fr.tr mh_fr.rf fr5).mono (by simp)
      exact mh_ireturn F Z dX12_ofHill_24 ⟨_, _, _, (by unfold sp_ofHill; (repeat' split) <;> first | rfl | (exfalso; omega)), rfl, F5, (fr6.mono (by simp)), r82_6, q5_0⟩

set_option maxRecDepth 100000 in
set_option maxHeartbeats 4000000 in
theorem p_carrier {g : mh_G} {d : Nat} (hd : 9 ≤ d) {h : Nat → Int → Int} (hF : mh_FX h) {s : Int → Int} (r82 : h 82 = s) {er : Int → Int} (r85 : h 85 = er) {c p k : Int} (hc : -2147483648 ≤ c ∧ c < 2147483648) (hp : -2147483648 ≤ p ∧ p < 2147483648) (hk : -2147483648 ≤ k ∧ k < 2147483648) (hi : sp_inv s) : mh_M g d yX12_carrier cX12_carrier 5 (some .int) 96 0 0 [.ref 81, .int (Int32.ofInt (c)), .int (Int32.ofInt (p)), .int (Int32.ofInt (k))] h (fun r h2 => ∃ (vv : Int) (tt ee : Int → Int), (vv, tt, ee) = sp_carrier c p k s er ∧ r = some (.int (Int32.ofInt vv)) ∧ mh_FX h2 ∧ mh_fr [82, 85, 86, 87] h h2 ∧ h2 82 = tt ∧ h2 85 = ee) := by
  refine mh_M_of RX12 rfl (by decide +kernel) [some (.ref 81), some (.int (Int32.ofInt (c))), some (.int (Int32.ofInt (p))), some (.int (Int32.ofInt (k))), none] rfl (Nat.le_of_ble_eq_true rfl) (fun f F Z hn0 hR => ?_)
  have hib := sp_inv_b hi
  have hm := hi.1
  have hq0 := hi.2.1
  have hws := hi.2.2.2.2.2
  obtain ⟨hH, hC⟩ := hi.2.2.2.1
  have hs1 := hi.2.2.1
  refine mh_iload1 (pc := 0) F dX12_carrier_0 ?_
  refine mh_callSp (pc := 1) (As := [.int (Int32.ofInt (c))]) (st := []) F (by omega) (k_isCarrier (by omega) (by omega)) ws_RX12_125 dX12_carrier_1 rfl rfl (Nat.le_of_ble_eq_true rfl) ⟨Nat.zero_le _, Nat.zero_le _⟩ ?_
  refine mh_ifb_eq (pc := 4) (tgt := 31) F dX12_carrier_4 rfl (fun c_4 => ?_) (fun c_4 => ?_)
  · refine mh_aload0 (pc := 31) F dX12_carrier_31 ?_
    refine mh_iconst (pc := 32) F dX12_carrier_32 ?_
    refine mh_callV0 (pc := 33) (As := [.int (Int32.ofInt (1))]) (st := []) F (by omega) (k_error (by omega) hF r85 (by omega)) wv_RX12_114_yX12_error dX12_carrier_33 sh_81 rfl (by decide) rfl rfl (Nat.le_of_ble_eq_true rfl) ⟨Nat.zero_le _, Nat.zero_le _⟩ (fun r1 h1 q1 => ?_)
    obtain ⟨rfl, F1, fr1, q1_0⟩ := q1
    have r82_2 : h1 82 = s := (fr1 _ (by decide)).trans r82
    have fr2 : mh_fr [85] h h1 := (mh_fr.tr mh_fr.rf fr1).mono (by simp)
    exact mh_ireturn F Z dX12_carrier_36 ⟨_, _, _, (by unfold sp_carrier; (repeat' split) <;> first | rfl | (exfalso; omega)), rfl, F1, (fr2.mono (by simp)), r82_2, q1_0⟩
  · refine mh_iload2 (pc := 7) F dX12_carrier_7 ?_
    refine mh_i2l (pc := 8) F dX12_carrier_8 (by omega) ?_
    refine mh_lconst (x := 1) (pc := 9) F dX12_carrier_9 rfl ?_
    refine mh_ldc2 (x := 9) (pc := 10) F dX12_carrier_10 tw_6_40 ?_
    refine mh_callSp (pc := 13) (As := [.long (Int64.ofInt (p)), .long (Int64.ofInt (1)), .long (Int64.ofInt (9))]) (st := []) F (by omega) (k_in (by omega) (by omega) (by omega) (by omega)) ws_RX12_69 dX12_carrier_13 rfl rfl (Nat.le_of_ble_eq_true rfl) ⟨Nat.zero_le _, Nat.zero_le _⟩ ?_
    refine mh_ifb_eq (pc := 16) (tgt := 31) F dX12_carrier_16 rfl (fun c_16 => ?_) (fun c_16 => ?_)
    · refine mh_aload0 (pc := 31) F dX12_carrier_31 ?_
      refine mh_iconst (pc := 32) F dX12_carrier_32 ?_
      refine mh_callV0 (pc := 33) (As := [.int (Int32.ofInt (1))]) (st := []) F (by omega) (k_error (by omega) hF r85 (by omega)) wv_RX12_114_yX12_error dX12_carrier_33 sh_81 rfl (by decide) rfl rfl (Nat.le_of_ble_eq_true rfl) ⟨Nat.zero_le _, Nat.zero_le _⟩ (fun r3 h3 q3 => ?_)
      obtain ⟨rfl, F3, fr3, q3_0⟩ := q3
      have r82_4 : h3 82 = s := (fr3 _ (by decide)).trans r82
      have fr4 : mh_fr [85] h h3 := (mh_fr.tr mh_fr.rf fr3).mono (by simp)
      exact mh_ireturn F Z dX12_carrier_36 ⟨_, _, _, (by unfold sp_carrier; (repeat' split) <;> first | rfl | (exfalso; omega)), rfl, F3, (fr4.mono (by simp)), r82_4, q3_0⟩
    · refine mh_iload3 (pc := 19) F dX12_carrier_19 ?_
      refine mh_i2l (pc := 20) F dX12_carrier_20 (by omega) ?_
      refine mh_lconst (x := 0) (pc := 21) F dX12_carrier_21 rfl ?_
      refine mh_ldc2 (x := 20) (pc := 22) F dX12_carrier_22 tw_6_41 ?_
      refine mh_callSp (pc := 25) (As := [.long (Int64.ofInt (k)), .long (Int64.ofInt (0)), .long (Int64.ofInt (20))]) (st := []) F (by omega) (k_in (by omega) (by omega) (by omega) (by omega)) ws_RX12_69 dX12_carrier_25 rfl rfl (Nat.le_of_ble_eq_true rfl) ⟨Nat.zero_le _, Nat.zero_le _⟩ ?_
      refine mh_ifb_ne (pc := 28) (tgt := 37) F dX12_carrier_28 rfl (fun c_28 => ?_) (fun c_28 => ?_)
      · refine mh_aload0 (pc := 37) F dX12_carrier_37 ?_
        refine mh_iload1 (pc := 38) F dX12_carrier_38 ?_
        refine mh_callVp (pc := 39) (As := [.int (Int32.ofInt (c))]) (st := []) F (by omega) (k_pace (by omega) hF r82 (by omega)) wv_RX12_132_yX12_pace dX12_carrier_39 sh_81 rfl (by decide) rfl rfl (Nat.le_of_ble_eq_true rfl) ⟨Nat.zero_le _, Nat.zero_le _⟩ ?_
        refine mh_istore4 (pc := 42) F dX12_carrier_42 rfl (by decide) ?_
        refine mh_aload0 (pc := 44) F dX12_carrier_44 ?_
        refine mh_getr (b := 82) (pc := 45) F sh_81 (by decide) fw_RX12_9_12 dX12_carrier_45 rfl (fx_81_0 hF) ?_
        refine mh_bipush (pc := 48) F dX12_carrier_48 rfl ?_
        refine mh_iconst (pc := 50) F dX12_carrier_50 ?_
        refine mh_iload1 (pc := 51) F dX12_carrier_51 ?_
        refine mh_imul (pc := 52) F dX12_carrier_52 ?_
        refine mh_iadd (pc := 53) F dX12_carrier_53 ?_
        refine mh_iload2 (pc := 54) F dX12_carrier_54 ?_
        refine mh_iastore (pc := 55) F sh_82 (by decide) (by omega) dX12_carrier_55 ?_
        refine mh_nmh (fun h5 e5 => ?_)
        have F5 : mh_FX h5 := by rw [e5]; exact hF.upa rfl
        have r82_5 : h5 82 = mh_ur s (33 + (2 * c)) p := by rw [e5, mh_up_rs, r82]
        have r85_5 : h5 85 = er := by rw [e5, mh_up_row (by decide)]; exact r85
        have fr5 : mh_fr [82] h h5 := mh_fr.up mh_fr.rf e5
        refine mh_aload0 (pc := 56) F dX12_carrier_56 ?_
        refine mh_getr (b := 82) (pc := 57) F sh_81 (by decide) fw_RX12_9_12 dX12_carrier_57 rfl (fx_81_0 F5) ?_
        refine mh_bipush (pc := 60) F dX12_carrier_60 rfl ?_
        refine mh_iconst (pc := 62) F dX12_carrier_62 ?_
        refine mh_iload1 (pc := 63) F dX12_carrier_63 ?_
        refine mh_imul (pc := 64) F dX12_carrier_64 ?_
        refine mh_iadd (pc := 65) F dX12_carrier_65 ?_
        refine mh_iconst (pc := 66) F dX12_carrier_66 ?_
        refine mh_iadd (pc := 67) F dX12_carrier_67 ?_
        refine mh_iload3 (pc := 68) F dX12_carrier_68 ?_
        refine mh_iastore (pc := 69) F sh_82 (by decide) (by omega) dX12_carrier_69 ?_
        refine mh_nmh (fun h6 e6 => ?_)
        have F6 : mh_FX h6 := by rw [e6]; exact F5.upa rfl
        have r82_6 : h6 82 = mh_ur (mh_ur s (33 + (2 * c)) p) ((33 + (2 * c)) + 1) k := by rw [e6, mh_up_rs, r82_5]
        have r85_6 : h6 85 = er := by rw [e6, mh_up_row (by decide)]; exact r85_5
        have fr6 : mh_fr [82] h h6 := mh_fr.upi fr5 e6 (by simp)
        refine mh_bipush (pc := 70) F dX12_carrier_70 rfl ?_
        refine mh_iload4 (pc := 72) F dX12_carrier_72 ?_
        refine mh_imul (pc := 74) F dX12_carrier_74 ?_
        exact mh_ireturn F Z dX12_carrier_75 ⟨_, _, _, (by unfold sp_carrier; (repeat' split) <;> first | rfl | (exfalso; omega)), rfl, F6, (fr6.mono (by simp)), r82_6, r85_6⟩
      · refine mh_aload0 (pc := 31) F dX12_carrier_31 ?_
        refine mh_iconst (pc := 32) F dX12_carrier_32 ?_
        refine mh_callV0 (pc := 33) (As := [.int (Int32.ofInt (1))]) (st := []) F (by omega) (k_error (by omega) hF r85 (by omega)) wv_RX12_114_yX12_error dX12_carrier_33 sh_81 rfl (by decide) rfl rfl (Nat.le_of_ble_eq_true rfl) ⟨Nat.zero_le _, Nat.zero_le _⟩ (fun r7 h7 q7 => ?_)
        obtain ⟨rfl, F7, fr7, q7_0⟩ := q7
        have r82_8 : h7 82 = s := (fr7 _ (by decide)).trans r82
        have fr8 : mh_fr [85] h h7 := (mh_fr.tr mh_fr.rf fr7).mono (by simp)
        exact mh_ireturn F Z dX12_carrier_36 ⟨_, _, _, (by unfold sp_carrier; (repeat' split) <;> first | rfl | (exfalso; omega)), rfl, F7, (fr8.mono (by simp)), r82_8, q7_0⟩

set_option maxRecDepth 100000 in
set_option maxHeartbeats 4000000 in
theorem k_anew {g : mh_G} {d : Nat} (hd : 2 ≤ d) {h : Nat → Int → Int} (hF : mh_FX h) {s : Int → Int} (r82 : h 82 = s) {k : Int} (hk : 0 ≤ k ∧ k < 6) : mh_M g d yX12_anew cX12_anew 3 none 96 0 0 [.ref 81, .int (Int32.ofInt (k))] h (fun r h2 => r = none ∧ mh_FX h2 ∧ mh_fr [82] h h2 ∧ h2 82 = sp_anew s k) := by
  refine mh_M_of RX12 rfl (by decide +kernel) [some (.ref 81), some (.int (Int32.ofInt (k))), none] rfl (Nat.le_of_ble_eq_true rfl) (fun f F Z hn0 hR => ?_)
  refine mh_iconst (pc := 0) F dX12_anew_0 ?_
  refine mh_istore2 (pc := 1) F dX12_anew_1 rfl (by decide) ?_
  have L2 : ∀ (m : Nat) (x : Int) (hh : Nat → Int → Int) (t : Int → Int), (mh_FX hh) → (mh_fr [82] h hh) → (hh 82 = t) → (2 ≤ x ∧ x ≤ 9) → (t = fun i => if 41 + 9 * k + 2 ≤ i ∧ i ≤ 41 + 9 * k + x - 1 then 0 else s i) → (9 - x).toNat = m → mh_V g f 3 96 0 0 2 [some (.ref 81), some (.int (Int32.ofInt (k))), some (.int (Int32.ofInt (x)))] [] hh := by
    intro m
    induction m using Nat.strongRecOn with
    | _ m ihL2 =>
    intro x hh t Fhh frhh q82hh hx ht hmz
    refine mh_iload2 (pc := 2) F dX12_anew_2 ?_
    refine mh_bipush (pc := 3) F dX12_anew_3 rfl ?_
    refine mh_icmp_gt (pc := 5) (tgt := 21) F dX12_anew_5 rfl (by omega) (by omega) (fun c_5 => ?_) (fun c_5 => ?_)
    · exact mh_return F Z dX12_anew_21 ⟨rfl, Fhh, (frhh.mono (by simp)), (q82hh.trans (by rw [ht]; unfold sp_anew; rw [show x = 9 by omega]; funext i; (repeat' split) <;> first | rfl | (exfalso; omega)))⟩
    · refine mh_aload0 (pc := 8) F dX12_anew_8 ?_
      refine mh_iload1 (pc := 9) F dX12_anew_9 ?_
      refine mh_iload2 (pc := 10) F dX12_anew_10 ?_
      refine mh_iconst (pc := 11) F dX12_anew_11 ?_
      refine mh_callV0 (pc := 12) (As := [.int (Int32.ofInt (k)), .int (Int32.ofInt (x)), .int (Int32.ofInt (0))]) (st := []) F (by omega) (k_sets (by omega) Fhh q82hh (by omega) (by omega)) wv_RX12_140_yX12_sets dX12_anew_12 sh_81 rfl (by decide) rfl rfl (Nat.le_of_ble_eq_true rfl) ⟨Nat.zero_le _, Nat.zero_le _⟩ (fun r1 h1 q1 => ?_)
      obtain ⟨rfl, F1, fr1, q1_0⟩ := q1
      have fr2 : mh_fr [82] h h1 := (mh_fr.tr frhh fr1).mono (by simp)
      refine mh_iinc2 (pc := 15) F dX12_anew_15 rfl (by decide) ?_
      refine mh_goto (pc := 18) (tgt := 2) F dX12_anew_18 rfl ?_
      exact ihL2 _ (by omega) (x + 1) h1 (mh_ur t (41 + 9 * k + x) 0) F1 (fr2.mono (by simp)) q1_0 (by omega) (by rw [ht]; funext i; simp only [mh_ur]; (repeat' split) <;> first | rfl | (exfalso; omega)) rfl
  exact L2 _ 2 h s hF (mh_fr.rf.mono (by simp)) r82 (by omega) (by funext i; rw [if_neg (by omega)]) rfl

set_option maxRecDepth 100000 in
set_option maxHeartbeats 4000000 in
theorem k_told {g : mh_G} {d : Nat} (hd : 4 ≤ d) {h : Nat → Int → Int} (hF : mh_FX h) {s : Int → Int} (r82 : h 82 = s) {k w : Int} (hk : 0 ≤ k ∧ k < 6) (hc : sp_cok (sp_row s k)) (hw : 0 ≤ w ∧ w ≤ 9) : mh_MP g d yX12_told cX12_told 4 (some .int) 96 [.ref 81, .int (Int32.ofInt (k)), .int (Int32.ofInt (w))] h (some (.int (Int32.ofInt (sp_told s k w)))) := by
  refine mh_M_of RX12 rfl (by decide +kernel) [some (.ref 81), some (.int (Int32.ofInt (k))), some (.int (Int32.ofInt (w))), none] rfl (Nat.le_of_ble_eq_true rfl) (fun f F Z hn0 hR => ?_)
  obtain ⟨c0, c1, c2, c3, c4, c5, c6, c7, c8, c9, c10, c11, c12, c13⟩ := hc
  unfold sp_row at c0 c1 c2 c3 c4 c5 c6 c7 c8 c9 c10 c11 c12 c13
  have htr := sp_turns_rg (k := s (41 + 9 * k + 0)) c1
  refine mh_aload0 (pc := 0) F dX12_told_0 ?_
  refine mh_iload1 (pc := 1) F dX12_told_1 ?_
  refine mh_iconst (pc := 2) F dX12_told_2 ?_
  refine mh_callVp (pc := 3) (As := [.int (Int32.ofInt (k)), .int (Int32.ofInt (3))]) (st := []) F (by omega) (k_its (by omega) hF r82 (by omega) (by omega)) wv_RX12_79_yX12_its dX12_told_3 sh_81 rfl (by decide) rfl rfl (Nat.le_of_ble_eq_true rfl) ⟨Nat.zero_le _, Nat.zero_le _⟩ ?_
  refine mh_iconst (pc := 6) F dX12_told_6 ?_
  refine mh_icmp_ne (pc := 7) (tgt := 14) F dX12_told_7 rfl (by omega) (by omega) (fun c_7 => ?_) (fun c_7 => ?_)
  · refine mh_iconst (pc := 14) F dX12_told_14 ?_
    refine mh_istore3 (pc := 15) F dX12_told_15 rfl (by decide) ?_
    refine mh_iload2 (pc := 16) F dX12_told_16 ?_
    by_cases c_17_4 : w = 4
    · refine mh_tabIn (pc := 17) (off := 39) (tgt := 56) F dX12_told_17 (by omega) (by omega) (by omega) (by rw [c_17_4]; rfl) rfl ?_
      refine mh_iload3 (pc := 56) F dX12_told_56 ?_
      refine mh_if_eq (pc := 57) (tgt := 69) F dX12_told_57 rfl (by omega) (fun c_57 => ?_) (fun c_57 => ?_)
      · refine mh_iconst (pc := 69) F dX12_told_69 ?_
        exact mh_ireturnp F Z dX12_told_70 (by unfold sp_told; (repeat' split) <;> first | rfl | (exfalso; omega)) rfl
      · exact absurd c_57 (by decide)
    by_cases c_17_5 : w = 5
    · refine mh_tabIn (pc := 17) (off := 92) (tgt := 109) F dX12_told_17 (by omega) (by omega) (by omega) (by rw [c_17_5]; rfl) rfl ?_
      refine mh_aload0 (pc := 109) F dX12_told_109 ?_
      refine mh_iload1 (pc := 110) F dX12_told_110 ?_
      refine mh_iload2 (pc := 111) F dX12_told_111 ?_
      refine mh_callVp (pc := 112) (As := [.int (Int32.ofInt (k)), .int (Int32.ofInt (w))]) (st := []) F (by omega) (k_its (by omega) hF r82 (by omega) (by omega)) wv_RX12_79_yX12_its dX12_told_112 sh_81 rfl (by decide) rfl rfl (Nat.le_of_ble_eq_true rfl) ⟨Nat.zero_le _, Nat.zero_le _⟩ ?_
      exact mh_ireturnp F Z dX12_told_115 (by unfold sp_told; (repeat' split) <;> first | rfl | (exfalso; omega)) rfl
    by_cases c_17_6 : w = 6
    · refine mh_tabIn (pc := 17) (off := 92) (tgt := 109) F dX12_told_17 (by omega) (by omega) (by omega) (by rw [c_17_6]; rfl) rfl ?_
      refine mh_aload0 (pc := 109) F dX12_told_109 ?_
      refine mh_iload1 (pc := 110) F dX12_told_110 ?_
      refine mh_iload2 (pc := 111) F dX12_told_111 ?_
      refine mh_callVp (pc := 112) (As := [.int (Int32.ofInt (k)), .int (Int32.ofInt (w))]) (st := []) F (by omega) (k_its (by omega) hF r82 (by omega) (by omega)) wv_RX12_79_yX12_its dX12_told_112 sh_81 rfl (by decide) rfl rfl (Nat.le_of_ble_eq_true rfl) ⟨Nat.zero_le _, Nat.zero_le _⟩ ?_
      exact mh_ireturnp F Z dX12_told_115 (by unfold sp_told; (repeat' split) <;> first | rfl | (exfalso; omega)) rfl
    by_cases c_17_7 : w = 7
    · refine mh_tabIn (pc := 17) (off := 54) (tgt := 71) F dX12_told_17 (by omega) (by omega) (by omega) (by rw [c_17_7]; rfl) rfl ?_
      refine mh_aload0 (pc := 71) F dX12_told_71 ?_
      refine mh_iload1 (pc := 72) F dX12_told_72 ?_
      refine mh_callVp (pc := 73) (As := [.int (Int32.ofInt (k))]) (st := []) F (by omega) (k_stateOf (by omega) hF r82 (by omega) (by omega) (by omega) (by omega) (by omega) (by omega)) wv_RX12_154_yX12_stateOf dX12_told_73 sh_81 rfl (by decide) rfl rfl (Nat.le_of_ble_eq_true rfl) ⟨Nat.zero_le _, Nat.zero_le _⟩ ?_
      exact mh_ireturnp F Z dX12_told_76 (by unfold sp_told; (repeat' split) <;> first | rfl | (exfalso; omega)) rfl
    by_cases c_17_8 : w = 8
    · refine mh_tabIn (pc := 17) (off := 60) (tgt := 77) F dX12_told_17 (by omega) (by omega) (by omega) (by rw [c_17_8]; rfl) rfl ?_
      refine mh_aload0 (pc := 77) F dX12_told_77 ?_
      refine mh_iload1 (pc := 78) F dX12_told_78 ?_
      refine mh_iconst (pc := 79) F dX12_told_79 ?_
      refine mh_callVp (pc := 80) (As := [.int (Int32.ofInt (k)), .int (Int32.ofInt (0))]) (st := []) F (by omega) (k_its (by omega) hF r82 (by omega) (by omega)) wv_RX12_79_yX12_its dX12_told_80 sh_81 rfl (by decide) rfl rfl (Nat.le_of_ble_eq_true rfl) ⟨Nat.zero_le _, Nat.zero_le _⟩ ?_
      refine mh_aload0 (pc := 83) F dX12_told_83 ?_
      refine mh_iload1 (pc := 84) F dX12_told_84 ?_
      refine mh_iconst (pc := 85) F dX12_told_85 ?_
      refine mh_callVp (pc := 86) (As := [.int (Int32.ofInt (k)), .int (Int32.ofInt (1))]) (st := [.int (Int32.ofInt (s (41 + 9 * k + 0)))]) F (by omega) (k_its (by omega) hF r82 (by omega) (by omega)) wv_RX12_79_yX12_its dX12_told_86 sh_81 rfl (by decide) rfl rfl (Nat.le_of_ble_eq_true rfl) ⟨Nat.zero_le _, Nat.zero_le _⟩ ?_
      refine mh_callSp (pc := 89) (As := [.int (Int32.ofInt (s (41 + 9 * k + 0))), .int (Int32.ofInt (s (41 + 9 * k + 1)))]) (st := []) F (by omega) (k_turns (by omega) (by omega) (by omega)) ws_RX12_82 dX12_told_89 rfl rfl (Nat.le_of_ble_eq_true rfl) ⟨Nat.zero_le _, Nat.zero_le _⟩ ?_
      exact mh_ireturnp F Z dX12_told_92 (by unfold sp_told; (repeat' split) <;> first | rfl | (exfalso; omega)) rfl
    by_cases c_17_9 : w = 9
    · refine mh_tabIn (pc := 17) (off := 76) (tgt := 93) F dX12_told_17 (by omega) (by omega) (by omega) (by rw [c_17_9]; rfl) rfl ?_
      refine mh_iload3 (pc := 93) F dX12_told_93 ?_
      refine mh_if_eq (pc := 94) (tgt := 107) F dX12_told_94 rfl (by omega) (fun c_94 => ?_) (fun c_94 => ?_)
      · refine mh_iconst (pc := 107) F dX12_told_107 ?_
        exact mh_ireturnp F Z dX12_told_108 (by unfold sp_told; (repeat' split) <;> first | rfl | (exfalso; omega)) rfl
      · exact absurd c_94 (by decide)
    refine mh_tabOut (pc := 17) (tgt := 109) F dX12_told_17 (by omega) (by omega) rfl ?_
    refine mh_aload0 (pc := 109) F dX12_told_109 ?_
    refine mh_iload1 (pc := 110) F dX12_told_110 ?_
    refine mh_iload2 (pc := 111) F dX12_told_111 ?_
    refine mh_callVp (pc := 112) (As := [.int (Int32.ofInt (k)), .int (Int32.ofInt (w))]) (st := []) F (by omega) (k_its (by omega) hF r82 (by omega) (by omega)) wv_RX12_79_yX12_its dX12_told_112 sh_81 rfl (by decide) rfl rfl (Nat.le_of_ble_eq_true rfl) ⟨Nat.zero_le _, Nat.zero_le _⟩ ?_
    exact mh_ireturnp F Z dX12_told_115 (by unfold sp_told; (repeat' split) <;> first | rfl | (exfalso; omega)) rfl
  · refine mh_iconst (pc := 10) F dX12_told_10 ?_
    refine mh_goto (pc := 11) (tgt := 15) F dX12_told_11 rfl ?_
    refine mh_istore3 (pc := 15) F dX12_told_15 rfl (by decide) ?_
    refine mh_iload2 (pc := 16) F dX12_told_16 ?_
    by_cases c_17_4 : w = 4
    · refine mh_tabIn (pc := 17) (off := 39) (tgt := 56) F dX12_told_17 (by omega) (by omega) (by omega) (by rw [c_17_4]; rfl) rfl ?_
      refine mh_iload3 (pc := 56) F dX12_told_56 ?_
      refine mh_if_eq (pc := 57) (tgt := 69) F dX12_told_57 rfl (by omega) (fun c_57 => ?_) (fun c_57 => ?_)
      · exact absurd c_57 (by decide)
      · refine mh_aload0 (pc := 60) F dX12_told_60 ?_
        refine mh_iload1 (pc := 61) F dX12_told_61 ?_
        refine mh_iconst (pc := 62) F dX12_told_62 ?_
        refine mh_callVp (pc := 63) (As := [.int (Int32.ofInt (k)), .int (Int32.ofInt (4))]) (st := []) F (by omega) (k_its (by omega) hF r82 (by omega) (by omega)) wv_RX12_79_yX12_its dX12_told_63 sh_81 rfl (by decide) rfl rfl (Nat.le_of_ble_eq_true rfl) ⟨Nat.zero_le _, Nat.zero_le _⟩ ?_
        refine mh_goto (pc := 66) (tgt := 70) F dX12_told_66 rfl ?_
        exact mh_ireturnp F Z dX12_told_70 (by unfold sp_told; (repeat' split) <;> first | rfl | (exfalso; omega)) rfl
    by_cases c_17_5 : w = 5
    · refine mh_tabIn (pc := 17) (off := 92) (tgt := 109) F dX12_told_17 (by omega) (by omega) (by omega) (by rw [c_17_5]; rfl) rfl ?_
      refine mh_aload0 (pc := 109) F dX12_told_109 ?_
      refine mh_iload1 (pc := 110) F dX12_told_110 ?_
      refine mh_iload2 (pc := 111) F dX12_told_111 ?_
      refine mh_callVp (pc := 112) (As := [.int (Int32.ofInt (k)), .int (Int32.ofInt (w))]) (st := []) F (by omega) (k_its (by omega) hF r82 (by omega) (by omega)) wv_RX12_79_yX12_its dX12_told_112 sh_81 rfl (by decide) rfl rfl (Nat.le_of_ble_eq_true rfl) ⟨Nat.zero_le _, Nat.zero_le _⟩ ?_
      exact mh_ireturnp F Z dX12_told_115 (by unfold sp_told; (repeat' split) <;> first | rfl | (exfalso; omega)) rfl
    by_cases c_17_6 : w = 6
    · refine mh_tabIn (pc := 17) (off := 92) (tgt := 109) F dX12_told_17 (by omega) (by omega) (by omega) (by rw [c_17_6]; rfl) rfl ?_
      refine mh_aload0 (pc := 109) F dX12_told_109 ?_
      refine mh_iload1 (pc := 110) F dX12_told_110 ?_
      refine mh_iload2 (pc := 111) F dX12_told_111 ?_
      refine mh_callVp (pc := 112) (As := [.int (Int32.ofInt (k)), .int (Int32.ofInt (w))]) (st := []) F (by omega) (k_its (by omega) hF r82 (by omega) (by omega)) wv_RX12_79_yX12_its dX12_told_112 sh_81 rfl (by decide) rfl rfl (Nat.le_of_ble_eq_true rfl) ⟨Nat.zero_le _, Nat.zero_le _⟩ ?_
      exact mh_ireturnp F Z dX12_told_115 (by unfold sp_told; (repeat' split) <;> first | rfl | (exfalso; omega)) rfl
    by_cases c_17_7 : w = 7
    · refine mh_tabIn (pc := 17) (off := 54) (tgt := 71) F dX12_told_17 (by omega) (by omega) (by omega) (by rw [c_17_7]; rfl) rfl ?_
      refine mh_aload0 (pc := 71) F dX12_told_71 ?_
      refine mh_iload1 (pc := 72) F dX12_told_72 ?_
      refine mh_callVp (pc := 73) (As := [.int (Int32.ofInt (k))]) (st := []) F (by omega) (k_stateOf (by omega) hF r82 (by omega) (by omega) (by omega) (by omega) (by omega) (by omega)) wv_RX12_154_yX12_stateOf dX12_told_73 sh_81 rfl (by decide) rfl rfl (Nat.le_of_ble_eq_true rfl) ⟨Nat.zero_le _, Nat.zero_le _⟩ ?_
      exact mh_ireturnp F Z dX12_told_76 (by unfold sp_told; (repeat' split) <;> first | rfl | (exfalso; omega)) rfl
    by_cases c_17_8 : w = 8
    · refine mh_tabIn (pc := 17) (off := 60) (tgt := 77) F dX12_told_17 (by omega) (by omega) (by omega) (by rw [c_17_8]; rfl) rfl ?_
      refine mh_aload0 (pc := 77) F dX12_told_77 ?_
      refine mh_iload1 (pc := 78) F dX12_told_78 ?_
      refine mh_iconst (pc := 79) F dX12_told_79 ?_
      refine mh_callVp (pc := 80) (As := [.int (Int32.ofInt (k)), .int (Int32.ofInt (0))]) (st := []) F (by omega) (k_its (by omega) hF r82 (by omega) (by omega)) wv_RX12_79_yX12_its dX12_told_80 sh_81 rfl (by decide) rfl rfl (Nat.le_of_ble_eq_true rfl) ⟨Nat.zero_le _, Nat.zero_le _⟩ ?_
      refine mh_aload0 (pc := 83) F dX12_told_83 ?_
      refine mh_iload1 (pc := 84) F dX12_told_84 ?_
      refine mh_iconst (pc := 85) F dX12_told_85 ?_
      refine mh_callVp (pc := 86) (As := [.int (Int32.ofInt (k)), .int (Int32.ofInt (1))]) (st := [.int (Int32.ofInt (s (41 + 9 * k + 0)))]) F (by omega) (k_its (by omega) hF r82 (by omega) (by omega)) wv_RX12_79_yX12_its dX12_told_86 sh_81 rfl (by decide) rfl rfl (Nat.le_of_ble_eq_true rfl) ⟨Nat.zero_le _, Nat.zero_le _⟩ ?_
      refine mh_callSp (pc := 89) (As := [.int (Int32.ofInt (s (41 + 9 * k + 0))), .int (Int32.ofInt (s (41 + 9 * k + 1)))]) (st := []) F (by omega) (k_turns (by omega) (by omega) (by omega)) ws_RX12_82 dX12_told_89 rfl rfl (Nat.le_of_ble_eq_true rfl) ⟨Nat.zero_le _, Nat.zero_le _⟩ ?_
      exact mh_ireturnp F Z dX12_told_92 (by unfold sp_told; (repeat' split) <;> first | rfl | (exfalso; omega)) rfl
    by_cases c_17_9 : w = 9
    · refine mh_tabIn (pc := 17) (off := 76) (tgt := 93) F dX12_told_17 (by omega) (by omega) (by omega) (by rw [c_17_9]; rfl) rfl ?_
      refine mh_iload3 (pc := 93) F dX12_told_93 ?_
      refine mh_if_eq (pc := 94) (tgt := 107) F dX12_told_94 rfl (by omega) (fun c_94 => ?_) (fun c_94 => ?_)
      · exact absurd c_94 (by decide)
      · refine mh_aload0 (pc := 97) F dX12_told_97 ?_
        refine mh_iload1 (pc := 98) F dX12_told_98 ?_
        refine mh_bipush (pc := 99) F dX12_told_99 rfl ?_
        refine mh_callVp (pc := 101) (As := [.int (Int32.ofInt (k)), .int (Int32.ofInt (7))]) (st := []) F (by omega) (k_its (by omega) hF r82 (by omega) (by omega)) wv_RX12_79_yX12_its dX12_told_101 sh_81 rfl (by decide) rfl rfl (Nat.le_of_ble_eq_true rfl) ⟨Nat.zero_le _, Nat.zero_le _⟩ ?_
        refine mh_goto (pc := 104) (tgt := 108) F dX12_told_104 rfl ?_
        exact mh_ireturnp F Z dX12_told_108 (by unfold sp_told; (repeat' split) <;> first | rfl | (exfalso; omega)) rfl
    refine mh_tabOut (pc := 17) (tgt := 109) F dX12_told_17 (by omega) (by omega) rfl ?_
    refine mh_aload0 (pc := 109) F dX12_told_109 ?_
    refine mh_iload1 (pc := 110) F dX12_told_110 ?_
    refine mh_iload2 (pc := 111) F dX12_told_111 ?_
    refine mh_callVp (pc := 112) (As := [.int (Int32.ofInt (k)), .int (Int32.ofInt (w))]) (st := []) F (by omega) (k_its (by omega) hF r82 (by omega) (by omega)) wv_RX12_79_yX12_its dX12_told_112 sh_81 rfl (by decide) rfl rfl (Nat.le_of_ble_eq_true rfl) ⟨Nat.zero_le _, Nat.zero_le _⟩ ?_
    exact mh_ireturnp F Z dX12_told_115 (by unfold sp_told; (repeat' split) <;> first | rfl | (exfalso; omega)) rfl

set_option maxRecDepth 100000 in
set_option maxHeartbeats 4000000 in
theorem k_isUnder {g : mh_G} {d : Nat} (hd : 2 ≤ d) {h : Nat → Int → Int} {k x : Int} (hk : 0 ≤ k ∧ k ≤ 6) (hx : -2147483648 ≤ x ∧ x < 2147483648) : mh_MP g d yX12_isUnder cX12_isUnder 2 (some .boolean) 96 [.int (Int32.ofInt (k)), .int (Int32.ofInt (x))] h (some (.int (Int32.ofInt (mh_B (x = 0 ∨ k = x ∨ sp_above k = x))))) := by
  refine mh_M_of RX12 rfl (by decide +kernel) [some (.int (Int32.ofInt (k))), some (.int (Int32.ofInt (x)))] rfl (Nat.le_of_ble_eq_true rfl) (fun f F Z hn0 hR => ?_)
  have hab := sp_above_rg k
  refine mh_iload1 (pc := 0) F dX12_isUnder_0 ?_
  refine mh_if_eq (pc := 1) (tgt := 17) F dX12_isUnder_1 rfl (by omega) (fun c_1 => ?_) (fun c_1 => ?_)
  · refine mh_iconst (pc := 17) F dX12_isUnder_17 ?_
    refine mh_goto (pc := 18) (tgt := 22) F dX12_isUnder_18 rfl ?_
    exact mh_zreturnp F Z dX12_isUnder_22 (Or.inl ⟨rfl, (by omega)⟩) rfl
  · refine mh_iload0 (pc := 4) F dX12_isUnder_4 ?_
    refine mh_iload1 (pc := 5) F dX12_isUnder_5 ?_
    refine mh_icmp_eq (pc := 6) (tgt := 17) F dX12_isUnder_6 rfl (by omega) (by omega) (fun c_6 => ?_) (fun c_6 => ?_)
    · refine mh_iconst (pc := 17) F dX12_isUnder_17 ?_
      refine mh_goto (pc := 18) (tgt := 22) F dX12_isUnder_18 rfl ?_
      exact mh_zreturnp F Z dX12_isUnder_22 (Or.inl ⟨rfl, (by omega)⟩) rfl
    · refine mh_iload0 (pc := 9) F dX12_isUnder_9 ?_
      refine mh_callSp (pc := 10) (As := [.int (Int32.ofInt (k))]) (st := []) F (by omega) (k_above (by omega) (by omega)) ws_RX12_75 dX12_isUnder_10 rfl rfl (Nat.le_of_ble_eq_true rfl) ⟨Nat.zero_le _, Nat.zero_le _⟩ ?_
      refine mh_iload1 (pc := 13) F dX12_isUnder_13 ?_
      refine mh_icmp_ne (pc := 14) (tgt := 21) F dX12_isUnder_14 rfl (by omega) (by omega) (fun c_14 => ?_) (fun c_14 => ?_)
      · refine mh_iconst (pc := 21) F dX12_isUnder_21 ?_
        exact mh_zreturnp F Z dX12_isUnder_22 (Or.inr ⟨rfl, (by omega)⟩) rfl
      · refine mh_iconst (pc := 17) F dX12_isUnder_17 ?_
        refine mh_goto (pc := 18) (tgt := 22) F dX12_isUnder_18 rfl ?_
        exact mh_zreturnp F Z dX12_isUnder_22 (Or.inl ⟨rfl, (by omega)⟩) rfl

set_option maxRecDepth 100000 in
set_option maxHeartbeats 4000000 in
theorem k_stands {g : mh_G} {d : Nat} (hd : 2 ≤ d) {h : Nat → Int → Int} (hF : mh_FX h) {s : Int → Int} (r82 : h 82 = s) {k : Int} (hk : 0 ≤ k ∧ k < 6) (hc : sp_cok (sp_row s k)) : mh_MP g d yX12_stands cX12_stands 2 (some .boolean) 96 [.ref 81, .int (Int32.ofInt (k))] h (some (.int (Int32.ofInt (mh_B (s (41 + 9 * k + 3) < 2 ∧ s (41 + 9 * k + 8) = 0))))) := by
  refine mh_M_of RX12 rfl (by decide +kernel) [some (.ref 81), some (.int (Int32.ofInt (k)))] rfl (Nat.le_of_ble_eq_true rfl) (fun f F Z hn0 hR => ?_)
  obtain ⟨c0, c1, c2, c3, c4, c5, c6, c7, c8, c9, c10, c11, c12, c13⟩ := hc
  unfold sp_row at c0 c1 c2 c3 c4 c5 c6 c7 c8 c9 c10 c11 c12 c13
  refine mh_aload0 (pc := 0) F dX12_stands_0 ?_
  refine mh_iload1 (pc := 1) F dX12_stands_1 ?_
  refine mh_iconst (pc := 2) F dX12_stands_2 ?_
  refine mh_callVp (pc := 3) (As := [.int (Int32.ofInt (k)), .int (Int32.ofInt (3))]) (st := []) F (by omega) (k_its (by omega) hF r82 (by omega) (by omega)) wv_RX12_79_yX12_its dX12_stands_3 sh_81 rfl (by decide) rfl rfl (Nat.le_of_ble_eq_true rfl) ⟨Nat.zero_le _, Nat.zero_le _⟩ ?_
  refine mh_iconst (pc := 6) F dX12_stands_6 ?_
  refine mh_icmp_ge (pc := 7) (tgt := 24) F dX12_stands_7 rfl (by omega) (by omega) (fun c_7 => ?_) (fun c_7 => ?_)
  · refine mh_iconst (pc := 24) F dX12_stands_24 ?_
    exact mh_zreturnp F Z dX12_stands_25 (Or.inr ⟨rfl, (by omega)⟩) rfl
  · refine mh_aload0 (pc := 10) F dX12_stands_10 ?_
    refine mh_iload1 (pc := 11) F dX12_stands_11 ?_
    refine mh_bipush (pc := 12) F dX12_stands_12 rfl ?_
    refine mh_callVp (pc := 14) (As := [.int (Int32.ofInt (k)), .int (Int32.ofInt (8))]) (st := []) F (by omega) (k_its (by omega) hF r82 (by omega) (by omega)) wv_RX12_79_yX12_its dX12_stands_14 sh_81 rfl (by decide) rfl rfl (Nat.le_of_ble_eq_true rfl) ⟨Nat.zero_le _, Nat.zero_le _⟩ ?_
    refine mh_if_ne (pc := 17) (tgt := 24) F dX12_stands_17 rfl (by omega) (fun c_17 => ?_) (fun c_17 => ?_)
    · refine mh_iconst (pc := 24) F dX12_stands_24 ?_
      exact mh_zreturnp F Z dX12_stands_25 (Or.inr ⟨rfl, (by omega)⟩) rfl
    · refine mh_iconst (pc := 20) F dX12_stands_20 ?_
      refine mh_goto (pc := 21) (tgt := 25) F dX12_stands_21 rfl ?_
      exact mh_zreturnp F Z dX12_stands_25 (Or.inl ⟨rfl, (by omega)⟩) rfl

set_option maxRecDepth 100000 in
set_option maxHeartbeats 4000000 in
theorem k_leaves {g : mh_G} {d : Nat} (hd : 2 ≤ d) {h : Nat → Int → Int} (hF : mh_FX h) {s : Int → Int} (r82 : h 82 = s) {k c : Int} (hk : 0 ≤ k ∧ k < 6) (hc : 0 ≤ c ∧ c < 4) : mh_M g d yX12_leaves cX12_leaves 3 none 96 0 0 [.ref 81, .int (Int32.ofInt (k)), .int (Int32.ofInt (c))] h (fun r h2 => r = none ∧ mh_FX h2 ∧ mh_fr [82] h h2 ∧ h2 82 = sp_leaves s k c) := by
  refine mh_M_of RX12 rfl (by decide +kernel) [some (.ref 81), some (.int (Int32.ofInt (k))), some (.int (Int32.ofInt (c)))] rfl (Nat.le_of_ble_eq_true rfl) (fun f F Z hn0 hR => ?_)
  refine mh_aload0 (pc := 0) F dX12_leaves_0 ?_
  refine mh_iload1 (pc := 1) F dX12_leaves_1 ?_
  refine mh_iconst (pc := 2) F dX12_leaves_2 ?_
  refine mh_iconst (pc := 3) F dX12_leaves_3 ?_
  refine mh_callV0 (pc := 4) (As := [.int (Int32.ofInt (k)), .int (Int32.ofInt (3)), .int (Int32.ofInt (2))]) (st := []) F (by omega) (k_sets (by omega) hF r82 (by omega) (by omega)) wv_RX12_140_yX12_sets dX12_leaves_4 sh_81 rfl (by decide) rfl rfl (Nat.le_of_ble_eq_true rfl) ⟨Nat.zero_le _, Nat.zero_le _⟩ (fun r1 h1 q1 => ?_)
  obtain ⟨rfl, F1, fr1, q1_0⟩ := q1
  have fr2 : mh_fr [82] h h1 := (mh_fr.tr mh_fr.rf fr1).mono (by simp)
  refine mh_aload0 (pc := 7) F dX12_leaves_7 ?_
  refine mh_iload1 (pc := 8) F dX12_leaves_8 ?_
  refine mh_iconst (pc := 9) F dX12_leaves_9 ?_
  refine mh_aload0 (pc := 10) F dX12_leaves_10 ?_
  refine mh_iload2 (pc := 11) F dX12_leaves_11 ?_
  refine mh_callVp (pc := 12) (As := [.int (Int32.ofInt (c))]) (st := [.int (Int32.ofInt (4)), .int (Int32.ofInt (k)), .ref 81]) F (by omega) (k_pace (by omega) F1 q1_0 (by omega)) wv_RX12_132_yX12_pace dX12_leaves_12 sh_81 rfl (by decide) rfl rfl (Nat.le_of_ble_eq_true rfl) ⟨Nat.zero_le _, Nat.zero_le _⟩ ?_
  refine mh_callV0 (pc := 15) (As := [.int (Int32.ofInt (k)), .int (Int32.ofInt (4)), .int (Int32.ofInt ((mh_ur s (41 + 9 * k + 3) 2) (33 + 2 * c)))]) (st := []) F (by omega) (k_sets (by omega) F1 q1_0 (by omega) (by omega)) wv_RX12_140_yX12_sets dX12_leaves_15 sh_81 rfl (by decide) rfl rfl (Nat.le_of_ble_eq_true rfl) ⟨Nat.zero_le _, Nat.zero_le _⟩ (fun r3 h3 q3 => ?_)
  obtain ⟨rfl, F3, fr3, q3_0⟩ := q3
  have fr4 : mh_fr [82] h h3 := (mh_fr.tr fr2 fr3).mono (by simp)
  refine mh_aload0 (pc := 18) F dX12_leaves_18 ?_
  refine mh_iload1 (pc := 19) F dX12_leaves_19 ?_
  refine mh_bipush (pc := 20) F dX12_leaves_20 rfl ?_
  refine mh_iload2 (pc := 22) F dX12_leaves_22 ?_
  refine mh_callV0 (pc := 23) (As := [.int (Int32.ofInt (k)), .int (Int32.ofInt (7)), .int (Int32.ofInt (c))]) (st := []) F (by omega) (k_sets (by omega) F3 q3_0 (by omega) (by omega)) wv_RX12_140_yX12_sets dX12_leaves_23 sh_81 rfl (by decide) rfl rfl (Nat.le_of_ble_eq_true rfl) ⟨Nat.zero_le _, Nat.zero_le _⟩ (fun r5 h5 q5 => ?_)
  obtain ⟨rfl, F5, fr5, q5_0⟩ := q5
  have fr6 : mh_fr [82] h h5 := (mh_fr.tr fr4 fr5).mono (by simp)
  exact mh_return F Z dX12_leaves_26 ⟨rfl, F5, (fr6.mono (by simp)), (q5_0.trans (by unfold sp_leaves; rw [mh_ur_ne (by omega)]))⟩

set_option maxRecDepth 100000 in
set_option maxHeartbeats 4000000 in
theorem p_churn {g : mh_G} {d : Nat} (hd : 9 ≤ d) {h : Nat → Int → Int} (hF : mh_FX h) {s : Int → Int} (r82 : h 82 = s) {er : Int → Int} (r85 : h 85 = er) {x : Int} (hx : -2147483648 ≤ x ∧ x < 2147483648) (hi : sp_inv s) : mh_M g d yX12_churn cX12_churn 3 (some .int) 96 0 0 [.ref 81, .int (Int32.ofInt (x))] h (fun r h2 => ∃ (vv : Int) (tt ee : Int → Int), (vv, tt, ee) = sp_churn x s er ∧ r = some (.int (Int32.ofInt vv)) ∧ mh_FX h2 ∧ mh_fr [82, 85, 86, 87] h h2 ∧ h2 82 = tt ∧ h2 85 = ee) := by
  refine mh_M_of RX12 rfl (by decide +kernel) [some (.ref 81), some (.int (Int32.ofInt (x))), none] rfl (Nat.le_of_ble_eq_true rfl) (fun f F Z hn0 hR => ?_)
  have hib := sp_inv_b hi
  have hm := hi.1
  have hq0 := hi.2.1
  have hws := hi.2.2.2.2.2
  obtain ⟨hH, hC⟩ := hi.2.2.2.1
  have hs1 := hi.2.2.1
  refine mh_iload1 (pc := 0) F dX12_churn_0 ?_
  refine mh_callSp (pc := 1) (As := [.int (Int32.ofInt (x))]) (st := []) F (by omega) (k_isKind (by omega) (by omega)) ws_RX12_137 dX12_churn_1 rfl rfl (Nat.le_of_ble_eq_true rfl) ⟨Nat.zero_le _, Nat.zero_le _⟩ ?_
  refine mh_ifb_ne (pc := 4) (tgt := 13) F dX12_churn_4 rfl (fun c_4 => ?_) (fun c_4 => ?_)
  · refine mh_aload0 (pc := 13) F dX12_churn_13 ?_
    refine mh_getr (b := 82) (pc := 14) F sh_81 (by decide) fw_RX12_9_12 dX12_churn_14 rfl (fx_81_0 hF) ?_
    refine mh_iconst (pc := 17) F dX12_churn_17 ?_
    refine mh_ialoadr (pc := 18) F sh_82 (by decide) (by omega) dX12_churn_18 r82 ?_
    refine mh_bipush (pc := 19) F dX12_churn_19 rfl ?_
    refine mh_icmp_ne (pc := 21) (tgt := 30) F dX12_churn_21 rfl (by omega) (by omega) (fun c_21 => ?_) (fun c_21 => ?_)
    · refine mh_aload0 (pc := 30) F dX12_churn_30 ?_
      refine mh_getr (b := 82) (pc := 31) F sh_81 (by decide) fw_RX12_9_12 dX12_churn_31 rfl (fx_81_0 hF) ?_
      refine mh_iconst (pc := 34) F dX12_churn_34 ?_
      refine mh_ialoadr (pc := 35) F sh_82 (by decide) (by omega) dX12_churn_35 r82 ?_
      refine mh_istore2 (pc := 36) F dX12_churn_36 rfl (by decide) ?_
      refine mh_aload0 (pc := 37) F dX12_churn_37 ?_
      refine mh_getr (b := 82) (pc := 38) F sh_81 (by decide) fw_RX12_9_12 dX12_churn_38 rfl (fx_81_0 hF) ?_
      refine mh_iconst (pc := 41) F dX12_churn_41 ?_
      refine mh_dup2 (pc := 42) F dX12_churn_42 rfl rfl ?_
      refine mh_ialoadr (pc := 43) F sh_82 (by decide) (by omega) dX12_churn_43 r82 ?_
      refine mh_iconst (pc := 44) F dX12_churn_44 ?_
      refine mh_iadd (pc := 45) F dX12_churn_45 ?_
      refine mh_iastore (pc := 46) F sh_82 (by decide) (by omega) dX12_churn_46 ?_
      refine mh_nmh (fun h1 e1 => ?_)
      have F1 : mh_FX h1 := by rw [e1]; exact hF.upa rfl
      have r82_1 : h1 82 = mh_ur s 3 ((s 3) + 1) := by rw [e1, mh_up_rs, r82]
      obtain ⟨s1, es1⟩ : ∃ z : Int → Int, z = mh_ur s 3 ((s 3) + 1) := ⟨_, rfl⟩
      rw [← es1] at r82_1
      have r85_1 : h1 85 = er := by rw [e1, mh_up_row (by decide)]; exact r85
      have fr1 : mh_fr [82] h h1 := mh_fr.up mh_fr.rf e1
      have s1e : s1 3 = s 3 + 1 := by rw [es1]; exact mh_ur_eq rfl
      refine mh_aload0 (pc := 47) F dX12_churn_47 ?_
      refine mh_iload2 (pc := 48) F dX12_churn_48 ?_
      refine mh_iconst (pc := 49) F dX12_churn_49 ?_
      refine mh_iload1 (pc := 50) F dX12_churn_50 ?_
      refine mh_bipush (pc := 51) F dX12_churn_51 rfl ?_
      refine mh_idiv (pc := 53) F dX12_churn_53 (by omega) (by omega) (by omega) ?_
      refine mh_callV0 (pc := 54) (As := [.int (Int32.ofInt (s 3)), .int (Int32.ofInt (0)), .int (Int32.ofInt (x.tdiv 10))]) (st := []) F (by omega) (k_sets (by omega) F1 r82_1 (by omega) (by omega)) wv_RX12_140_yX12_sets dX12_churn_54 sh_81 rfl (by decide) rfl rfl (Nat.le_of_ble_eq_true rfl) ⟨Nat.zero_le _, Nat.zero_le _⟩ (fun r2 h2 q2 => ?_)
      obtain ⟨rfl, F2, fr2, q2_0⟩ := q2
      have r85_3 : h2 85 = er := (fr2 _ (by decide)).trans r85_1
      have fr3 : mh_fr [82] h h2 := (mh_fr.tr fr1 fr2).mono (by simp)
      refine mh_aload0 (pc := 57) F dX12_churn_57 ?_
      refine mh_iload2 (pc := 58) F dX12_churn_58 ?_
      refine mh_iconst (pc := 59) F dX12_churn_59 ?_
      refine mh_iload1 (pc := 60) F dX12_churn_60 ?_
      refine mh_bipush (pc := 61) F dX12_churn_61 rfl ?_
      refine mh_irem (pc := 63) F dX12_churn_63 (by omega) (by omega) (by omega) ?_
      refine mh_callV0 (pc := 64) (As := [.int (Int32.ofInt (s 3)), .int (Int32.ofInt (1)), .int (Int32.ofInt (x.tmod 10))]) (st := []) F (by omega) (k_sets (by omega) F2 q2_0 (by omega) (by omega)) wv_RX12_140_yX12_sets dX12_churn_64 sh_81 rfl (by decide) rfl rfl (Nat.le_of_ble_eq_true rfl) ⟨Nat.zero_le _, Nat.zero_le _⟩ (fun r4 h4 q4 => ?_)
      obtain ⟨rfl, F4, fr4, q4_0⟩ := q4
      have r85_5 : h4 85 = er := (fr4 _ (by decide)).trans r85_3
      have fr5 : mh_fr [82] h h4 := (mh_fr.tr fr3 fr4).mono (by simp)
      refine mh_aload0 (pc := 67) F dX12_churn_67 ?_
      refine mh_iload2 (pc := 68) F dX12_churn_68 ?_
      refine mh_callV0 (pc := 69) (As := [.int (Int32.ofInt (s 3))]) (st := []) F (by omega) (k_anew (by omega) F4 q4_0 (by omega)) wv_RX12_144_yX12_anew dX12_churn_69 sh_81 rfl (by decide) rfl rfl (Nat.le_of_ble_eq_true rfl) ⟨Nat.zero_le _, Nat.zero_le _⟩ (fun r6 h6 q6 => ?_)
      obtain ⟨rfl, F6, fr6, q6_0⟩ := q6
      have r85_7 : h6 85 = er := (fr6 _ (by decide)).trans r85_5
      have fr7 : mh_fr [82] h h6 := (mh_fr.tr fr5 fr6).mono (by simp)
      refine mh_iload2 (pc := 72) F dX12_churn_72 ?_
      exact mh_ireturn F Z dX12_churn_73 ⟨_, _, _, (by unfold sp_churn; (repeat' split) <;> first | rfl | (exfalso; omega) | (rw [es1])), rfl, F6, (fr7.mono (by simp)), q6_0, r85_7⟩
    · refine mh_aload0 (pc := 24) F dX12_churn_24 ?_
      refine mh_iconst (pc := 25) F dX12_churn_25 ?_
      refine mh_callV0 (pc := 26) (As := [.int (Int32.ofInt (4))]) (st := []) F (by omega) (k_error (by omega) hF r85 (by omega)) wv_RX12_114_yX12_error dX12_churn_26 sh_81 rfl (by decide) rfl rfl (Nat.le_of_ble_eq_true rfl) ⟨Nat.zero_le _, Nat.zero_le _⟩ (fun r8 h8 q8 => ?_)
      obtain ⟨rfl, F8, fr8, q8_0⟩ := q8
      have r82_9 : h8 82 = s := (fr8 _ (by decide)).trans r82
      have fr9 : mh_fr [85] h h8 := (mh_fr.tr mh_fr.rf fr8).mono (by simp)
      exact mh_ireturn F Z dX12_churn_29 ⟨_, _, _, (by unfold sp_churn; (repeat' split) <;> first | rfl | (exfalso; omega)), rfl, F8, (fr9.mono (by simp)), r82_9, q8_0⟩
  · refine mh_aload0 (pc := 7) F dX12_churn_7 ?_
    refine mh_iconst (pc := 8) F dX12_churn_8 ?_
    refine mh_callV0 (pc := 9) (As := [.int (Int32.ofInt (1))]) (st := []) F (by omega) (k_error (by omega) hF r85 (by omega)) wv_RX12_114_yX12_error dX12_churn_9 sh_81 rfl (by decide) rfl rfl (Nat.le_of_ble_eq_true rfl) ⟨Nat.zero_le _, Nat.zero_le _⟩ (fun r10 h10 q10 => ?_)
    obtain ⟨rfl, F10, fr10, q10_0⟩ := q10
    have r82_11 : h10 82 = s := (fr10 _ (by decide)).trans r82
    have fr11 : mh_fr [85] h h10 := (mh_fr.tr mh_fr.rf fr10).mono (by simp)
    exact mh_ireturn F Z dX12_churn_12 ⟨_, _, _, (by unfold sp_churn; (repeat' split) <;> first | rfl | (exfalso; omega)), rfl, F10, (fr11.mono (by simp)), r82_11, q10_0⟩

set_option maxRecDepth 100000 in
set_option maxHeartbeats 4000000 in
theorem p_ofChurn {g : mh_G} {d : Nat} (hd : 9 ≤ d) {h : Nat → Int → Int} (hF : mh_FX h) {s : Int → Int} (r82 : h 82 = s) {er : Int → Int} (r85 : h 85 = er) {k w : Int} (hk : -2147483648 ≤ k ∧ k < 2147483648) (hw : -2147483648 ≤ w ∧ w < 2147483648) (hi : sp_inv s) : mh_M g d yX12_ofChurn cX12_ofChurn 3 (some .int) 96 0 0 [.ref 81, .int (Int32.ofInt (k)), .int (Int32.ofInt (w))] h (fun r h2 => ∃ (vv : Int) (tt ee : Int → Int), (vv, tt, ee) = sp_ofChurn k w s er ∧ r = some (.int (Int32.ofInt vv)) ∧ mh_FX h2 ∧ mh_fr [82, 85, 86, 87] h h2 ∧ h2 82 = tt ∧ h2 85 = ee) := by
  refine mh_M_of RX12 rfl (by decide +kernel) [some (.ref 81), some (.int (Int32.ofInt (k))), some (.int (Int32.ofInt (w)))] rfl (Nat.le_of_ble_eq_true rfl) (fun f F Z hn0 hR => ?_)
  have hib := sp_inv_b hi
  have hm := hi.1
  have hq0 := hi.2.1
  have hws := hi.2.2.2.2.2
  obtain ⟨hH, hC⟩ := hi.2.2.2.1
  have hs1 := hi.2.2.1
  refine mh_aload0 (pc := 0) F dX12_ofChurn_0 ?_
  refine mh_iload1 (pc := 1) F dX12_ofChurn_1 ?_
  refine mh_callVp (pc := 2) (As := [.int (Int32.ofInt (k))]) (st := []) F (by omega) (k_isChurn (by omega) hF r82 (by omega) (by omega)) wv_RX12_148_yX12_isChurn dX12_ofChurn_2 sh_81 rfl (by decide) rfl rfl (Nat.le_of_ble_eq_true rfl) ⟨Nat.zero_le _, Nat.zero_le _⟩ ?_
  refine mh_ifb_eq (pc := 5) (tgt := 29) F dX12_ofChurn_5 rfl (fun c_5 => ?_) (fun c_5 => ?_)
  · refine mh_aload0 (pc := 29) F dX12_ofChurn_29 ?_
    refine mh_iconst (pc := 30) F dX12_ofChurn_30 ?_
    refine mh_callV0 (pc := 31) (As := [.int (Int32.ofInt (1))]) (st := []) F (by omega) (k_error (by omega) hF r85 (by omega)) wv_RX12_114_yX12_error dX12_ofChurn_31 sh_81 rfl (by decide) rfl rfl (Nat.le_of_ble_eq_true rfl) ⟨Nat.zero_le _, Nat.zero_le _⟩ (fun r1 h1 q1 => ?_)
    obtain ⟨rfl, F1, fr1, q1_0⟩ := q1
    have r82_2 : h1 82 = s := (fr1 _ (by decide)).trans r82
    have fr2 : mh_fr [85] h h1 := (mh_fr.tr mh_fr.rf fr1).mono (by simp)
    exact mh_ireturn F Z dX12_ofChurn_34 ⟨_, _, _, (by unfold sp_ofChurn; (repeat' split) <;> first | rfl | (exfalso; omega)), rfl, F1, (fr2.mono (by simp)), r82_2, q1_0⟩
  · refine mh_iload2 (pc := 8) F dX12_ofChurn_8 ?_
    refine mh_i2l (pc := 9) F dX12_ofChurn_9 (by omega) ?_
    refine mh_lconst (x := 0) (pc := 10) F dX12_ofChurn_10 rfl ?_
    refine mh_ldc2 (x := 9) (pc := 11) F dX12_ofChurn_11 tw_6_40 ?_
    refine mh_callSp (pc := 14) (As := [.long (Int64.ofInt (w)), .long (Int64.ofInt (0)), .long (Int64.ofInt (9))]) (st := []) F (by omega) (k_in (by omega) (by omega) (by omega) (by omega)) ws_RX12_69 dX12_ofChurn_14 rfl rfl (Nat.le_of_ble_eq_true rfl) ⟨Nat.zero_le _, Nat.zero_le _⟩ ?_
    refine mh_ifb_eq (pc := 17) (tgt := 29) F dX12_ofChurn_17 rfl (fun c_17 => ?_) (fun c_17 => ?_)
    · refine mh_aload0 (pc := 29) F dX12_ofChurn_29 ?_
      refine mh_iconst (pc := 30) F dX12_ofChurn_30 ?_
      refine mh_callV0 (pc := 31) (As := [.int (Int32.ofInt (1))]) (st := []) F (by omega) (k_error (by omega) hF r85 (by omega)) wv_RX12_114_yX12_error dX12_ofChurn_31 sh_81 rfl (by decide) rfl rfl (Nat.le_of_ble_eq_true rfl) ⟨Nat.zero_le _, Nat.zero_le _⟩ (fun r3 h3 q3 => ?_)
      obtain ⟨rfl, F3, fr3, q3_0⟩ := q3
      have r82_4 : h3 82 = s := (fr3 _ (by decide)).trans r82
      have fr4 : mh_fr [85] h h3 := (mh_fr.tr mh_fr.rf fr3).mono (by simp)
      exact mh_ireturn F Z dX12_ofChurn_34 ⟨_, _, _, (by unfold sp_ofChurn; (repeat' split) <;> first | rfl | (exfalso; omega)), rfl, F3, (fr4.mono (by simp)), r82_4, q3_0⟩
    · have zHC := hi.2.2.2.2.1 k (by omega) (by omega)
      have zHC2 := zHC
      obtain ⟨c0, c1, c2, c3, c4, c5, c6, c7, c8, c9, c10, c11, c12, c13⟩ := zHC2
      unfold sp_row at c0 c1 c2 c3 c4 c5 c6 c7 c8 c9 c10 c11 c12 c13
      refine mh_aload0 (pc := 20) F dX12_ofChurn_20 ?_
      refine mh_iload1 (pc := 21) F dX12_ofChurn_21 ?_
      refine mh_iload2 (pc := 22) F dX12_ofChurn_22 ?_
      refine mh_callVp (pc := 23) (As := [.int (Int32.ofInt (k)), .int (Int32.ofInt (w))]) (st := []) F (by omega) (k_told (by omega) hF r82 (by omega) zHC (by omega)) wv_RX12_151_yX12_told dX12_ofChurn_23 sh_81 rfl (by decide) rfl rfl (Nat.le_of_ble_eq_true rfl) ⟨Nat.zero_le _, Nat.zero_le _⟩ ?_
      refine mh_goto (pc := 26) (tgt := 34) F dX12_ofChurn_26 rfl ?_
      exact mh_ireturn F Z dX12_ofChurn_34 ⟨_, _, _, (by unfold sp_ofChurn; (repeat' split) <;> first | rfl | (exfalso; omega)), rfl, hF, (mh_fr.rf.mono (by simp)), r82, r85⟩

set_option maxRecDepth 100000 in
set_option maxHeartbeats 4000000 in
theorem p_become {g : mh_G} {d : Nat} (hd : 9 ≤ d) {h : Nat → Int → Int} (hF : mh_FX h) {s : Int → Int} (r82 : h 82 = s) {er : Int → Int} (r85 : h 85 = er) {k x : Int} (hk : -2147483648 ≤ k ∧ k < 2147483648) (hx : -2147483648 ≤ x ∧ x < 2147483648) (hi : sp_inv s) : mh_M g d yX12_become_ cX12_become_ 4 (some .int) 96 0 0 [.ref 81, .int (Int32.ofInt (k)), .int (Int32.ofInt (x))] h (fun r h2 => ∃ (vv : Int) (tt ee : Int → Int), (vv, tt, ee) = sp_become k x s er ∧ r = some (.int (Int32.ofInt vv)) ∧ mh_FX h2 ∧ mh_fr [82, 85, 86, 87] h h2 ∧ h2 82 = tt ∧ h2 85 = ee) := by
  refine mh_M_of RX12 rfl (by decide +kernel) [some (.ref 81), some (.int (Int32.ofInt (k))), some (.int (Int32.ofInt (x))), none] rfl (Nat.le_of_ble_eq_true rfl) (fun f F Z hn0 hR => ?_)
  have hib := sp_inv_b hi
  have hm := hi.1
  have hq0 := hi.2.1
  have hws := hi.2.2.2.2.2
  obtain ⟨hH, hC⟩ := hi.2.2.2.1
  have hs1 := hi.2.2.1
  refine mh_aload0 (pc := 0) F dX12_become__0 ?_
  refine mh_iload1 (pc := 1) F dX12_become__1 ?_
  refine mh_callVp (pc := 2) (As := [.int (Int32.ofInt (k))]) (st := []) F (by omega) (k_isChurn (by omega) hF r82 (by omega) (by omega)) wv_RX12_148_yX12_isChurn dX12_become__2 sh_81 rfl (by decide) rfl rfl (Nat.le_of_ble_eq_true rfl) ⟨Nat.zero_le _, Nat.zero_le _⟩ ?_
  refine mh_ifb_eq (pc := 5) (tgt := 15) F dX12_become__5 rfl (fun c_5 => ?_) (fun c_5 => ?_)
  · refine mh_aload0 (pc := 15) F dX12_become__15 ?_
    refine mh_iconst (pc := 16) F dX12_become__16 ?_
    refine mh_callV0 (pc := 17) (As := [.int (Int32.ofInt (1))]) (st := []) F (by omega) (k_error (by omega) hF r85 (by omega)) wv_RX12_114_yX12_error dX12_become__17 sh_81 rfl (by decide) rfl rfl (Nat.le_of_ble_eq_true rfl) ⟨Nat.zero_le _, Nat.zero_le _⟩ (fun r1 h1 q1 => ?_)
    obtain ⟨rfl, F1, fr1, q1_0⟩ := q1
    have r82_2 : h1 82 = s := (fr1 _ (by decide)).trans r82
    have fr2 : mh_fr [85] h h1 := (mh_fr.tr mh_fr.rf fr1).mono (by simp)
    exact mh_ireturn F Z dX12_become__20 ⟨_, _, _, (by unfold sp_become; (repeat' split) <;> first | rfl | (exfalso; omega)), rfl, F1, (fr2.mono (by simp)), r82_2, q1_0⟩
  · refine mh_iload2 (pc := 8) F dX12_become__8 ?_
    refine mh_callSp (pc := 9) (As := [.int (Int32.ofInt (x))]) (st := []) F (by omega) (k_isKind (by omega) (by omega)) ws_RX12_137 dX12_become__9 rfl rfl (Nat.le_of_ble_eq_true rfl) ⟨Nat.zero_le _, Nat.zero_le _⟩ ?_
    refine mh_ifb_ne (pc := 12) (tgt := 21) F dX12_become__12 rfl (fun c_12 => ?_) (fun c_12 => ?_)
    · have zHC := hi.2.2.2.2.1 k (by omega) (by omega)
      have zHC2 := zHC
      obtain ⟨c0, c1, c2, c3, c4, c5, c6, c7, c8, c9, c10, c11, c12, c13⟩ := zHC2
      unfold sp_row at c0 c1 c2 c3 c4 c5 c6 c7 c8 c9 c10 c11 c12 c13
      refine mh_aload0 (pc := 21) F dX12_become__21 ?_
      refine mh_iload1 (pc := 22) F dX12_become__22 ?_
      refine mh_iconst (pc := 23) F dX12_become__23 ?_
      refine mh_callVp (pc := 24) (As := [.int (Int32.ofInt (k)), .int (Int32.ofInt (0))]) (st := []) F (by omega) (k_its (by omega) hF r82 (by omega) (by omega)) wv_RX12_79_yX12_its dX12_become__24 sh_81 rfl (by decide) rfl rfl (Nat.le_of_ble_eq_true rfl) ⟨Nat.zero_le _, Nat.zero_le _⟩ ?_
      refine mh_istore3 (pc := 27) F dX12_become__27 rfl (by decide) ?_
      refine mh_aload0 (pc := 28) F dX12_become__28 ?_
      refine mh_iload1 (pc := 29) F dX12_become__29 ?_
      refine mh_iconst (pc := 30) F dX12_become__30 ?_
      refine mh_iload2 (pc := 31) F dX12_become__31 ?_
      refine mh_bipush (pc := 32) F dX12_become__32 rfl ?_
      refine mh_idiv (pc := 34) F dX12_become__34 (by omega) (by omega) (by omega) ?_
      refine mh_callV0 (pc := 35) (As := [.int (Int32.ofInt (k)), .int (Int32.ofInt (0)), .int (Int32.ofInt (x.tdiv 10))]) (st := []) F (by omega) (k_sets (by omega) hF r82 (by omega) (by omega)) wv_RX12_140_yX12_sets dX12_become__35 sh_81 rfl (by decide) rfl rfl (Nat.le_of_ble_eq_true rfl) ⟨Nat.zero_le _, Nat.zero_le _⟩ (fun r3 h3 q3 => ?_)
      obtain ⟨rfl, F3, fr3, q3_0⟩ := q3
      have r85_4 : h3 85 = er := (fr3 _ (by decide)).trans r85
      have fr4 : mh_fr [82] h h3 := (mh_fr.tr mh_fr.rf fr3).mono (by simp)
      refine mh_aload0 (pc := 38) F dX12_become__38 ?_
      refine mh_iload1 (pc := 39) F dX12_become__39 ?_
      refine mh_iconst (pc := 40) F dX12_become__40 ?_
      refine mh_iload2 (pc := 41) F dX12_become__41 ?_
      refine mh_bipush (pc := 42) F dX12_become__42 rfl ?_
      refine mh_irem (pc := 44) F dX12_become__44 (by omega) (by omega) (by omega) ?_
      refine mh_callV0 (pc := 45) (As := [.int (Int32.ofInt (k)), .int (Int32.ofInt (1)), .int (Int32.ofInt (x.tmod 10))]) (st := []) F (by omega) (k_sets (by omega) F3 q3_0 (by omega) (by omega)) wv_RX12_140_yX12_sets dX12_become__45 sh_81 rfl (by decide) rfl rfl (Nat.le_of_ble_eq_true rfl) ⟨Nat.zero_le _, Nat.zero_le _⟩ (fun r5 h5 q5 => ?_)
      obtain ⟨rfl, F5, fr5, q5_0⟩ := q5
      have r85_6 : h5 85 = er := (fr5 _ (by decide)).trans r85_4
      have fr6 : mh_fr [82] h h5 := (mh_fr.tr fr4 fr5).mono (by simp)
      refine mh_iload3 (pc := 48) F dX12_become__48 ?_
      exact mh_ireturn F Z dX12_become__49 ⟨_, _, _, (by unfold sp_become; (repeat' split) <;> first | rfl | (exfalso; omega)), rfl, F5, (fr6.mono (by simp)), q5_0, r85_6⟩
    · refine mh_aload0 (pc := 15) F dX12_become__15 ?_
      refine mh_iconst (pc := 16) F dX12_become__16 ?_
      refine mh_callV0 (pc := 17) (As := [.int (Int32.ofInt (1))]) (st := []) F (by omega) (k_error (by omega) hF r85 (by omega)) wv_RX12_114_yX12_error dX12_become__17 sh_81 rfl (by decide) rfl rfl (Nat.le_of_ble_eq_true rfl) ⟨Nat.zero_le _, Nat.zero_le _⟩ (fun r7 h7 q7 => ?_)
      obtain ⟨rfl, F7, fr7, q7_0⟩ := q7
      have r82_8 : h7 82 = s := (fr7 _ (by decide)).trans r82
      have fr8 : mh_fr [85] h h7 := (mh_fr.tr mh_fr.rf fr7).mono (by simp)
      exact mh_ireturn F Z dX12_become__20 ⟨_, _, _, (by unfold sp_become; (repeat' split) <;> first | rfl | (exfalso; omega)), rfl, F7, (fr8.mono (by simp)), r82_8, q7_0⟩

set_option maxRecDepth 100000 in
set_option maxHeartbeats 4000000 in
theorem p_as {g : mh_G} {d : Nat} (hd : 9 ≤ d) {h : Nat → Int → Int} (hF : mh_FX h) {s : Int → Int} (r82 : h 82 = s) {er : Int → Int} (r85 : h 85 = er) {k x : Int} (hk : -2147483648 ≤ k ∧ k < 2147483648) (hx : -2147483648 ≤ x ∧ x < 2147483648) (hi : sp_inv s) : mh_M g d yX12_as cX12_as 3 (some .int) 96 0 0 [.ref 81, .int (Int32.ofInt (k)), .int (Int32.ofInt (x))] h (fun r h2 => ∃ (vv : Int) (tt ee : Int → Int), (vv, tt, ee) = sp_as k x s er ∧ r = some (.int (Int32.ofInt vv)) ∧ mh_FX h2 ∧ mh_fr [82, 85, 86, 87] h h2 ∧ h2 82 = tt ∧ h2 85 = ee) := by
  refine mh_M_of RX12 rfl (by decide +kernel) [some (.ref 81), some (.int (Int32.ofInt (k))), some (.int (Int32.ofInt (x)))] rfl (Nat.le_of_ble_eq_true rfl) (fun f F Z hn0 hR => ?_)
  have hib := sp_inv_b hi
  have hm := hi.1
  have hq0 := hi.2.1
  have hws := hi.2.2.2.2.2
  obtain ⟨hH, hC⟩ := hi.2.2.2.1
  have hs1 := hi.2.2.1
  refine mh_aload0 (pc := 0) F dX12_as_0 ?_
  refine mh_iload1 (pc := 1) F dX12_as_1 ?_
  refine mh_callVp (pc := 2) (As := [.int (Int32.ofInt (k))]) (st := []) F (by omega) (k_isChurn (by omega) hF r82 (by omega) (by omega)) wv_RX12_148_yX12_isChurn dX12_as_2 sh_81 rfl (by decide) rfl rfl (Nat.le_of_ble_eq_true rfl) ⟨Nat.zero_le _, Nat.zero_le _⟩ ?_
  refine mh_ifb_eq (pc := 5) (tgt := 20) F dX12_as_5 rfl (fun c_5 => ?_) (fun c_5 => ?_)
  · refine mh_aload0 (pc := 20) F dX12_as_20 ?_
    refine mh_iconst (pc := 21) F dX12_as_21 ?_
    refine mh_callV0 (pc := 22) (As := [.int (Int32.ofInt (1))]) (st := []) F (by omega) (k_error (by omega) hF r85 (by omega)) wv_RX12_114_yX12_error dX12_as_22 sh_81 rfl (by decide) rfl rfl (Nat.le_of_ble_eq_true rfl) ⟨Nat.zero_le _, Nat.zero_le _⟩ (fun r1 h1 q1 => ?_)
    obtain ⟨rfl, F1, fr1, q1_0⟩ := q1
    have r82_2 : h1 82 = s := (fr1 _ (by decide)).trans r82
    have fr2 : mh_fr [85] h h1 := (mh_fr.tr mh_fr.rf fr1).mono (by simp)
    exact mh_ireturn F Z dX12_as_25 ⟨_, _, _, (by unfold sp_as; (repeat' split) <;> first | rfl | (exfalso; omega)), rfl, F1, (fr2.mono (by simp)), r82_2, q1_0⟩
  · refine mh_iload2 (pc := 8) F dX12_as_8 ?_
    refine mh_i2l (pc := 9) F dX12_as_9 (by omega) ?_
    refine mh_lconst (x := 0) (pc := 10) F dX12_as_10 rfl ?_
    refine mh_ldc2 (x := 6) (pc := 11) F dX12_as_11 tw_6_93 ?_
    refine mh_callSp (pc := 14) (As := [.long (Int64.ofInt (x)), .long (Int64.ofInt (0)), .long (Int64.ofInt (6))]) (st := []) F (by omega) (k_in (by omega) (by omega) (by omega) (by omega)) ws_RX12_69 dX12_as_14 rfl rfl (Nat.le_of_ble_eq_true rfl) ⟨Nat.zero_le _, Nat.zero_le _⟩ ?_
    refine mh_ifb_ne (pc := 17) (tgt := 26) F dX12_as_17 rfl (fun c_17 => ?_) (fun c_17 => ?_)
    · have zHC := hi.2.2.2.2.1 k (by omega) (by omega)
      have zHC2 := zHC
      obtain ⟨c0, c1, c2, c3, c4, c5, c6, c7, c8, c9, c10, c11, c12, c13⟩ := zHC2
      unfold sp_row at c0 c1 c2 c3 c4 c5 c6 c7 c8 c9 c10 c11 c12 c13
      refine mh_aload0 (pc := 26) F dX12_as_26 ?_
      refine mh_iload1 (pc := 27) F dX12_as_27 ?_
      refine mh_iconst (pc := 28) F dX12_as_28 ?_
      refine mh_callVp (pc := 29) (As := [.int (Int32.ofInt (k)), .int (Int32.ofInt (0))]) (st := []) F (by omega) (k_its (by omega) hF r82 (by omega) (by omega)) wv_RX12_79_yX12_its dX12_as_29 sh_81 rfl (by decide) rfl rfl (Nat.le_of_ble_eq_true rfl) ⟨Nat.zero_le _, Nat.zero_le _⟩ ?_
      refine mh_iload2 (pc := 32) F dX12_as_32 ?_
      refine mh_callSp (pc := 33) (As := [.int (Int32.ofInt (s (41 + 9 * k + 0))), .int (Int32.ofInt (x))]) (st := []) F (by omega) (k_isUnder (by omega) (by omega) (by omega)) ws_RX12_159 dX12_as_33 rfl rfl (Nat.le_of_ble_eq_true rfl) ⟨Nat.zero_le _, Nat.zero_le _⟩ ?_
      refine mh_ifb_eq (pc := 36) (tgt := 48) F dX12_as_36 rfl (fun c_36 => ?_) (fun c_36 => ?_)
      · refine mh_aload0 (pc := 48) F dX12_as_48 ?_
        refine mh_iconst (pc := 49) F dX12_as_49 ?_
        refine mh_callV0 (pc := 50) (As := [.int (Int32.ofInt (5))]) (st := []) F (by omega) (k_error (by omega) hF r85 (by omega)) wv_RX12_114_yX12_error dX12_as_50 sh_81 rfl (by decide) rfl rfl (Nat.le_of_ble_eq_true rfl) ⟨Nat.zero_le _, Nat.zero_le _⟩ (fun r3 h3 q3 => ?_)
        obtain ⟨rfl, F3, fr3, q3_0⟩ := q3
        have r82_4 : h3 82 = s := (fr3 _ (by decide)).trans r82
        have fr4 : mh_fr [85] h h3 := (mh_fr.tr mh_fr.rf fr3).mono (by simp)
        exact mh_ireturn F Z dX12_as_53 ⟨_, _, _, (by unfold sp_as; (repeat' split) <;> first | rfl | (exfalso; omega)), rfl, F3, (fr4.mono (by simp)), r82_4, q3_0⟩
      · refine mh_aload0 (pc := 39) F dX12_as_39 ?_
        refine mh_iload1 (pc := 40) F dX12_as_40 ?_
        refine mh_iconst (pc := 41) F dX12_as_41 ?_
        refine mh_callVp (pc := 42) (As := [.int (Int32.ofInt (k)), .int (Int32.ofInt (1))]) (st := []) F (by omega) (k_its (by omega) hF r82 (by omega) (by omega)) wv_RX12_79_yX12_its dX12_as_42 sh_81 rfl (by decide) rfl rfl (Nat.le_of_ble_eq_true rfl) ⟨Nat.zero_le _, Nat.zero_le _⟩ ?_
        refine mh_goto (pc := 45) (tgt := 53) F dX12_as_45 rfl ?_
        exact mh_ireturn F Z dX12_as_53 ⟨_, _, _, (by unfold sp_as; (repeat' split) <;> first | rfl | (exfalso; omega)), rfl, hF, (mh_fr.rf.mono (by simp)), r82, r85⟩
    · refine mh_aload0 (pc := 20) F dX12_as_20 ?_
      refine mh_iconst (pc := 21) F dX12_as_21 ?_
      refine mh_callV0 (pc := 22) (As := [.int (Int32.ofInt (1))]) (st := []) F (by omega) (k_error (by omega) hF r85 (by omega)) wv_RX12_114_yX12_error dX12_as_22 sh_81 rfl (by decide) rfl rfl (Nat.le_of_ble_eq_true rfl) ⟨Nat.zero_le _, Nat.zero_le _⟩ (fun r5 h5 q5 => ?_)
      obtain ⟨rfl, F5, fr5, q5_0⟩ := q5
      have r82_6 : h5 82 = s := (fr5 _ (by decide)).trans r82
      have fr6 : mh_fr [85] h h5 := (mh_fr.tr mh_fr.rf fr5).mono (by simp)
      exact mh_ireturn F Z dX12_as_25 ⟨_, _, _, (by unfold sp_as; (repeat' split) <;> first | rfl | (exfalso; omega)), rfl, F5, (fr6.mono (by simp)), r82_6, q5_0⟩

set_option maxRecDepth 100000 in
set_option maxHeartbeats 4000000 in
theorem p_go {g : mh_G} {d : Nat} (hd : 9 ≤ d) {h : Nat → Int → Int} (hF : mh_FX h) {s : Int → Int} (r82 : h 82 = s) {er : Int → Int} (r85 : h 85 = er) {k c : Int} (hk : -2147483648 ≤ k ∧ k < 2147483648) (hc : -2147483648 ≤ c ∧ c < 2147483648) (hi : sp_inv s) : mh_M g d yX12_go cX12_go 3 (some .int) 96 0 0 [.ref 81, .int (Int32.ofInt (k)), .int (Int32.ofInt (c))] h (fun r h2 => ∃ (vv : Int) (tt ee : Int → Int), (vv, tt, ee) = sp_goP k c s er ∧ r = some (.int (Int32.ofInt vv)) ∧ mh_FX h2 ∧ mh_fr [82, 85, 86, 87] h h2 ∧ h2 82 = tt ∧ h2 85 = ee) := by
  refine mh_M_of RX12 rfl (by decide +kernel) [some (.ref 81), some (.int (Int32.ofInt (k))), some (.int (Int32.ofInt (c)))] rfl (Nat.le_of_ble_eq_true rfl) (fun f F Z hn0 hR => ?_)
  have hib := sp_inv_b hi
  have hm := hi.1
  have hq0 := hi.2.1
  have hws := hi.2.2.2.2.2
  obtain ⟨hH, hC⟩ := hi.2.2.2.1
  have hs1 := hi.2.2.1
  refine mh_aload0 (pc := 0) F dX12_go_0 ?_
  refine mh_iload1 (pc := 1) F dX12_go_1 ?_
  refine mh_callVp (pc := 2) (As := [.int (Int32.ofInt (k))]) (st := []) F (by omega) (k_isChurn (by omega) hF r82 (by omega) (by omega)) wv_RX12_148_yX12_isChurn dX12_go_2 sh_81 rfl (by decide) rfl rfl (Nat.le_of_ble_eq_true rfl) ⟨Nat.zero_le _, Nat.zero_le _⟩ ?_
  refine mh_ifb_eq (pc := 5) (tgt := 15) F dX12_go_5 rfl (fun c_5 => ?_) (fun c_5 => ?_)
  · refine mh_aload0 (pc := 15) F dX12_go_15 ?_
    refine mh_iconst (pc := 16) F dX12_go_16 ?_
    refine mh_callV0 (pc := 17) (As := [.int (Int32.ofInt (1))]) (st := []) F (by omega) (k_error (by omega) hF r85 (by omega)) wv_RX12_114_yX12_error dX12_go_17 sh_81 rfl (by decide) rfl rfl (Nat.le_of_ble_eq_true rfl) ⟨Nat.zero_le _, Nat.zero_le _⟩ (fun r1 h1 q1 => ?_)
    obtain ⟨rfl, F1, fr1, q1_0⟩ := q1
    have r82_2 : h1 82 = s := (fr1 _ (by decide)).trans r82
    have fr2 : mh_fr [85] h h1 := (mh_fr.tr mh_fr.rf fr1).mono (by simp)
    exact mh_ireturn F Z dX12_go_20 ⟨_, _, _, (by unfold sp_goP; (repeat' split) <;> first | rfl | (exfalso; omega)), rfl, F1, (fr2.mono (by simp)), r82_2, q1_0⟩
  · refine mh_iload2 (pc := 8) F dX12_go_8 ?_
    refine mh_callSp (pc := 9) (As := [.int (Int32.ofInt (c))]) (st := []) F (by omega) (k_isCarrier (by omega) (by omega)) ws_RX12_125 dX12_go_9 rfl rfl (Nat.le_of_ble_eq_true rfl) ⟨Nat.zero_le _, Nat.zero_le _⟩ ?_
    refine mh_ifb_ne (pc := 12) (tgt := 21) F dX12_go_12 rfl (fun c_12 => ?_) (fun c_12 => ?_)
    · have zHC := hi.2.2.2.2.1 k (by omega) (by omega)
      have zHC2 := zHC
      obtain ⟨c0, c1, c2, c3, c4, c5, c6, c7, c8, c9, c10, c11, c12, c13⟩ := zHC2
      unfold sp_row at c0 c1 c2 c3 c4 c5 c6 c7 c8 c9 c10 c11 c12 c13
      refine mh_aload0 (pc := 21) F dX12_go_21 ?_
      refine mh_iload1 (pc := 22) F dX12_go_22 ?_
      refine mh_callVp (pc := 23) (As := [.int (Int32.ofInt (k))]) (st := []) F (by omega) (k_stands (by omega) hF r82 (by omega) zHC) wv_RX12_163_yX12_stands dX12_go_23 sh_81 rfl (by decide) rfl rfl (Nat.le_of_ble_eq_true rfl) ⟨Nat.zero_le _, Nat.zero_le _⟩ ?_
      refine mh_ifb_ne (pc := 26) (tgt := 35) F dX12_go_26 rfl (fun c_26 => ?_) (fun c_26 => ?_)
      · refine mh_aload0 (pc := 35) F dX12_go_35 ?_
        refine mh_iload1 (pc := 36) F dX12_go_36 ?_
        refine mh_iload2 (pc := 37) F dX12_go_37 ?_
        refine mh_callV0 (pc := 38) (As := [.int (Int32.ofInt (k)), .int (Int32.ofInt (c))]) (st := []) F (by omega) (k_leaves (by omega) hF r82 (by omega) (by omega)) wv_RX12_166_yX12_leaves dX12_go_38 sh_81 rfl (by decide) rfl rfl (Nat.le_of_ble_eq_true rfl) ⟨Nat.zero_le _, Nat.zero_le _⟩ (fun r3 h3 q3 => ?_)
        obtain ⟨rfl, F3, fr3, q3_0⟩ := q3
        have r85_4 : h3 85 = er := (fr3 _ (by decide)).trans r85
        have fr4 : mh_fr [82] h h3 := (mh_fr.tr mh_fr.rf fr3).mono (by simp)
        obtain ⟨s1, es1⟩ : ∃ z : Int → Int, z = sp_leaves s k c := ⟨_, rfl⟩
        rw [← es1] at q3_0
        have s1e : s1 (41 + 9 * k + 4) = s (33 + 2 * c) := by rw [es1]; unfold sp_leaves; rw [mh_ur_ne (by omega), mh_ur_eq rfl]
        refine mh_aload0 (pc := 41) F dX12_go_41 ?_
        refine mh_iload1 (pc := 42) F dX12_go_42 ?_
        refine mh_iconst (pc := 43) F dX12_go_43 ?_
        refine mh_callVp (pc := 44) (As := [.int (Int32.ofInt (k)), .int (Int32.ofInt (4))]) (st := []) F (by omega) (k_its (by omega) F3 q3_0 (by omega) (by omega)) wv_RX12_79_yX12_its dX12_go_44 sh_81 rfl (by decide) rfl rfl (Nat.le_of_ble_eq_true rfl) ⟨Nat.zero_le _, Nat.zero_le _⟩ ?_
        exact mh_ireturn F Z dX12_go_47 ⟨_, _, _, (by unfold sp_goP; (repeat' split) <;> first | rfl | (exfalso; omega) | (rw [s1e, es1])), rfl, F3, (fr4.mono (by simp)), q3_0, r85_4⟩
      · refine mh_aload0 (pc := 29) F dX12_go_29 ?_
        refine mh_iconst (pc := 30) F dX12_go_30 ?_
        refine mh_callV0 (pc := 31) (As := [.int (Int32.ofInt (3))]) (st := []) F (by omega) (k_error (by omega) hF r85 (by omega)) wv_RX12_114_yX12_error dX12_go_31 sh_81 rfl (by decide) rfl rfl (Nat.le_of_ble_eq_true rfl) ⟨Nat.zero_le _, Nat.zero_le _⟩ (fun r5 h5 q5 => ?_)
        obtain ⟨rfl, F5, fr5, q5_0⟩ := q5
        have r82_6 : h5 82 = s := (fr5 _ (by decide)).trans r82
        have fr6 : mh_fr [85] h h5 := (mh_fr.tr mh_fr.rf fr5).mono (by simp)
        exact mh_ireturn F Z dX12_go_34 ⟨_, _, _, (by unfold sp_goP; (repeat' split) <;> first | rfl | (exfalso; omega)), rfl, F5, (fr6.mono (by simp)), r82_6, q5_0⟩
    · refine mh_aload0 (pc := 15) F dX12_go_15 ?_
      refine mh_iconst (pc := 16) F dX12_go_16 ?_
      refine mh_callV0 (pc := 17) (As := [.int (Int32.ofInt (1))]) (st := []) F (by omega) (k_error (by omega) hF r85 (by omega)) wv_RX12_114_yX12_error dX12_go_17 sh_81 rfl (by decide) rfl rfl (Nat.le_of_ble_eq_true rfl) ⟨Nat.zero_le _, Nat.zero_le _⟩ (fun r7 h7 q7 => ?_)
      obtain ⟨rfl, F7, fr7, q7_0⟩ := q7
      have r82_8 : h7 82 = s := (fr7 _ (by decide)).trans r82
      have fr8 : mh_fr [85] h h7 := (mh_fr.tr mh_fr.rf fr7).mono (by simp)
      exact mh_ireturn F Z dX12_go_20 ⟨_, _, _, (by unfold sp_goP; (repeat' split) <;> first | rfl | (exfalso; omega)), rfl, F7, (fr8.mono (by simp)), r82_8, q7_0⟩

set_option maxRecDepth 100000 in
set_option maxHeartbeats 4000000 in
theorem p_brook {g : mh_G} {d : Nat} (hd : 9 ≤ d) {h : Nat → Int → Int} (hF : mh_FX h) {s : Int → Int} (r82 : h 82 = s) {er : Int → Int} (r85 : h 85 = er) {k : Int} (hk : -2147483648 ≤ k ∧ k < 2147483648) (hi : sp_inv s) : mh_M g d yX12_brook cX12_brook 3 (some .int) 96 0 0 [.ref 81, .int (Int32.ofInt (k))] h (fun r h2 => ∃ (vv : Int) (tt ee : Int → Int), (vv, tt, ee) = sp_brook k s er ∧ r = some (.int (Int32.ofInt vv)) ∧ mh_FX h2 ∧ mh_fr [82, 85, 86, 87] h h2 ∧ h2 82 = tt ∧ h2 85 = ee) := by
  refine mh_M_of RX12 rfl (by decide +kernel) [some (.ref 81), some (.int (Int32.ofInt (k))), none] rfl (Nat.le_of_ble_eq_true rfl) (fun f F Z hn0 hR => ?_)
  have hib := sp_inv_b hi
  have hm := hi.1
  have hq0 := hi.2.1
  have hws := hi.2.2.2.2.2
  obtain ⟨hH, hC⟩ := hi.2.2.2.1
  have hs1 := hi.2.2.1
  refine mh_aload0 (pc := 0) F dX12_brook_0 ?_
  refine mh_iload1 (pc := 1) F dX12_brook_1 ?_
  refine mh_callVp (pc := 2) (As := [.int (Int32.ofInt (k))]) (st := []) F (by omega) (k_isChurn (by omega) hF r82 (by omega) (by omega)) wv_RX12_148_yX12_isChurn dX12_brook_2 sh_81 rfl (by decide) rfl rfl (Nat.le_of_ble_eq_true rfl) ⟨Nat.zero_le _, Nat.zero_le _⟩ ?_
  refine mh_ifb_ne (pc := 5) (tgt := 14) F dX12_brook_5 rfl (fun c_5 => ?_) (fun c_5 => ?_)
  · have zHC := hi.2.2.2.2.1 k (by omega) (by omega)
    have zHC2 := zHC
    obtain ⟨c0, c1, c2, c3, c4, c5, c6, c7, c8, c9, c10, c11, c12, c13⟩ := zHC2
    unfold sp_row at c0 c1 c2 c3 c4 c5 c6 c7 c8 c9 c10 c11 c12 c13
    refine mh_aload0 (pc := 14) F dX12_brook_14 ?_
    refine mh_iload1 (pc := 15) F dX12_brook_15 ?_
    refine mh_callVp (pc := 16) (As := [.int (Int32.ofInt (k))]) (st := []) F (by omega) (k_stands (by omega) hF r82 (by omega) zHC) wv_RX12_163_yX12_stands dX12_brook_16 sh_81 rfl (by decide) rfl rfl (Nat.le_of_ble_eq_true rfl) ⟨Nat.zero_le _, Nat.zero_le _⟩ ?_
    refine mh_ifb_eq (pc := 19) (tgt := 32) F dX12_brook_19 rfl (fun c_19 => ?_) (fun c_19 => ?_)
    · refine mh_aload0 (pc := 32) F dX12_brook_32 ?_
      refine mh_iconst (pc := 33) F dX12_brook_33 ?_
      refine mh_callV0 (pc := 34) (As := [.int (Int32.ofInt (3))]) (st := []) F (by omega) (k_error (by omega) hF r85 (by omega)) wv_RX12_114_yX12_error dX12_brook_34 sh_81 rfl (by decide) rfl rfl (Nat.le_of_ble_eq_true rfl) ⟨Nat.zero_le _, Nat.zero_le _⟩ (fun r1 h1 q1 => ?_)
      obtain ⟨rfl, F1, fr1, q1_0⟩ := q1
      have r82_2 : h1 82 = s := (fr1 _ (by decide)).trans r82
      have fr2 : mh_fr [85] h h1 := (mh_fr.tr mh_fr.rf fr1).mono (by simp)
      exact mh_ireturn F Z dX12_brook_37 ⟨_, _, _, (by unfold sp_brook; (repeat' split) <;> first | rfl | (exfalso; omega)), rfl, F1, (fr2.mono (by simp)), r82_2, q1_0⟩
    · refine mh_aload0 (pc := 22) F dX12_brook_22 ?_
      refine mh_iload1 (pc := 23) F dX12_brook_23 ?_
      refine mh_iconst (pc := 24) F dX12_brook_24 ?_
      refine mh_callVp (pc := 25) (As := [.int (Int32.ofInt (k)), .int (Int32.ofInt (3))]) (st := []) F (by omega) (k_its (by omega) hF r82 (by omega) (by omega)) wv_RX12_79_yX12_its dX12_brook_25 sh_81 rfl (by decide) rfl rfl (Nat.le_of_ble_eq_true rfl) ⟨Nat.zero_le _, Nat.zero_le _⟩ ?_
      refine mh_iconst (pc := 28) F dX12_brook_28 ?_
      refine mh_icmp_ne (pc := 29) (tgt := 38) F dX12_brook_29 rfl (by omega) (by omega) (fun c_29 => ?_) (fun c_29 => ?_)
      · have hbr := sp_inB_rg hm (s (41 + 9 * k + 2))
        have hhr := (hH (s (41 + 9 * k + 2)) (by omega) (by omega)).2.1
        refine mh_aload0 (pc := 38) F dX12_brook_38 ?_
        refine mh_iload1 (pc := 39) F dX12_brook_39 ?_
        refine mh_iconst (pc := 40) F dX12_brook_40 ?_
        refine mh_callVp (pc := 41) (As := [.int (Int32.ofInt (k)), .int (Int32.ofInt (2))]) (st := []) F (by omega) (k_its (by omega) hF r82 (by omega) (by omega)) wv_RX12_79_yX12_its dX12_brook_41 sh_81 rfl (by decide) rfl rfl (Nat.le_of_ble_eq_true rfl) ⟨Nat.zero_le _, Nat.zero_le _⟩ ?_
        refine mh_istore2 (pc := 44) F dX12_brook_44 rfl (by decide) ?_
        refine mh_aload0 (pc := 45) F dX12_brook_45 ?_
        refine mh_iload2 (pc := 46) F dX12_brook_46 ?_
        refine mh_callVp (pc := 47) (As := [.int (Int32.ofInt (s (41 + 9 * k + 2)))]) (st := []) F (by omega) (k_inB (by omega) hF r82 (by omega) (by omega) hib) wv_RX12_117_yX12_inBrook dX12_brook_47 sh_81 rfl (by decide) rfl rfl (Nat.le_of_ble_eq_true rfl) ⟨Nat.zero_le _, Nat.zero_le _⟩ ?_
        refine mh_aload0 (pc := 50) F dX12_brook_50 ?_
        refine mh_iload2 (pc := 51) F dX12_brook_51 ?_
        refine mh_iconst (pc := 52) F dX12_brook_52 ?_
        refine mh_callVp (pc := 53) (As := [.int (Int32.ofInt (s (41 + 9 * k + 2))), .int (Int32.ofInt (1))]) (st := [.int (Int32.ofInt (sp_inB s (s (41 + 9 * k + 2))))]) F (by omega) (k_ofHillNow (by omega) hF r82 (by omega) (by omega)) wv_RX12_98_yX12_ofHillNow dX12_brook_53 sh_81 rfl (by decide) rfl rfl (Nat.le_of_ble_eq_true rfl) ⟨Nat.zero_le _, Nat.zero_le _⟩ ?_
        refine mh_icmp_ne (pc := 56) (tgt := 65) F dX12_brook_56 rfl (by omega) (by omega) (fun c_56 => ?_) (fun c_56 => ?_)
        · refine mh_aload0 (pc := 65) F dX12_brook_65 ?_
          refine mh_iload1 (pc := 66) F dX12_brook_66 ?_
          refine mh_iconst (pc := 67) F dX12_brook_67 ?_
          refine mh_iconst (pc := 68) F dX12_brook_68 ?_
          refine mh_callV0 (pc := 69) (As := [.int (Int32.ofInt (k)), .int (Int32.ofInt (3)), .int (Int32.ofInt (1))]) (st := []) F (by omega) (k_sets (by omega) hF r82 (by omega) (by omega)) wv_RX12_140_yX12_sets dX12_brook_69 sh_81 rfl (by decide) rfl rfl (Nat.le_of_ble_eq_true rfl) ⟨Nat.zero_le _, Nat.zero_le _⟩ (fun r3 h3 q3 => ?_)
          obtain ⟨rfl, F3, fr3, q3_0⟩ := q3
          have r85_4 : h3 85 = er := (fr3 _ (by decide)).trans r85
          have fr4 : mh_fr [82] h h3 := (mh_fr.tr mh_fr.rf fr3).mono (by simp)
          obtain ⟨s1, es1⟩ : ∃ z : Int → Int, z = mh_ur s (41 + 9 * k + 3) 1 := ⟨_, rfl⟩
          rw [← es1] at q3_0
          have s13 : s1 3 = s 3 := by rw [es1]; exact mh_ur_ne (by omega)
          have s1c : s1 (41 + 9 * k + 2) = s (41 + 9 * k + 2) := by rw [es1]; exact mh_ur_ne (by omega)
          have hib0 := hib
          have hib : sp_bok s1 := fun j j0 j1 => by
            have := hib0 j j0 j1
            rw [es1]; unfold mh_ur; (repeat' split) <;> omega
          refine mh_aload0 (pc := 72) F dX12_brook_72 ?_
          refine mh_iload2 (pc := 73) F dX12_brook_73 ?_
          refine mh_callVp (pc := 74) (As := [.int (Int32.ofInt (s (41 + 9 * k + 2)))]) (st := []) F (by omega) (k_inB (by omega) F3 q3_0 (by omega) (by omega) hib) wv_RX12_117_yX12_inBrook dX12_brook_74 sh_81 rfl (by decide) rfl rfl (Nat.le_of_ble_eq_true rfl) ⟨Nat.zero_le _, Nat.zero_le _⟩ ?_
          exact mh_ireturn F Z dX12_brook_77 ⟨_, _, _, (by unfold sp_brook; (repeat' split) <;> first | rfl | (exfalso; omega) | (rw [s1c, es1]; done) | (rw [es1]; done)), rfl, F3, (fr4.mono (by simp)), q3_0, r85_4⟩
        · refine mh_aload0 (pc := 59) F dX12_brook_59 ?_
          refine mh_iconst (pc := 60) F dX12_brook_60 ?_
          refine mh_callV0 (pc := 61) (As := [.int (Int32.ofInt (4))]) (st := []) F (by omega) (k_error (by omega) hF r85 (by omega)) wv_RX12_114_yX12_error dX12_brook_61 sh_81 rfl (by decide) rfl rfl (Nat.le_of_ble_eq_true rfl) ⟨Nat.zero_le _, Nat.zero_le _⟩ (fun r5 h5 q5 => ?_)
          obtain ⟨rfl, F5, fr5, q5_0⟩ := q5
          have r82_6 : h5 82 = s := (fr5 _ (by decide)).trans r82
          have fr6 : mh_fr [85] h h5 := (mh_fr.tr mh_fr.rf fr5).mono (by simp)
          exact mh_ireturn F Z dX12_brook_64 ⟨_, _, _, (by unfold sp_brook; (repeat' split) <;> first | rfl | (exfalso; omega)), rfl, F5, (fr6.mono (by simp)), r82_6, q5_0⟩
      · refine mh_aload0 (pc := 32) F dX12_brook_32 ?_
        refine mh_iconst (pc := 33) F dX12_brook_33 ?_
        refine mh_callV0 (pc := 34) (As := [.int (Int32.ofInt (3))]) (st := []) F (by omega) (k_error (by omega) hF r85 (by omega)) wv_RX12_114_yX12_error dX12_brook_34 sh_81 rfl (by decide) rfl rfl (Nat.le_of_ble_eq_true rfl) ⟨Nat.zero_le _, Nat.zero_le _⟩ (fun r7 h7 q7 => ?_)
        obtain ⟨rfl, F7, fr7, q7_0⟩ := q7
        have r82_8 : h7 82 = s := (fr7 _ (by decide)).trans r82
        have fr8 : mh_fr [85] h h7 := (mh_fr.tr mh_fr.rf fr7).mono (by simp)
        exact mh_ireturn F Z dX12_brook_37 ⟨_, _, _, (by unfold sp_brook; (repeat' split) <;> first | rfl | (exfalso; omega)), rfl, F7, (fr8.mono (by simp)), r82_8, q7_0⟩
  · refine mh_aload0 (pc := 8) F dX12_brook_8 ?_
    refine mh_iconst (pc := 9) F dX12_brook_9 ?_
    refine mh_callV0 (pc := 10) (As := [.int (Int32.ofInt (1))]) (st := []) F (by omega) (k_error (by omega) hF r85 (by omega)) wv_RX12_114_yX12_error dX12_brook_10 sh_81 rfl (by decide) rfl rfl (Nat.le_of_ble_eq_true rfl) ⟨Nat.zero_le _, Nat.zero_le _⟩ (fun r9 h9 q9 => ?_)
    obtain ⟨rfl, F9, fr9, q9_0⟩ := q9
    have r82_10 : h9 82 = s := (fr9 _ (by decide)).trans r82
    have fr10 : mh_fr [85] h h9 := (mh_fr.tr mh_fr.rf fr9).mono (by simp)
    exact mh_ireturn F Z dX12_brook_13 ⟨_, _, _, (by unfold sp_brook; (repeat' split) <;> first | rfl | (exfalso; omega)), rfl, F9, (fr10.mono (by simp)), r82_10, q9_0⟩

set_option maxRecDepth 100000 in
set_option maxHeartbeats 4000000 in
theorem p_rest {g : mh_G} {d : Nat} (hd : 9 ≤ d) {h : Nat → Int → Int} (hF : mh_FX h) {s : Int → Int} (r82 : h 82 = s) {er : Int → Int} (r85 : h 85 = er) {k : Int} (hk : -2147483648 ≤ k ∧ k < 2147483648) (hi : sp_inv s) : mh_M g d yX12_rest cX12_rest 2 (some .int) 96 0 0 [.ref 81, .int (Int32.ofInt (k))] h (fun r h2 => ∃ (vv : Int) (tt ee : Int → Int), (vv, tt, ee) = sp_rest k s er ∧ r = some (.int (Int32.ofInt vv)) ∧ mh_FX h2 ∧ mh_fr [82, 85, 86, 87] h h2 ∧ h2 82 = tt ∧ h2 85 = ee) := by
  refine mh_M_of RX12 rfl (by decide +kernel) [some (.ref 81), some (.int (Int32.ofInt (k)))] rfl (Nat.le_of_ble_eq_true rfl) (fun f F Z hn0 hR => ?_)
  have hib := sp_inv_b hi
  have hm := hi.1
  have hq0 := hi.2.1
  have hws := hi.2.2.2.2.2
  obtain ⟨hH, hC⟩ := hi.2.2.2.1
  have hs1 := hi.2.2.1
  refine mh_aload0 (pc := 0) F dX12_rest_0 ?_
  refine mh_iload1 (pc := 1) F dX12_rest_1 ?_
  refine mh_callVp (pc := 2) (As := [.int (Int32.ofInt (k))]) (st := []) F (by omega) (k_isChurn (by omega) hF r82 (by omega) (by omega)) wv_RX12_148_yX12_isChurn dX12_rest_2 sh_81 rfl (by decide) rfl rfl (Nat.le_of_ble_eq_true rfl) ⟨Nat.zero_le _, Nat.zero_le _⟩ ?_
  refine mh_ifb_ne (pc := 5) (tgt := 14) F dX12_rest_5 rfl (fun c_5 => ?_) (fun c_5 => ?_)
  · have zHC := hi.2.2.2.2.1 k (by omega) (by omega)
    have zHC2 := zHC
    obtain ⟨c0, c1, c2, c3, c4, c5, c6, c7, c8, c9, c10, c11, c12, c13⟩ := zHC2
    unfold sp_row at c0 c1 c2 c3 c4 c5 c6 c7 c8 c9 c10 c11 c12 c13
    refine mh_aload0 (pc := 14) F dX12_rest_14 ?_
    refine mh_iload1 (pc := 15) F dX12_rest_15 ?_
    refine mh_iconst (pc := 16) F dX12_rest_16 ?_
    refine mh_callVp (pc := 17) (As := [.int (Int32.ofInt (k)), .int (Int32.ofInt (3))]) (st := []) F (by omega) (k_its (by omega) hF r82 (by omega) (by omega)) wv_RX12_79_yX12_its dX12_rest_17 sh_81 rfl (by decide) rfl rfl (Nat.le_of_ble_eq_true rfl) ⟨Nat.zero_le _, Nat.zero_le _⟩ ?_
    refine mh_iconst (pc := 20) F dX12_rest_20 ?_
    refine mh_icmp_eq (pc := 21) (tgt := 30) F dX12_rest_21 rfl (by omega) (by omega) (fun c_21 => ?_) (fun c_21 => ?_)
    · refine mh_aload0 (pc := 30) F dX12_rest_30 ?_
      refine mh_iload1 (pc := 31) F dX12_rest_31 ?_
      refine mh_iconst (pc := 32) F dX12_rest_32 ?_
      refine mh_iconst (pc := 33) F dX12_rest_33 ?_
      refine mh_callV0 (pc := 34) (As := [.int (Int32.ofInt (k)), .int (Int32.ofInt (3)), .int (Int32.ofInt (0))]) (st := []) F (by omega) (k_sets (by omega) hF r82 (by omega) (by omega)) wv_RX12_140_yX12_sets dX12_rest_34 sh_81 rfl (by decide) rfl rfl (Nat.le_of_ble_eq_true rfl) ⟨Nat.zero_le _, Nat.zero_le _⟩ (fun r1 h1 q1 => ?_)
      obtain ⟨rfl, F1, fr1, q1_0⟩ := q1
      have r85_2 : h1 85 = er := (fr1 _ (by decide)).trans r85
      have fr2 : mh_fr [82] h h1 := (mh_fr.tr mh_fr.rf fr1).mono (by simp)
      obtain ⟨s1, es1⟩ : ∃ z : Int → Int, z = mh_ur s (41 + 9 * k + 3) 0 := ⟨_, rfl⟩
      rw [← es1] at q1_0
      have s13 : s1 3 = s 3 := by rw [es1]; exact mh_ur_ne (by omega)
      have s1c : s1 (41 + 9 * k + 2) = s (41 + 9 * k + 2) := by rw [es1]; exact mh_ur_ne (by omega)
      have hib0 := hib
      have hib : sp_bok s1 := fun j j0 j1 => by
        have := hib0 j j0 j1
        rw [es1]; unfold mh_ur; (repeat' split) <;> omega
      refine mh_aload0 (pc := 37) F dX12_rest_37 ?_
      refine mh_aload0 (pc := 38) F dX12_rest_38 ?_
      refine mh_iload1 (pc := 39) F dX12_rest_39 ?_
      refine mh_iconst (pc := 40) F dX12_rest_40 ?_
      refine mh_callVp (pc := 41) (As := [.int (Int32.ofInt (k)), .int (Int32.ofInt (2))]) (st := [.ref 81]) F (by omega) (k_its (by omega) F1 q1_0 (by omega) (by omega)) wv_RX12_79_yX12_its dX12_rest_41 sh_81 rfl (by decide) rfl rfl (Nat.le_of_ble_eq_true rfl) ⟨Nat.zero_le _, Nat.zero_le _⟩ ?_
      refine mh_callVp (pc := 44) (As := [.int (Int32.ofInt (s1 (41 + 9 * k + 2)))]) (st := []) F (by omega) (k_inB (by omega) F1 q1_0 (by omega) (by omega) hib) wv_RX12_117_yX12_inBrook dX12_rest_44 sh_81 rfl (by decide) rfl rfl (Nat.le_of_ble_eq_true rfl) ⟨Nat.zero_le _, Nat.zero_le _⟩ ?_
      exact mh_ireturn F Z dX12_rest_47 ⟨_, _, _, (by unfold sp_rest; (repeat' split) <;> first | rfl | (exfalso; omega) | (rw [s1c, es1]; done) | (rw [es1]; done)), rfl, F1, (fr2.mono (by simp)), q1_0, r85_2⟩
    · refine mh_aload0 (pc := 24) F dX12_rest_24 ?_
      refine mh_iconst (pc := 25) F dX12_rest_25 ?_
      refine mh_callV0 (pc := 26) (As := [.int (Int32.ofInt (3))]) (st := []) F (by omega) (k_error (by omega) hF r85 (by omega)) wv_RX12_114_yX12_error dX12_rest_26 sh_81 rfl (by decide) rfl rfl (Nat.le_of_ble_eq_true rfl) ⟨Nat.zero_le _, Nat.zero_le _⟩ (fun r3 h3 q3 => ?_)
      obtain ⟨rfl, F3, fr3, q3_0⟩ := q3
      have r82_4 : h3 82 = s := (fr3 _ (by decide)).trans r82
      have fr4 : mh_fr [85] h h3 := (mh_fr.tr mh_fr.rf fr3).mono (by simp)
      exact mh_ireturn F Z dX12_rest_29 ⟨_, _, _, (by unfold sp_rest; (repeat' split) <;> first | rfl | (exfalso; omega)), rfl, F3, (fr4.mono (by simp)), r82_4, q3_0⟩
  · refine mh_aload0 (pc := 8) F dX12_rest_8 ?_
    refine mh_iconst (pc := 9) F dX12_rest_9 ?_
    refine mh_callV0 (pc := 10) (As := [.int (Int32.ofInt (1))]) (st := []) F (by omega) (k_error (by omega) hF r85 (by omega)) wv_RX12_114_yX12_error dX12_rest_10 sh_81 rfl (by decide) rfl rfl (Nat.le_of_ble_eq_true rfl) ⟨Nat.zero_le _, Nat.zero_le _⟩ (fun r5 h5 q5 => ?_)
    obtain ⟨rfl, F5, fr5, q5_0⟩ := q5
    have r82_6 : h5 82 = s := (fr5 _ (by decide)).trans r82
    have fr6 : mh_fr [85] h h5 := (mh_fr.tr mh_fr.rf fr5).mono (by simp)
    exact mh_ireturn F Z dX12_rest_13 ⟨_, _, _, (by unfold sp_rest; (repeat' split) <;> first | rfl | (exfalso; omega)), rfl, F5, (fr6.mono (by simp)), r82_6, q5_0⟩

set_option maxRecDepth 100000 in
set_option maxHeartbeats 4000000 in
theorem p_giveUp {g : mh_G} {d : Nat} (hd : 9 ≤ d) {h : Nat → Int → Int} (hF : mh_FX h) {s : Int → Int} (r82 : h 82 = s) {er : Int → Int} (r85 : h 85 = er) {k : Int} (hk : -2147483648 ≤ k ∧ k < 2147483648) (hi : sp_inv s) : mh_M g d yX12_giveUp cX12_giveUp 3 (some .int) 96 0 0 [.ref 81, .int (Int32.ofInt (k))] h (fun r h2 => ∃ (vv : Int) (tt ee : Int → Int), (vv, tt, ee) = sp_giveUp k s er ∧ r = some (.int (Int32.ofInt vv)) ∧ mh_FX h2 ∧ mh_fr [82, 85, 86, 87] h h2 ∧ h2 82 = tt ∧ h2 85 = ee) := by
  refine mh_M_of RX12 rfl (by decide +kernel) [some (.ref 81), some (.int (Int32.ofInt (k))), none] rfl (Nat.le_of_ble_eq_true rfl) (fun f F Z hn0 hR => ?_)
  have hib := sp_inv_b hi
  have hm := hi.1
  have hq0 := hi.2.1
  have hws := hi.2.2.2.2.2
  obtain ⟨hH, hC⟩ := hi.2.2.2.1
  have hs1 := hi.2.2.1
  refine mh_aload0 (pc := 0) F dX12_giveUp_0 ?_
  refine mh_iload1 (pc := 1) F dX12_giveUp_1 ?_
  refine mh_callVp (pc := 2) (As := [.int (Int32.ofInt (k))]) (st := []) F (by omega) (k_isChurn (by omega) hF r82 (by omega) (by omega)) wv_RX12_148_yX12_isChurn dX12_giveUp_2 sh_81 rfl (by decide) rfl rfl (Nat.le_of_ble_eq_true rfl) ⟨Nat.zero_le _, Nat.zero_le _⟩ ?_
  refine mh_ifb_ne (pc := 5) (tgt := 14) F dX12_giveUp_5 rfl (fun c_5 => ?_) (fun c_5 => ?_)
  · have zHC := hi.2.2.2.2.1 k (by omega) (by omega)
    have zHC2 := zHC
    obtain ⟨c0, c1, c2, c3, c4, c5, c6, c7, c8, c9, c10, c11, c12, c13⟩ := zHC2
    unfold sp_row at c0 c1 c2 c3 c4 c5 c6 c7 c8 c9 c10 c11 c12 c13
    refine mh_aload0 (pc := 14) F dX12_giveUp_14 ?_
    refine mh_iload1 (pc := 15) F dX12_giveUp_15 ?_
    refine mh_callVp (pc := 16) (As := [.int (Int32.ofInt (k))]) (st := []) F (by omega) (k_stands (by omega) hF r82 (by omega) zHC) wv_RX12_163_yX12_stands dX12_giveUp_16 sh_81 rfl (by decide) rfl rfl (Nat.le_of_ble_eq_true rfl) ⟨Nat.zero_le _, Nat.zero_le _⟩ ?_
    refine mh_ifb_ne (pc := 19) (tgt := 28) F dX12_giveUp_19 rfl (fun c_19 => ?_) (fun c_19 => ?_)
    · have hhp := (hH (s (41 + 9 * k + 2)) (by omega) (by omega)).2.2
      have hch : 0 ≤ sp_cheese s (s (41 + 9 * k + 2)) (s (41 + 9 * k + 5)) ∧ sp_cheese s (s (41 + 9 * k + 2)) (s (41 + 9 * k + 5)) ≤ 9900 := by
        have h1 := mh_muld (x := s (41 + 9 * k + 5)) hhp (by omega)
        have h2 := mh_tdivb (k := 10) h1.1 (by decide)
        unfold sp_cheese; omega
      refine mh_aload0 (pc := 28) F dX12_giveUp_28 ?_
      refine mh_aload0 (pc := 29) F dX12_giveUp_29 ?_
      refine mh_iload1 (pc := 30) F dX12_giveUp_30 ?_
      refine mh_iconst (pc := 31) F dX12_giveUp_31 ?_
      refine mh_callVp (pc := 32) (As := [.int (Int32.ofInt (k)), .int (Int32.ofInt (2))]) (st := [.ref 81]) F (by omega) (k_its (by omega) hF r82 (by omega) (by omega)) wv_RX12_79_yX12_its dX12_giveUp_32 sh_81 rfl (by decide) rfl rfl (Nat.le_of_ble_eq_true rfl) ⟨Nat.zero_le _, Nat.zero_le _⟩ ?_
      refine mh_aload0 (pc := 35) F dX12_giveUp_35 ?_
      refine mh_iload1 (pc := 36) F dX12_giveUp_36 ?_
      refine mh_iconst (pc := 37) F dX12_giveUp_37 ?_
      refine mh_callVp (pc := 38) (As := [.int (Int32.ofInt (k)), .int (Int32.ofInt (5))]) (st := [.int (Int32.ofInt (s (41 + 9 * k + 2))), .ref 81]) F (by omega) (k_its (by omega) hF r82 (by omega) (by omega)) wv_RX12_79_yX12_its dX12_giveUp_38 sh_81 rfl (by decide) rfl rfl (Nat.le_of_ble_eq_true rfl) ⟨Nat.zero_le _, Nat.zero_le _⟩ ?_
      refine mh_callVp (pc := 41) (As := [.int (Int32.ofInt (s (41 + 9 * k + 2))), .int (Int32.ofInt (s (41 + 9 * k + 5)))]) (st := []) F (by omega) (k_cheese (by omega) hF r82 (by omega) (by omega) (by omega)) wv_RX12_172_yX12_cheese dX12_giveUp_41 sh_81 rfl (by decide) rfl rfl (Nat.le_of_ble_eq_true rfl) ⟨Nat.zero_le _, Nat.zero_le _⟩ ?_
      refine mh_istore2 (pc := 44) F dX12_giveUp_44 rfl (by decide) ?_
      refine mh_aload0 (pc := 45) F dX12_giveUp_45 ?_
      refine mh_iload1 (pc := 46) F dX12_giveUp_46 ?_
      refine mh_iconst (pc := 47) F dX12_giveUp_47 ?_
      refine mh_iconst (pc := 48) F dX12_giveUp_48 ?_
      refine mh_callV0 (pc := 49) (As := [.int (Int32.ofInt (k)), .int (Int32.ofInt (3)), .int (Int32.ofInt (0))]) (st := []) F (by omega) (k_sets (by omega) hF r82 (by omega) (by omega)) wv_RX12_140_yX12_sets dX12_giveUp_49 sh_81 rfl (by decide) rfl rfl (Nat.le_of_ble_eq_true rfl) ⟨Nat.zero_le _, Nat.zero_le _⟩ (fun r1 h1 q1 => ?_)
      obtain ⟨rfl, F1, fr1, q1_0⟩ := q1
      have r85_2 : h1 85 = er := (fr1 _ (by decide)).trans r85
      have fr2 : mh_fr [82] h h1 := (mh_fr.tr mh_fr.rf fr1).mono (by simp)
      refine mh_aload0 (pc := 52) F dX12_giveUp_52 ?_
      refine mh_iload1 (pc := 53) F dX12_giveUp_53 ?_
      refine mh_bipush (pc := 54) F dX12_giveUp_54 rfl ?_
      refine mh_iconst (pc := 56) F dX12_giveUp_56 ?_
      refine mh_callV0 (pc := 57) (As := [.int (Int32.ofInt (k)), .int (Int32.ofInt (8)), .int (Int32.ofInt (1))]) (st := []) F (by omega) (k_sets (by omega) F1 q1_0 (by omega) (by omega)) wv_RX12_140_yX12_sets dX12_giveUp_57 sh_81 rfl (by decide) rfl rfl (Nat.le_of_ble_eq_true rfl) ⟨Nat.zero_le _, Nat.zero_le _⟩ (fun r3 h3 q3 => ?_)
      obtain ⟨rfl, F3, fr3, q3_0⟩ := q3
      have r85_4 : h3 85 = er := (fr3 _ (by decide)).trans r85_2
      have fr4 : mh_fr [82] h h3 := (mh_fr.tr fr2 fr3).mono (by simp)
      obtain ⟨s1, es1⟩ : ∃ z : Int → Int, z = mh_ur (mh_ur s (41 + 9 * k + 3) 0) (41 + 9 * k + 8) 1 := ⟨_, rfl⟩
      rw [← es1] at q3_0
      have s1q : s1 1 = s 1 := by rw [es1, mh_ur_ne (by omega), mh_ur_ne (by omega)]
      refine mh_aload0 (pc := 60) F dX12_giveUp_60 ?_
      refine mh_iload2 (pc := 61) F dX12_giveUp_61 ?_
      refine mh_callV0 (pc := 62) (As := [.int (Int32.ofInt (sp_cheese s (s (41 + 9 * k + 2)) (s (41 + 9 * k + 5))))]) (st := []) F (by omega) (k_takes (by omega) F3 q3_0 (by omega) (by omega)) wv_RX12_175_yX12_takes dX12_giveUp_62 sh_81 rfl (by decide) rfl rfl (Nat.le_of_ble_eq_true rfl) ⟨Nat.zero_le _, Nat.zero_le _⟩ (fun r5 h5 q5 => ?_)
      obtain ⟨rfl, F5, fr5, q5_0⟩ := q5
      have r85_6 : h5 85 = er := (fr5 _ (by decide)).trans r85_4
      have fr6 : mh_fr [82] h h5 := (mh_fr.tr fr4 fr5).mono (by simp)
      refine mh_iload2 (pc := 65) F dX12_giveUp_65 ?_
      exact mh_ireturn F Z dX12_giveUp_66 ⟨_, _, _, (by unfold sp_giveUp; (repeat' split) <;> first | rfl | (exfalso; omega) | (rw [es1])), rfl, F5, (fr6.mono (by simp)), q5_0, r85_6⟩
    · refine mh_aload0 (pc := 22) F dX12_giveUp_22 ?_
      refine mh_iconst (pc := 23) F dX12_giveUp_23 ?_
      refine mh_callV0 (pc := 24) (As := [.int (Int32.ofInt (3))]) (st := []) F (by omega) (k_error (by omega) hF r85 (by omega)) wv_RX12_114_yX12_error dX12_giveUp_24 sh_81 rfl (by decide) rfl rfl (Nat.le_of_ble_eq_true rfl) ⟨Nat.zero_le _, Nat.zero_le _⟩ (fun r7 h7 q7 => ?_)
      obtain ⟨rfl, F7, fr7, q7_0⟩ := q7
      have r82_8 : h7 82 = s := (fr7 _ (by decide)).trans r82
      have fr8 : mh_fr [85] h h7 := (mh_fr.tr mh_fr.rf fr7).mono (by simp)
      exact mh_ireturn F Z dX12_giveUp_27 ⟨_, _, _, (by unfold sp_giveUp; (repeat' split) <;> first | rfl | (exfalso; omega)), rfl, F7, (fr8.mono (by simp)), r82_8, q7_0⟩
  · refine mh_aload0 (pc := 8) F dX12_giveUp_8 ?_
    refine mh_iconst (pc := 9) F dX12_giveUp_9 ?_
    refine mh_callV0 (pc := 10) (As := [.int (Int32.ofInt (1))]) (st := []) F (by omega) (k_error (by omega) hF r85 (by omega)) wv_RX12_114_yX12_error dX12_giveUp_10 sh_81 rfl (by decide) rfl rfl (Nat.le_of_ble_eq_true rfl) ⟨Nat.zero_le _, Nat.zero_le _⟩ (fun r9 h9 q9 => ?_)
    obtain ⟨rfl, F9, fr9, q9_0⟩ := q9
    have r82_10 : h9 82 = s := (fr9 _ (by decide)).trans r82
    have fr10 : mh_fr [85] h h9 := (mh_fr.tr mh_fr.rf fr9).mono (by simp)
    exact mh_ireturn F Z dX12_giveUp_13 ⟨_, _, _, (by unfold sp_giveUp; (repeat' split) <;> first | rfl | (exfalso; omega)), rfl, F9, (fr10.mono (by simp)), r82_10, q9_0⟩

set_option maxRecDepth 100000 in
set_option maxHeartbeats 4000000 in
theorem p_refill {g : mh_G} {d : Nat} (hd : 9 ≤ d) {h : Nat → Int → Int} (hF : mh_FX h) {s : Int → Int} (r82 : h 82 = s) {er : Int → Int} (r85 : h 85 = er) {k : Int} (hk : -2147483648 ≤ k ∧ k < 2147483648) (hi : sp_inv s) : mh_M g d yX12_refill cX12_refill 3 (some .int) 96 0 0 [.ref 81, .int (Int32.ofInt (k))] h (fun r h2 => ∃ (vv : Int) (tt ee : Int → Int), (vv, tt, ee) = sp_refill k s er ∧ r = some (.int (Int32.ofInt vv)) ∧ mh_FX h2 ∧ mh_fr [82, 85, 86, 87] h h2 ∧ h2 82 = tt ∧ h2 85 = ee) := by
  refine mh_M_of RX12 rfl (by decide +kernel) [some (.ref 81), some (.int (Int32.ofInt (k))), none] rfl (Nat.le_of_ble_eq_true rfl) (fun f F Z hn0 hR => ?_)
  have hib := sp_inv_b hi
  have hm := hi.1
  have hq0 := hi.2.1
  have hws := hi.2.2.2.2.2
  obtain ⟨hH, hC⟩ := hi.2.2.2.1
  have hs1 := hi.2.2.1
  refine mh_aload0 (pc := 0) F dX12_refill_0 ?_
  refine mh_iload1 (pc := 1) F dX12_refill_1 ?_
  refine mh_callVp (pc := 2) (As := [.int (Int32.ofInt (k))]) (st := []) F (by omega) (k_isChurn (by omega) hF r82 (by omega) (by omega)) wv_RX12_148_yX12_isChurn dX12_refill_2 sh_81 rfl (by decide) rfl rfl (Nat.le_of_ble_eq_true rfl) ⟨Nat.zero_le _, Nat.zero_le _⟩ ?_
  refine mh_ifb_ne (pc := 5) (tgt := 14) F dX12_refill_5 rfl (fun c_5 => ?_) (fun c_5 => ?_)
  · have zHC := hi.2.2.2.2.1 k (by omega) (by omega)
    have zHC2 := zHC
    obtain ⟨c0, c1, c2, c3, c4, c5, c6, c7, c8, c9, c10, c11, c12, c13⟩ := zHC2
    unfold sp_row at c0 c1 c2 c3 c4 c5 c6 c7 c8 c9 c10 c11 c12 c13
    refine mh_aload0 (pc := 14) F dX12_refill_14 ?_
    refine mh_iload1 (pc := 15) F dX12_refill_15 ?_
    refine mh_iconst (pc := 16) F dX12_refill_16 ?_
    refine mh_callVp (pc := 17) (As := [.int (Int32.ofInt (k)), .int (Int32.ofInt (3))]) (st := []) F (by omega) (k_its (by omega) hF r82 (by omega) (by omega)) wv_RX12_79_yX12_its dX12_refill_17 sh_81 rfl (by decide) rfl rfl (Nat.le_of_ble_eq_true rfl) ⟨Nat.zero_le _, Nat.zero_le _⟩ ?_
    refine mh_istore2 (pc := 20) F dX12_refill_20 rfl (by decide) ?_
    refine mh_aload0 (pc := 21) F dX12_refill_21 ?_
    refine mh_iload1 (pc := 22) F dX12_refill_22 ?_
    refine mh_callV0 (pc := 23) (As := [.int (Int32.ofInt (k))]) (st := []) F (by omega) (k_anew (by omega) hF r82 (by omega)) wv_RX12_144_yX12_anew dX12_refill_23 sh_81 rfl (by decide) rfl rfl (Nat.le_of_ble_eq_true rfl) ⟨Nat.zero_le _, Nat.zero_le _⟩ (fun r1 h1 q1 => ?_)
    obtain ⟨rfl, F1, fr1, q1_0⟩ := q1
    have r85_2 : h1 85 = er := (fr1 _ (by decide)).trans r85
    have fr2 : mh_fr [82] h h1 := (mh_fr.tr mh_fr.rf fr1).mono (by simp)
    refine mh_iload2 (pc := 26) F dX12_refill_26 ?_
    exact mh_ireturn F Z dX12_refill_27 ⟨_, _, _, (by unfold sp_refill; (repeat' split) <;> first | rfl | (exfalso; omega)), rfl, F1, (fr2.mono (by simp)), q1_0, r85_2⟩
  · refine mh_aload0 (pc := 8) F dX12_refill_8 ?_
    refine mh_iconst (pc := 9) F dX12_refill_9 ?_
    refine mh_callV0 (pc := 10) (As := [.int (Int32.ofInt (1))]) (st := []) F (by omega) (k_error (by omega) hF r85 (by omega)) wv_RX12_114_yX12_error dX12_refill_10 sh_81 rfl (by decide) rfl rfl (Nat.le_of_ble_eq_true rfl) ⟨Nat.zero_le _, Nat.zero_le _⟩ (fun r3 h3 q3 => ?_)
    obtain ⟨rfl, F3, fr3, q3_0⟩ := q3
    have r82_4 : h3 82 = s := (fr3 _ (by decide)).trans r82
    have fr4 : mh_fr [85] h h3 := (mh_fr.tr mh_fr.rf fr3).mono (by simp)
    exact mh_ireturn F Z dX12_refill_13 ⟨_, _, _, (by unfold sp_refill; (repeat' split) <;> first | rfl | (exfalso; omega)), rfl, F3, (fr4.mono (by simp)), r82_4, q3_0⟩

set_option maxRecDepth 100000 in
set_option maxHeartbeats 4000000 in
theorem p_law {g : mh_G} {d : Nat} (hd : 9 ≤ d) {h : Nat → Int → Int} (hF : mh_FX h) {s : Int → Int} (r82 : h 82 = s) {er : Int → Int} (r85 : h 85 = er) {u a b c : Int} (hu : -2147483648 ≤ u ∧ u < 2147483648) (ha : -2147483648 ≤ a ∧ a < 2147483648) (hb : -2147483648 ≤ b ∧ b < 2147483648) (hc : -2147483648 ≤ c ∧ c < 2147483648) (hi : sp_inv s) : mh_M g d yX12_law cX12_law 5 (some .int) 96 0 0 [.ref 81, .int (Int32.ofInt (u)), .int (Int32.ofInt (a)), .int (Int32.ofInt (b)), .int (Int32.ofInt (c))] h (fun r h2 => ∃ (vv : Int) (tt ee : Int → Int), (vv, tt, ee) = sp_lawP u a b c s er ∧ r = some (.int (Int32.ofInt vv)) ∧ mh_FX h2 ∧ mh_fr [82, 85, 86, 87] h h2 ∧ h2 82 = tt ∧ h2 85 = ee) := by
  refine mh_M_of RX12 rfl (by decide +kernel) [some (.ref 81), some (.int (Int32.ofInt (u))), some (.int (Int32.ofInt (a))), some (.int (Int32.ofInt (b))), some (.int (Int32.ofInt (c)))] rfl (Nat.le_of_ble_eq_true rfl) (fun f F Z hn0 hR => ?_)
  have hib := sp_inv_b hi
  have hm := hi.1
  have hq0 := hi.2.1
  have hws := hi.2.2.2.2.2
  obtain ⟨hH, hC⟩ := hi.2.2.2.1
  have hs1 := hi.2.2.1
  refine mh_iload1 (pc := 0) F dX12_law_0 ?_
  refine mh_i2l (pc := 1) F dX12_law_1 (by omega) ?_
  refine mh_lconst (x := 0) (pc := 2) F dX12_law_2 rfl ?_
  refine mh_lconst (x := 1) (pc := 3) F dX12_law_3 rfl ?_
  refine mh_callSp (pc := 4) (As := [.long (Int64.ofInt (u)), .long (Int64.ofInt (0)), .long (Int64.ofInt (1))]) (st := []) F (by omega) (k_in (by omega) (by omega) (by omega) (by omega)) ws_RX12_69 dX12_law_4 rfl rfl (Nat.le_of_ble_eq_true rfl) ⟨Nat.zero_le _, Nat.zero_le _⟩ ?_
  refine mh_ifb_eq (pc := 7) (tgt := 22) F dX12_law_7 rfl (fun c_7 => ?_) (fun c_7 => ?_)
  · refine mh_aload0 (pc := 22) F dX12_law_22 ?_
    refine mh_iconst (pc := 23) F dX12_law_23 ?_
    refine mh_callV0 (pc := 24) (As := [.int (Int32.ofInt (1))]) (st := []) F (by omega) (k_error (by omega) hF r85 (by omega)) wv_RX12_114_yX12_error dX12_law_24 sh_81 rfl (by decide) rfl rfl (Nat.le_of_ble_eq_true rfl) ⟨Nat.zero_le _, Nat.zero_le _⟩ (fun r1 h1 q1 => ?_)
    obtain ⟨rfl, F1, fr1, q1_0⟩ := q1
    have r82_2 : h1 82 = s := (fr1 _ (by decide)).trans r82
    have fr2 : mh_fr [85] h h1 := (mh_fr.tr mh_fr.rf fr1).mono (by simp)
    exact mh_ireturn F Z dX12_law_27 ⟨_, _, _, (by unfold sp_lawP; (repeat' split) <;> first | rfl | (exfalso; omega)), rfl, F1, (fr2.mono (by simp)), r82_2, q1_0⟩
  · rcases (show u = 0 ∨ u = 1 by omega) with hu0 | hu0
    · subst hu0
      refine mh_aload0 (pc := 10) F dX12_law_10 ?_
      refine mh_iload1 (pc := 11) F dX12_law_11 ?_
      refine mh_iload2 (pc := 12) F dX12_law_12 ?_
      refine mh_iload3 (pc := 13) F dX12_law_13 ?_
      refine mh_iload4 (pc := 14) F dX12_law_14 ?_
      refine mh_callV0 (pc := 16) (As := [.int (Int32.ofInt (0)), .int (Int32.ofInt (a)), .int (Int32.ofInt (b)), .int (Int32.ofInt (c))]) (st := []) F (by omega) (k_lawBy0 (by omega) hF r82 rfl rfl hws (by omega) (by omega) (by omega)) wv_RX12_101_yX12_lawBy dX12_law_16 sh_81 rfl (by decide) rfl rfl (Nat.le_of_ble_eq_true rfl) ⟨Nat.zero_le _, Nat.zero_le _⟩ (fun r3 h3 q3 => ?_)
      obtain ⟨rfl, F3, fr3⟩ := q3
      have r82_4 : h3 82 = s := (fr3 _ (by decide)).trans r82
      have r85_4 : h3 85 = er := (fr3 _ (by decide)).trans r85
      have fr4 : mh_fr [86, 87] h h3 := (mh_fr.tr mh_fr.rf fr3).mono (by simp)
      refine mh_goto (pc := 19) (tgt := 27) F dX12_law_19 rfl ?_
      exact mh_ireturn F Z dX12_law_27 ⟨_, _, _, (by unfold sp_lawP; (repeat' split) <;> first | rfl | (exfalso; omega)), rfl, F3, (fr4.mono (by simp)), r82_4, r85_4⟩
    · subst hu0
      refine mh_aload0 (pc := 10) F dX12_law_10 ?_
      refine mh_iload1 (pc := 11) F dX12_law_11 ?_
      refine mh_iload2 (pc := 12) F dX12_law_12 ?_
      refine mh_iload3 (pc := 13) F dX12_law_13 ?_
      refine mh_iload4 (pc := 14) F dX12_law_14 ?_
      refine mh_callV0 (pc := 16) (As := [.int (Int32.ofInt (1)), .int (Int32.ofInt (a)), .int (Int32.ofInt (b)), .int (Int32.ofInt (c))]) (st := []) F (by omega) (k_lawBy1 (by omega) hF r82 rfl rfl hws (by omega) (by omega) (by omega)) wv_RX12_101_yX12_lawBy dX12_law_16 sh_81 rfl (by decide) rfl rfl (Nat.le_of_ble_eq_true rfl) ⟨Nat.zero_le _, Nat.zero_le _⟩ (fun r5 h5 q5 => ?_)
      obtain ⟨rfl, F5, fr5⟩ := q5
      have r82_6 : h5 82 = s := (fr5 _ (by decide)).trans r82
      have r85_6 : h5 85 = er := (fr5 _ (by decide)).trans r85
      have fr6 : mh_fr [86, 87] h h5 := (mh_fr.tr mh_fr.rf fr5).mono (by simp)
      refine mh_goto (pc := 19) (tgt := 27) F dX12_law_19 rfl ?_
      exact mh_ireturn F Z dX12_law_27 ⟨_, _, _, (by unfold sp_lawP; (repeat' split) <;> first | rfl | (exfalso; omega)), rfl, F5, (fr6.mono (by simp)), r82_6, r85_6⟩

set_option maxRecDepth 100000 in
set_option maxHeartbeats 4000000 in
theorem p_quarters {g : mh_G} {d : Nat} (hd : 9 ≤ d) {h : Nat → Int → Int} (hF : mh_FX h) {s : Int → Int} (r82 : h 82 = s) {er : Int → Int} (r85 : h 85 = er) {n : Int} (hn : -2147483648 ≤ n ∧ n < 2147483648) (hi : sp_inv s) : mh_M g d yX12_quarters cX12_quarters 3 (some .int) 96 0 0 [.ref 81, .int (Int32.ofInt (n))] h (fun r h2 => ∃ (vv : Int) (tt ee : Int → Int), (vv, tt, ee) = sp_quarters n s er ∧ r = some (.int (Int32.ofInt vv)) ∧ mh_FX h2 ∧ mh_fr [82, 85, 86, 87] h h2 ∧ h2 82 = tt ∧ h2 85 = ee) := by
  refine mh_M_of RX12 rfl (by decide +kernel) [some (.ref 81), some (.int (Int32.ofInt (n))), none] rfl (Nat.le_of_ble_eq_true rfl) (fun f F Z hn0 hR => ?_)
  have hib := sp_inv_b hi
  have hm := hi.1
  have hq0 := hi.2.1
  have hws := hi.2.2.2.2.2
  obtain ⟨hH, hC⟩ := hi.2.2.2.1
  have hs1 := hi.2.2.1
  refine mh_iload1 (pc := 0) F dX12_quarters_0 ?_
  refine mh_i2l (pc := 1) F dX12_quarters_1 (by omega) ?_
  refine mh_lconst (x := 1) (pc := 2) F dX12_quarters_2 rfl ?_
  refine mh_ldc2 (x := 300) (pc := 3) F dX12_quarters_3 tw_6_209 ?_
  refine mh_callSp (pc := 6) (As := [.long (Int64.ofInt (n)), .long (Int64.ofInt (1)), .long (Int64.ofInt (300))]) (st := []) F (by omega) (k_in (by omega) (by omega) (by omega) (by omega)) ws_RX12_69 dX12_quarters_6 rfl rfl (Nat.le_of_ble_eq_true rfl) ⟨Nat.zero_le _, Nat.zero_le _⟩ ?_
  refine mh_ifb_ne (pc := 9) (tgt := 18) F dX12_quarters_9 rfl (fun c_9 => ?_) (fun c_9 => ?_)
  · refine mh_aload0 (pc := 18) F dX12_quarters_18 ?_
    refine mh_getr (b := 82) (pc := 19) F sh_81 (by decide) fw_RX12_9_12 dX12_quarters_19 rfl (fx_81_0 hF) ?_
    refine mh_iconst (pc := 22) F dX12_quarters_22 ?_
    refine mh_ialoadr (pc := 23) F sh_82 (by decide) (by omega) dX12_quarters_23 r82 ?_
    refine mh_iload1 (pc := 24) F dX12_quarters_24 ?_
    refine mh_iadd (pc := 25) F dX12_quarters_25 ?_
    refine mh_sipush (pc := 26) F dX12_quarters_26 rfl ?_
    refine mh_icmp_le (pc := 29) (tgt := 38) F dX12_quarters_29 rfl (by omega) (by omega) (fun c_29 => ?_) (fun c_29 => ?_)
    · refine mh_iconst (pc := 38) F dX12_quarters_38 ?_
      refine mh_istore2 (pc := 39) F dX12_quarters_39 rfl (by decide) ?_
      have L40 : ∀ (m : Nat) (x : Int) (hh : Nat → Int → Int) (t : Int → Int), (mh_FX hh) → (mh_fr [82, 86, 87] h hh) → (hh 82 = t) → (hh 85 = er) → (0 ≤ x ∧ x ≤ n) → (t = sp_aqs s x.toNat) → (n - x).toNat = m → mh_V g f 3 96 0 0 40 [some (.ref 81), some (.int (Int32.ofInt (n))), some (.int (Int32.ofInt (x)))] [] hh := by
        intro m
        induction m using Nat.strongRecOn with
        | _ m ihL40 =>
        intro x hh t Fhh frhh q82hh q85hh hx ht hmz
        refine mh_iload2 (pc := 40) F dX12_quarters_40 ?_
        obtain ⟨zHI, ha0, ha3⟩ := sp_aqs_all hi x.toNat (by omega)
        rw [← ht] at zHI ha0 ha3
        have zHI1 := zHI.2.2.1
        refine mh_iload1 (pc := 41) F dX12_quarters_41 ?_
        refine mh_icmp_ge (pc := 42) (tgt := 55) F dX12_quarters_42 rfl (by omega) (by omega) (fun c_42 => ?_) (fun c_42 => ?_)
        · refine mh_aload0 (pc := 55) F dX12_quarters_55 ?_
          refine mh_getr (b := 82) (pc := 56) F sh_81 (by decide) fw_RX12_9_12 dX12_quarters_56 rfl (fx_81_0 Fhh) ?_
          refine mh_iconst (pc := 59) F dX12_quarters_59 ?_
          refine mh_ialoadr (pc := 60) F sh_82 (by decide) (by omega) dX12_quarters_60 q82hh ?_
          exact mh_ireturn F Z dX12_quarters_61 ⟨_, _, _, (by unfold sp_quarters; (repeat' split) <;> first | rfl | (exfalso; omega) | (rw [show n = x by omega, ← ht]; done)), rfl, Fhh, (frhh.mono (by simp)), q82hh, q85hh⟩
        · refine mh_aload0 (pc := 45) F dX12_quarters_45 ?_
          refine mh_callV0 (pc := 46) (As := []) (st := []) F (by omega) (k_aQuarter (by omega) Fhh q82hh zHI) wv_RX12_265_yX12_aQuarter dX12_quarters_46 sh_81 rfl (by decide) rfl rfl (Nat.le_of_ble_eq_true rfl) ⟨Nat.zero_le _, Nat.zero_le _⟩ (fun r1 h1 q1 => ?_)
          obtain ⟨rfl, F1, fr1, q1_0⟩ := q1
          have r85_2 : h1 85 = er := (fr1 _ (by decide)).trans q85hh
          have fr2 : mh_fr [82, 86, 87] h h1 := (mh_fr.tr frhh fr1).mono (by simp)
          refine mh_iinc2 (pc := 49) F dX12_quarters_49 rfl (by decide) ?_
          refine mh_goto (pc := 52) (tgt := 40) F dX12_quarters_52 rfl ?_
          exact ihL40 _ (by omega) (x + 1) h1 (sp_aq t) F1 (fr2.mono (by simp)) q1_0 r85_2 (by omega) (by rw [sp_aqs_at _ hx.1, ← ht]) rfl
      exact L40 _ 0 h s hF (mh_fr.rf.mono (by simp)) r82 r85 (by omega) rfl rfl
    · refine mh_aload0 (pc := 32) F dX12_quarters_32 ?_
      refine mh_iconst (pc := 33) F dX12_quarters_33 ?_
      refine mh_callV0 (pc := 34) (As := [.int (Int32.ofInt (3))]) (st := []) F (by omega) (k_error (by omega) hF r85 (by omega)) wv_RX12_114_yX12_error dX12_quarters_34 sh_81 rfl (by decide) rfl rfl (Nat.le_of_ble_eq_true rfl) ⟨Nat.zero_le _, Nat.zero_le _⟩ (fun r3 h3 q3 => ?_)
      obtain ⟨rfl, F3, fr3, q3_0⟩ := q3
      have r82_4 : h3 82 = s := (fr3 _ (by decide)).trans r82
      have fr4 : mh_fr [85] h h3 := (mh_fr.tr mh_fr.rf fr3).mono (by simp)
      exact mh_ireturn F Z dX12_quarters_37 ⟨_, _, _, (by unfold sp_quarters; (repeat' split) <;> first | rfl | (exfalso; omega)), rfl, F3, (fr4.mono (by simp)), r82_4, q3_0⟩
  · refine mh_aload0 (pc := 12) F dX12_quarters_12 ?_
    refine mh_iconst (pc := 13) F dX12_quarters_13 ?_
    refine mh_callV0 (pc := 14) (As := [.int (Int32.ofInt (1))]) (st := []) F (by omega) (k_error (by omega) hF r85 (by omega)) wv_RX12_114_yX12_error dX12_quarters_14 sh_81 rfl (by decide) rfl rfl (Nat.le_of_ble_eq_true rfl) ⟨Nat.zero_le _, Nat.zero_le _⟩ (fun r5 h5 q5 => ?_)
    obtain ⟨rfl, F5, fr5, q5_0⟩ := q5
    have r82_6 : h5 82 = s := (fr5 _ (by decide)).trans r82
    have fr6 : mh_fr [85] h h5 := (mh_fr.tr mh_fr.rf fr5).mono (by simp)
    exact mh_ireturn F Z dX12_quarters_17 ⟨_, _, _, (by unfold sp_quarters; (repeat' split) <;> first | rfl | (exfalso; omega)), rfl, F5, (fr6.mono (by simp)), r82_6, q5_0⟩

