/-! what the public acts answer and leave: answer, the row, the errors told -/
def sp_er (s er : Int → Int) (k : Int) : Int × (Int → Int) × (Int → Int) := (-1000000000 - k, s, mh_ur er k (er k + 1))
def sp_inB (s : Int → Int) (x : Int) : Int := sp_cnt (fun j => decide (s (41 + 9 * j + 3) = 1 ∧ s (41 + 9 * j + 2) = x)) (s 3).toNat
theorem sp_inB_rg {s : Int → Int} (hm : 0 ≤ s 3 ∧ s 3 ≤ 6) (x : Int) : 0 ≤ sp_inB s x ∧ sp_inB s x ≤ 6 := by
  have := sp_cnt_rg (fun j => decide (s (41 + 9 * j + 3) = 1 ∧ s (41 + 9 * j + 2) = x)) (s 3).toNat
  unfold sp_inB; omega
def sp_bok (s : Int → Int) : Prop := ∀ j, 0 ≤ j → j < 6 → (0 ≤ s (41 + 9 * j + 2) ∧ s (41 + 9 * j + 2) ≤ 9) ∧ (0 ≤ s (41 + 9 * j + 3) ∧ s (41 + 9 * j + 3) ≤ 3)
theorem sp_inv_b {s : Int → Int} (h : sp_inv s) : sp_bok s := fun j j0 j1 => by
  have := h.2.2.2.2.1 j j0 j1
  exact ⟨this.2.2.1, this.2.2.2.1⟩
theorem k_inB {g : mh_G} {d : Nat} (hd : 2 ≤ d) {h : Nat → Int → Int} (hF : mh_FX h) {s : Int → Int} (r82 : h 82 = s) {x : Int} (hm : 0 ≤ s 3 ∧ s 3 ≤ 6) (hx : -2147483648 ≤ x ∧ x < 2147483648) (hc : sp_bok s) : mh_MP g d yX12_inBrook cX12_inBrook 4 (some .int) 96 [.ref 81, .int (Int32.ofInt x)] h (some (.int (Int32.ofInt (sp_inB s x)))) := k_inBrook hd hF r82 hm hx hc
def sp_most (w : Int) : Int := if w = 0 then 40 else if w = 1 then 3 else 99
def sp_hill (a w v : Int) (s er : Int → Int) : Int × (Int → Int) × (Int → Int) :=
  if ¬ ((0 ≤ a ∧ a ≤ 8) ∧ (0 ≤ w ∧ w ≤ 2) ∧ (0 ≤ v ∧ v ≤ sp_most w)) then sp_er s er 1
  else if w = 1 ∧ v < sp_inB s a then sp_er s er 3
  else (s (6 + 3 * a + w), mh_ur s (6 + 3 * a + w) v, er)
def sp_ofHill (a w : Int) (s er : Int → Int) : Int × (Int → Int) × (Int → Int) :=
  if ¬ ((0 ≤ a ∧ a ≤ 8) ∧ (0 ≤ w ∧ w ≤ 4)) then sp_er s er 1
  else (if w < 3 then s (6 + 3 * a + w) else if w = 3 then sp_inB s a else sp_warm s a (s 0), s, er)
def sp_carrier (c p k : Int) (s er : Int → Int) : Int × (Int → Int) × (Int → Int) :=
  if ¬ ((0 ≤ c ∧ c ≤ 3) ∧ (1 ≤ p ∧ p ≤ 9) ∧ (0 ≤ k ∧ k ≤ 20)) then sp_er s er 1
  else (10 * s (33 + 2 * c), mh_ur (mh_ur s (33 + 2 * c) p) (33 + 2 * c + 1) k, er)
def sp_anew (s : Int → Int) (k : Int) : Int → Int := fun i => if 41 + 9 * k + 2 ≤ i ∧ i ≤ 41 + 9 * k + 8 then 0 else s i
def sp_churn (x : Int) (s er : Int → Int) : Int × (Int → Int) × (Int → Int) :=
  if ¬ (0 ≤ x ∧ x ≤ 69) then sp_er s er 1
  else if s 3 = 6 then sp_er s er 4
  else (s 3, sp_anew (mh_ur (mh_ur (mh_ur s 3 (s 3 + 1)) (41 + 9 * s 3 + 0) (x.tdiv 10)) (41 + 9 * s 3 + 1) (x.tmod 10)) (s 3), er)
def sp_told (s : Int → Int) (k w : Int) : Int := if w = 4 then (if s (41 + 9 * k + 3) = 2 then s (41 + 9 * k + 4) else 0) else if w = 7 then sp_stm s k else if w = 8 then sp_turns (s (41 + 9 * k + 0)) (s (41 + 9 * k + 1)) else if w = 9 then (if s (41 + 9 * k + 3) = 2 then s (41 + 9 * k + 7) else -1) else s (41 + 9 * k + w)
def sp_ofChurn (k w : Int) (s er : Int → Int) : Int × (Int → Int) × (Int → Int) :=
  if ¬ ((0 ≤ k ∧ k ≤ s 3 - 1) ∧ (0 ≤ w ∧ w ≤ 9)) then sp_er s er 1 else (sp_told s k w, s, er)
def sp_become (k x : Int) (s er : Int → Int) : Int × (Int → Int) × (Int → Int) :=
  if ¬ ((0 ≤ k ∧ k ≤ s 3 - 1) ∧ (0 ≤ x ∧ x ≤ 69)) then sp_er s er 1
  else (s (41 + 9 * k + 0), mh_ur (mh_ur s (41 + 9 * k + 0) (x.tdiv 10)) (41 + 9 * k + 1) (x.tmod 10), er)
def sp_above (k : Int) : Int := if k = 4 then 1 else if k = 5 then 2 else if k = 6 then 3 else 0
def sp_as (k x : Int) (s er : Int → Int) : Int × (Int → Int) × (Int → Int) :=
  if ¬ ((0 ≤ k ∧ k ≤ s 3 - 1) ∧ (0 ≤ x ∧ x ≤ 6)) then sp_er s er 1
  else if ¬ (x = 0 ∨ s (41 + 9 * k + 0) = x ∨ sp_above (s (41 + 9 * k + 0)) = x) then sp_er s er 5 else (s (41 + 9 * k + 1), s, er)
def sp_leaves (s : Int → Int) (k c : Int) : Int → Int := mh_ur (mh_ur (mh_ur s (41 + 9 * k + 3) 2) (41 + 9 * k + 4) (s (33 + 2 * c))) (41 + 9 * k + 7) c
def sp_stands (s : Int → Int) (k : Int) : Prop := s (41 + 9 * k + 3) < 2 ∧ s (41 + 9 * k + 8) = 0
def sp_goP (k c : Int) (s er : Int → Int) : Int × (Int → Int) × (Int → Int) :=
  if ¬ ((0 ≤ k ∧ k ≤ s 3 - 1) ∧ (0 ≤ c ∧ c ≤ 3)) then sp_er s er 1
  else if ¬ (s (41 + 9 * k + 3) < 2 ∧ s (41 + 9 * k + 8) = 0) then sp_er s er 3
  else (s (33 + 2 * c), sp_leaves s k c, er)
def sp_brook (k : Int) (s er : Int → Int) : Int × (Int → Int) × (Int → Int) :=
  if ¬ (0 ≤ k ∧ k ≤ s 3 - 1) then sp_er s er 1
  else if ¬ (s (41 + 9 * k + 3) < 2 ∧ s (41 + 9 * k + 8) = 0) ∨ s (41 + 9 * k + 3) = 1 then sp_er s er 3
  else if sp_inB s (s (41 + 9 * k + 2)) = s (6 + 3 * s (41 + 9 * k + 2) + 1) then sp_er s er 4
  else (sp_inB (mh_ur s (41 + 9 * k + 3) 1) (s (41 + 9 * k + 2)), mh_ur s (41 + 9 * k + 3) 1, er)
def sp_rest (k : Int) (s er : Int → Int) : Int × (Int → Int) × (Int → Int) :=
  if ¬ (0 ≤ k ∧ k ≤ s 3 - 1) then sp_er s er 1
  else if s (41 + 9 * k + 3) ≠ 1 then sp_er s er 3
  else (sp_inB (mh_ur s (41 + 9 * k + 3) 0) (s (41 + 9 * k + 2)), mh_ur s (41 + 9 * k + 3) 0, er)
def sp_giveUp (k : Int) (s er : Int → Int) : Int × (Int → Int) × (Int → Int) :=
  if ¬ (0 ≤ k ∧ k ≤ s 3 - 1) then sp_er s er 1
  else if ¬ (s (41 + 9 * k + 3) < 2 ∧ s (41 + 9 * k + 8) = 0) then sp_er s er 3
  else (sp_cheese s (s (41 + 9 * k + 2)) (s (41 + 9 * k + 5)), sp_takes (mh_ur (mh_ur s (41 + 9 * k + 3) 0) (41 + 9 * k + 8) 1) (sp_cheese s (s (41 + 9 * k + 2)) (s (41 + 9 * k + 5))), er)
def sp_refill (k : Int) (s er : Int → Int) : Int × (Int → Int) × (Int → Int) :=
  if ¬ (0 ≤ k ∧ k ≤ s 3 - 1) then sp_er s er 1 else (s (41 + 9 * k + 3), sp_anew s k, er)
def sp_lawP (u a b c : Int) (s er : Int → Int) : Int × (Int → Int) × (Int → Int) :=
  if ¬ (0 ≤ u ∧ u ≤ 1) then sp_er s er 1 else (sp_law s u a b c, s, er)
def sp_quarters (n : Int) (s er : Int → Int) : Int × (Int → Int) × (Int → Int) :=
  if ¬ (1 ≤ n ∧ n ≤ 300) then sp_er s er 1
  else if 9999 < s 0 + n then sp_er s er 3 else (sp_aqs s n.toNat 1, sp_aqs s n.toNat, er)
theorem k_most {g : mh_G} {d : Nat} (hd : 1 ≤ d) {h : Nat → Int → Int} {x : Int} (hx : -2147483648 ≤ x ∧ x < 2147483648) : mh_MP g d yX12_mostOf cX12_mostOf 1 (some .int) 96 [.int (Int32.ofInt x)] h (some (.int (Int32.ofInt (sp_most x)))) := k_mostOf hd hx
theorem sp_most_rg (w : Int) : 3 ≤ sp_most w ∧ sp_most w ≤ 99 := by unfold sp_most; repeat' split <;> omega
theorem k_above {g : mh_G} {d : Nat} (hd : 1 ≤ d) {h : Nat → Int → Int} {k : Int} (hk : 0 ≤ k ∧ k ≤ 6) : mh_MP g d yX12_aboveOf cX12_aboveOf 1 (some .int) 96 [.int (Int32.ofInt k)] h (some (.int (Int32.ofInt (sp_above k)))) := k_aboveOf hd hk
theorem sp_above_rg (w : Int) : 0 ≤ sp_above w ∧ sp_above w ≤ 3 := by unfold sp_above; repeat' split <;> omega
set_option maxRecDepth 100000 in
set_option maxHeartbeats 4000000 in
theorem p_hill {g : mh_G} {d : Nat} (hd : 9 ≤ d) {h : Nat → Int → Int} (hF : mh_FX h) {s : Int → Int} (r82 : h 82 = s) {er : Int → Int} (r85 : h 85 = er) {a w v : Int} (ha : -2147483648 ≤ a ∧ a < 2147483648) (hw : -2147483648 ≤ w ∧ w < 2147483648) (hv : -2147483648 ≤ v ∧ v < 2147483648) (hi : sp_inv s) : mh_M g d yX12_hill cX12_hill 5 (some .int) 96 0 0 [.ref 81, .int (Int32.ofInt (a)), .int (Int32.ofInt (w)), .int (Int32.ofInt (v))] h (fun r h2 => ∃ (vv : Int) (tt ee : Int → Int), (vv, tt, ee) = sp_hill a w v s er ∧ r = some (.int (Int32.ofInt vv)) ∧ mh_FX h2 ∧ mh_fr [82, 85, 86, 87] h h2 ∧ h2 82 = tt ∧ h2 85 = ee) := by
  refine mh_M_of RX12 rfl (by decide +kernel) [some (.ref 81), some (.int (Int32.ofInt (a))), some (.int (Int32.ofInt (w))), some (.int (Int32.ofInt (v))), none] rfl (Nat.le_of_ble_eq_true rfl) (fun f F Z hn0 hR => ?_)
  have hib := sp_inv_b hi
  have hm := hi.1
  have hq0 := hi.2.1
  have hws := hi.2.2.2.2.2
  obtain ⟨hH, hC⟩ := hi.2.2.2.1
  have hs1 := hi.2.2.1
  have hmo := sp_most_rg w
  have hbr := sp_inB_rg hm a
  refine mh_iload1 (pc := 0) F dX12_hill_0 ?_
  refine mh_callSp (pc := 1) (As := [.int (Int32.ofInt (a))]) (st := []) F (by omega) (k_isHill (by omega) (by omega)) ws_RX12_105 dX12_hill_1 rfl rfl (Nat.le_of_ble_eq_true rfl) ⟨Nat.zero_le _, Nat.zero_le _⟩ ?_
  refine mh_ifb_eq (pc := 4) (tgt := 33) F dX12_hill_4 rfl (fun c_4 => ?_) (fun c_4 => ?_)
  · refine mh_aload0 (pc := 33) F dX12_hill_33 ?_
    refine mh_iconst (pc := 34) F dX12_hill_34 ?_
    refine mh_callV0 (pc := 35) (As := [.int (Int32.ofInt (1))]) (st := []) F (by omega) (k_error (by omega) hF r85 (by omega)) wv_RX12_114_yX12_error dX12_hill_35 sh_81 rfl (by decide) rfl rfl (Nat.le_of_ble_eq_true rfl) ⟨Nat.zero_le _, Nat.zero_le _⟩ (fun r1 h1 q1 => ?_)
    obtain ⟨rfl, F1, fr1, q1_0⟩ := q1
    have r82_2 : h1 82 = s := (fr1 _ (by decide)).trans r82
    have fr2 : mh_fr [85] h h1 := (mh_fr.tr mh_fr.rf fr1).mono (by simp)
    exact mh_ireturn F Z dX12_hill_38 ⟨_, _, _, (by unfold sp_hill; (repeat' split) <;> first | rfl | (exfalso; omega)), rfl, F1, (fr2.mono (by simp)), r82_2, q1_0⟩
  · refine mh_iload2 (pc := 7) F dX12_hill_7 ?_
    refine mh_i2l (pc := 8) F dX12_hill_8 (by omega) ?_
    refine mh_lconst (x := 0) (pc := 9) F dX12_hill_9 rfl ?_
    refine mh_ldc2 (x := 2) (pc := 10) F dX12_hill_10 tw_5_219 ?_
    refine mh_callSp (pc := 13) (As := [.long (Int64.ofInt (w)), .long (Int64.ofInt (0)), .long (Int64.ofInt (2))]) (st := []) F (by omega) (k_in (by omega) (by omega) (by omega) (by omega)) ws_RX12_69 dX12_hill_13 rfl rfl (Nat.le_of_ble_eq_true rfl) ⟨Nat.zero_le _, Nat.zero_le _⟩ ?_
    refine mh_ifb_eq (pc := 16) (tgt := 33) F dX12_hill_16 rfl (fun c_16 => ?_) (fun c_16 => ?_)
    · refine mh_aload0 (pc := 33) F dX12_hill_33 ?_
      refine mh_iconst (pc := 34) F dX12_hill_34 ?_
      refine mh_callV0 (pc := 35) (As := [.int (Int32.ofInt (1))]) (st := []) F (by omega) (k_error (by omega) hF r85 (by omega)) wv_RX12_114_yX12_error dX12_hill_35 sh_81 rfl (by decide) rfl rfl (Nat.le_of_ble_eq_true rfl) ⟨Nat.zero_le _, Nat.zero_le _⟩ (fun r3 h3 q3 => ?_)
      obtain ⟨rfl, F3, fr3, q3_0⟩ := q3
      have r82_4 : h3 82 = s := (fr3 _ (by decide)).trans r82
      have fr4 : mh_fr [85] h h3 := (mh_fr.tr mh_fr.rf fr3).mono (by simp)
      exact mh_ireturn F Z dX12_hill_38 ⟨_, _, _, (by unfold sp_hill; (repeat' split) <;> first | rfl | (exfalso; omega)), rfl, F3, (fr4.mono (by simp)), r82_4, q3_0⟩
    · refine mh_iload3 (pc := 19) F dX12_hill_19 ?_
      refine mh_i2l (pc := 20) F dX12_hill_20 (by omega) ?_
      refine mh_lconst (x := 0) (pc := 21) F dX12_hill_21 rfl ?_
      refine mh_iload2 (pc := 22) F dX12_hill_22 ?_
      refine mh_callSp (pc := 23) (As := [.int (Int32.ofInt (w))]) (st := [.long (Int64.ofInt (0)), .long (Int64.ofInt (v))]) F (by omega) (k_most (by omega) (by omega)) ws_RX12_111 dX12_hill_23 rfl rfl (Nat.le_of_ble_eq_true rfl) ⟨Nat.zero_le _, Nat.zero_le _⟩ ?_
      refine mh_i2l (pc := 26) F dX12_hill_26 (by omega) ?_
      refine mh_callSp (pc := 27) (As := [.long (Int64.ofInt (v)), .long (Int64.ofInt (0)), .long (Int64.ofInt (sp_most w))]) (st := []) F (by omega) (k_in (by omega) (by omega) (by omega) (by omega)) ws_RX12_69 dX12_hill_27 rfl rfl (Nat.le_of_ble_eq_true rfl) ⟨Nat.zero_le _, Nat.zero_le _⟩ ?_
      refine mh_ifb_ne (pc := 30) (tgt := 39) F dX12_hill_30 rfl (fun c_30 => ?_) (fun c_30 => ?_)
      · refine mh_iload2 (pc := 39) F dX12_hill_39 ?_
        refine mh_iconst (pc := 40) F dX12_hill_40 ?_
        refine mh_icmp_ne (pc := 41) (tgt := 59) F dX12_hill_41 rfl (by omega) (by omega) (fun c_41 => ?_) (fun c_41 => ?_)
        · refine mh_aload0 (pc := 59) F dX12_hill_59 ?_
          refine mh_iload1 (pc := 60) F dX12_hill_60 ?_
          refine mh_iload2 (pc := 61) F dX12_hill_61 ?_
          refine mh_callVp (pc := 62) (As := [.int (Int32.ofInt (a)), .int (Int32.ofInt (w))]) (st := []) F (by omega) (k_ofHillNow (by omega) hF r82 (by omega) (by omega)) wv_RX12_98_yX12_ofHillNow dX12_hill_62 sh_81 rfl (by decide) rfl rfl (Nat.le_of_ble_eq_true rfl) ⟨Nat.zero_le _, Nat.zero_le _⟩ ?_
          refine mh_istore4 (pc := 65) F dX12_hill_65 rfl (by decide) ?_
          refine mh_aload0 (pc := 67) F dX12_hill_67 ?_
          refine mh_getr (b := 82) (pc := 68) F sh_81 (by decide) fw_RX12_9_12 dX12_hill_68 rfl (fx_81_0 hF) ?_
          refine mh_bipush (pc := 71) F dX12_hill_71 rfl ?_
          refine mh_iconst (pc := 73) F dX12_hill_73 ?_
          refine mh_iload1 (pc := 74) F dX12_hill_74 ?_
          refine mh_imul (pc := 75) F dX12_hill_75 ?_
          refine mh_iadd (pc := 76) F dX12_hill_76 ?_
          refine mh_iload2 (pc := 77) F dX12_hill_77 ?_
          refine mh_iadd (pc := 78) F dX12_hill_78 ?_
          refine mh_iload3 (pc := 79) F dX12_hill_79 ?_
          refine mh_iastore (pc := 80) F sh_82 (by decide) (by omega) dX12_hill_80 ?_
          refine mh_nmh (fun h5 e5 => ?_)
          have F5 : mh_FX h5 := by rw [e5]; exact hF.upa rfl
          have r82_5 : h5 82 = mh_ur s ((6 + (3 * a)) + w) v := by rw [e5, mh_up_rs, r82]
          have r85_5 : h5 85 = er := by rw [e5, mh_up_row (by decide)]; exact r85
          have fr5 : mh_fr [82] h h5 := mh_fr.up mh_fr.rf e5
          refine mh_iload4 (pc := 81) F dX12_hill_81 ?_
          exact mh_ireturn F Z dX12_hill_83 ⟨_, _, _, (by unfold sp_hill; (repeat' split) <;> first | rfl | (exfalso; omega)), rfl, F5, (fr5.mono (by simp)), r82_5, r85_5⟩
        · refine mh_aload0 (pc := 44) F dX12_hill_44 ?_
          refine mh_iload1 (pc := 45) F dX12_hill_45 ?_
          refine mh_callVp (pc := 46) (As := [.int (Int32.ofInt (a))]) (st := []) F (by omega) (k_inB (by omega) hF r82 (by omega) (by omega) hib) wv_RX12_117_yX12_inBrook dX12_hill_46 sh_81 rfl (by decide) rfl rfl (Nat.le_of_ble_eq_true rfl) ⟨Nat.zero_le _, Nat.zero_le _⟩ ?_
          refine mh_iload3 (pc := 49) F dX12_hill_49 ?_
          refine mh_icmp_le (pc := 50) (tgt := 59) F dX12_hill_50 rfl (by omega) (by omega) (fun c_50 => ?_) (fun c_50 => ?_)
          · refine mh_aload0 (pc := 59) F dX12_hill_59 ?_
            refine mh_iload1 (pc := 60) F dX12_hill_60 ?_
            refine mh_iload2 (pc := 61) F dX12_hill_61 ?_
            refine mh_callVp (pc := 62) (As := [.int (Int32.ofInt (a)), .int (Int32.ofInt (w))]) (st := []) F (by omega) (k_ofHillNow (by omega) hF r82 (by omega) (by omega)) wv_RX12_98_yX12_ofHillNow dX12_hill_62 sh_81 rfl (by decide) rfl rfl (Nat.le_of_ble_eq_true rfl) ⟨Nat.zero_le _, Nat.zero_le _⟩ ?_
            refine mh_istore4 (pc := 65) F dX12_hill_65 rfl (by decide) ?_
            refine mh_aload0 (pc := 67) F dX12_hill_67 ?_
            refine mh_getr (b := 82) (pc := 68) F sh_81 (by decide) fw_RX12_9_12 dX12_hill_68 rfl (fx_81_0 hF) ?_
            refine mh_bipush (pc := 71) F dX12_hill_71 rfl ?_
            refine mh_iconst (pc := 73) F dX12_hill_73 ?_
            refine mh_iload1 (pc := 74) F dX12_hill_74 ?_
            refine mh_imul (pc := 75) F dX12_hill_75 ?_
            refine mh_iadd (pc := 76) F dX12_hill_76 ?_
            refine mh_iload2 (pc := 77) F dX12_hill_77 ?_
            refine mh_iadd (pc := 78) F dX12_hill_78 ?_
            refine mh_iload3 (pc := 79) F dX12_hill_79 ?_
            refine mh_iastore (pc := 80) F sh_82 (by decide) (by omega) dX12_hill_80 ?_
            refine mh_nmh (fun h6 e6 => ?_)
            have F6 : mh_FX h6 := by rw [e6]; exact hF.upa rfl
            have r82_6 : h6 82 = mh_ur s ((6 + (3 * a)) + w) v := by rw [e6, mh_up_rs, r82]
            have r85_6 : h6 85 = er := by rw [e6, mh_up_row (by decide)]; exact r85
            have fr6 : mh_fr [82] h h6 := mh_fr.up mh_fr.rf e6
            refine mh_iload4 (pc := 81) F dX12_hill_81 ?_
            exact mh_ireturn F Z dX12_hill_83 ⟨_, _, _, (by unfold sp_hill; (repeat' split) <;> first | rfl | (exfalso; omega)), rfl, F6, (fr6.mono (by simp)), r82_6, r85_6⟩
          · refine mh_aload0 (pc := 53) F dX12_hill_53 ?_
            refine mh_iconst (pc := 54) F dX12_hill_54 ?_
            refine mh_callV0 (pc := 55) (As := [.int (Int32.ofInt (3))]) (st := []) F (by omega) (k_error (by omega) hF r85 (by omega)) wv_RX12_114_yX12_error dX12_hill_55 sh_81 rfl (by decide) rfl rfl (Nat.le_of_ble_eq_true rfl) ⟨Nat.zero_le _, Nat.zero_le _⟩ (fun r7 h7 q7 => ?_)
            obtain ⟨rfl, F7, fr7, q7_0⟩ := q7
            have r82_8 : h7 82 = s := (fr7 _ (by decide)).trans r82
            have fr8 : mh_fr [85] h h7 := (mh_fr.tr mh_fr.rf fr7).mono (by simp)
            exact mh_ireturn F Z dX12_hill_58 ⟨_, _, _, (by unfold sp_hill; (repeat' split) <;> first | rfl | (exfalso; omega)), rfl, F7, (fr8.mono (by simp)), r82_8, q7_0⟩
      · refine mh_aload0 (pc := 33) F dX12_hill_33 ?_
        refine mh_iconst (pc := 34) F dX12_hill_34 ?_
        refine mh_callV0 (pc := 35) (As := [.int (Int32.ofInt (1))]) (st := []) F (by omega) (k_error (by omega) hF r85 (by omega)) wv_RX12_114_yX12_error dX12_hill_35 sh_81 rfl (by decide) rfl rfl (Nat.le_of_ble_eq_true rfl) ⟨Nat.zero_le _, Nat.zero_le _⟩ (fun r9 h9 q9 => ?_)
        obtain ⟨rfl, F9, fr9, q9_0⟩ := q9
        have r82_10 : h9 82 = s := (fr9 _ (by decide)).trans r82
        have fr10 : mh_fr [85] h h9 := (mh_fr.tr mh_fr.rf fr9).mono (by simp)
        exact mh_ireturn F Z dX12_hill_38 ⟨_, _, _, (by unfold sp_hill; (repeat' split) <;> first | rfl | (exfalso; omega)), rfl, F9, (fr10.mono (by simp)), r82_10, q9_0⟩

set_option maxRecDepth 100000 in
set_option maxHeartbeats 4000000 in
theorem p_ofHill {g : mh_G} {d : Nat} (hd : 9 ≤ d) {h : Nat → Int → Int} (hF : mh_FX h) {s : Int → Int} (r82 : h 82 = s) {er : Int → Int} (r85 : h 85 = er) {a w : Int} (ha : -2147483648 ≤ a ∧ a < 2147483648) (hw : -2147483648 ≤ w ∧ w < 2147483648) (hi : sp_inv s) : mh_M g d yX12_ofHill cX12_ofHill 3 (some .int) 96 0 0 [.ref 81, .int (Int32.ofInt (a)), .int (Int32.ofInt (w))] h (fun r h2 => ∃ (vv : Int) (tt ee : Int → Int), (vv, tt, ee) = sp_ofHill a w s er ∧ r = some (.int (Int32.ofInt vv)) ∧ mh_FX h2 ∧ mh_fr [82, 85, 86, 87] h h2 ∧ h2 82 = tt ∧ h2 85 = ee) := by
  refine mh_M_of RX12 rfl (by decide +kernel) [some (.ref 81), some (.int (Int32.ofInt (a))), some (.int (Int32.ofInt (w)))] rfl (Nat.le_of_ble_eq_true rfl) (fun f F Z hn0 hR => ?_)
  have hib := sp_inv_b hi
  have hm := hi.1
  have hq0 := hi.2.1
  have hws := hi.2.2.2.2.2
  obtain ⟨hH, hC⟩ := hi.2.2.2.1
  have hs1 := hi.2.2.1
  refine mh_iload1 (pc := 0) F dX12_ofHill_0 ?_
  refine mh_callSp (pc := 1) (As := [.int (Int32.ofInt (a))]) (st := []) F (by omega) (k_isHill (by omega) (by omega)) ws_RX12_105 dX12_ofHill_1 rfl rfl (Nat.le_of_ble_eq_true rfl) ⟨Nat.zero_le _, Nat.zero_le _⟩ ?_
  refine mh_ifb_eq (pc := 4) (tgt := 19) F dX12_ofHill_4 rfl (fun c_4 => ?_) (fun c_4 => ?_)
  · refine mh_aload0 (pc := 19) F dX12_ofHill_19 ?_
    refine mh_iconst (pc := 20) F dX12_ofHill_20 ?_
    refine mh_callV0 (pc := 21) (As := [.int (Int32.ofInt (1))]) (st := []) F (by omega) (k_error (by omega) hF r85 (by omega)) wv_RX12_114_yX12_error dX12_ofHill_21 sh_81 rfl (by decide) rfl rfl (Nat.le_of_ble_eq_true rfl) ⟨Nat.zero_le _, Nat.zero_le _⟩ (fun r1 h1 q1 => ?_)
    obtain ⟨rfl, F1, fr1, q1_0⟩ := q1
    have r82_2 : h1 82 = s := (fr1 _ (by decide)).trans r82
    have fr2 : mh_fr [85] h h1 := (mh_fr.tr mh_fr.rf fr1).mono (by simp)
    exact mh_ireturn F Z dX12_ofHill_24 ⟨_, _, _, (by unfold sp_ofHill; (repeat' split) <;> first | rfl | (exfalso; omega)), rfl, F1, (fr2.mono (by simp)), r82_2, q1_0⟩
  · refine mh_iload2 (pc := 7) F dX12_ofHill_7 ?_
    refine mh_i2l (pc := 8) F dX12_ofHill_8 (by omega) ?_
    refine mh_lconst (x := 0) (pc := 9) F dX12_ofHill_9 rfl ?_
    refine mh_ldc2 (x := 4) (pc := 10) F dX12_ofHill_10 tw_6_4 ?_
    refine mh_callSp (pc := 13) (As := [.long (Int64.ofInt (w)), .long (Int64.ofInt (0)), .long (Int64.ofInt (4))]) (st := []) F (by omega) (k_in (by omega) (by omega) (by omega) (by omega)) ws_RX12_69 dX12_ofHill_13 rfl rfl (Nat.le_of_ble_eq_true rfl) ⟨Nat.zero_le _, Nat.zero_le _⟩ ?_
    refine mh_ifb_ne (pc := 16) (tgt := 25) F dX12_ofHill_16 rfl (fun c_16 => ?_) (fun c_16 => ?_)
    · have hha := hH a (by omega) (by omega)
      refine mh_iload2 (pc := 25) F dX12_ofHill_25 ?_
      refine mh_iconst (pc := 26) F dX12_ofHill_26 ?_
      refine mh_icmp_ge (pc := 27) (tgt := 39) F dX12_ofHill_27 rfl (by omega) (by omega) (fun c_27 => ?_) (fun c_27 => ?_)
      · refine mh_iload2 (pc := 39) F dX12_ofHill_39 ?_
        refine mh_iconst (pc := 40) F dX12_ofHill_40 ?_
        refine mh_icmp_ne (pc := 41) (tgt := 52) F dX12_ofHill_41 rfl (by omega) (by omega) (fun c_41 => ?_) (fun c_41 => ?_)
        · refine mh_aload0 (pc := 52) F dX12_ofHill_52 ?_
          refine mh_iload1 (pc := 53) F dX12_ofHill_53 ?_
          refine mh_aload0 (pc := 54) F dX12_ofHill_54 ?_
          refine mh_getr (b := 82) (pc := 55) F sh_81 (by decide) fw_RX12_9_12 dX12_ofHill_55 rfl (fx_81_0 hF) ?_
          refine mh_iconst (pc := 58) F dX12_ofHill_58 ?_
          refine mh_ialoadr (pc := 59) F sh_82 (by decide) (by omega) dX12_ofHill_59 r82 ?_
          refine mh_callV0 (pc := 60) (As := [.int (Int32.ofInt (a)), .int (Int32.ofInt (s 0))]) (st := []) F (by omega) (k_warm (by omega) hF r82 (by omega) (by omega) (by omega) hws) wv_RX12_122_yX12_warm dX12_ofHill_60 sh_81 rfl (by decide) rfl rfl (Nat.le_of_ble_eq_true rfl) ⟨Nat.zero_le _, Nat.zero_le _⟩ (fun r3 h3 q3 => ?_)
          obtain ⟨rfl, F3, fr3⟩ := q3
          have r82_4 : h3 82 = s := (fr3 _ (by decide)).trans r82
          have r85_4 : h3 85 = er := (fr3 _ (by decide)).trans r85
          have fr4 : mh_fr [86, 87] h h3 := (mh_fr.tr mh_fr.rf fr3).mono (by simp)
          exact mh_ireturn F Z dX12_ofHill_63 ⟨_, _, _, (by unfold sp_ofHill; (repeat' split) <;> first | rfl | (exfalso; omega)), rfl, F3, (fr4.mono (by simp)), r82_4, r85_4⟩
        · refine mh_aload0 (pc := 44) F dX12_ofHill_44 ?_
          refine mh_iload1 (pc := 45) F dX12_ofHill_45 ?_
          refine mh_callVp (pc := 46) (As := [.int (Int32.ofInt (a))]) (st := []) F (by omega) (k_inB (by omega) hF r82 (by omega) (by omega) hib) wv_RX12_117_yX12_inBrook dX12_ofHill_46 sh_81 rfl (by decide) rfl rfl (Nat.le_of_ble_eq_true rfl) ⟨Nat.zero_le _, Nat.zero_le _⟩ ?_
          refine mh_goto (pc := 49) (tgt := 63) F dX12_ofHill_49 rfl ?_
          exact mh_ireturn F Z dX12_ofHill_63 ⟨_, _, _, (by unfold sp_ofHill; (repeat' split) <;> first | rfl | (exfalso; omega)), rfl, hF, (mh_fr.rf.mono (by simp)), r82, r85⟩
      · refine mh_aload0 (pc := 30) F dX12_ofHill_30 ?_
        refine mh_iload1 (pc := 31) F dX12_ofHill_31 ?_
        refine mh_iload2 (pc := 32) F dX12_ofHill_32 ?_
        refine mh_callVp (pc := 33) (As := [.int (Int32.ofInt (a)), .int (Int32.ofInt (w))]) (st := []) F (by omega) (k_ofHillNow (by omega) hF r82 (by omega) (by omega)) wv_RX12_98_yX12_ofHillNow dX12_ofHill_33 sh_81 rfl (by decide) rfl rfl (Nat.le_of_ble_eq_true rfl) ⟨Nat.zero_le _, Nat.zero_le _⟩ ?_
        refine mh_goto (pc := 36) (tgt := 63) F dX12_ofHill_36 rfl ?_
        exact mh_ireturn F Z dX12_ofHill_63 ⟨_, _, _, (by unfold sp_ofHill; (repeat' split) <;> first | rfl | (exfalso; omega)), rfl, hF, (mh_fr.rf.mono (by simp)), r82, r85⟩
    · refine mh_aload0 (pc := 19) F dX12_ofHill_19 ?_
      refine mh_iconst (pc := 20) F dX12_ofHill_20 ?_
      refine mh_callV0 (pc := 21) (As := [.int (Int32.ofInt (1))]) (st := []) F (by omega) (k_error (by omega) hF r85 (by omega)) wv_RX12_114_yX12_error dX12_ofHill_21 sh_81 rfl (by decide) rfl rfl (Nat.le_of_ble_eq_true rfl) ⟨Nat.zero_le _, Nat.zero_le _⟩ (fun r5 h5 q5 => ?_)
      obtain ⟨rfl, F5, fr5, q5_0⟩ := q5
      have r82_6 : h5 82 = s := (fr5 _ (by decide)).trans r82
      have fr6 : mh_fr [85] h h5 := (mh_fr.tr mh_fr.rf fr5).mono (by simp)
      exact mh_ireturn F Z dX12_ofHill_24 ⟨_, _, _, (by unfold sp_ofHill; (repeat' split) <;> first | rfl | (exfalso; omega)), rfl, F5, (fr6.mono (by simp)), r82_6, q5_0⟩

set_option maxRecDepth 100000 in
set_option maxHeartbeats 4000000 in
theorem p_carrier {g : mh_G} {d : Nat} (hd : 9 ≤ d) {h : Nat → Int → Int} (hF : mh_FX h) {s : Int → Int} (r82 : h 82 = s) {er : Int → Int} (r85 : h 85 = er) {c p k : Int} (hc : -2147483648 ≤ c ∧ c < 2147483648) (hp : -2147483648 ≤ p ∧ p < 2147483648) (hk : -2147483648 ≤ k ∧ k < 2147483648) (hi : sp_inv s) : mh_M g d yX12_carrier cX12_carrier 5 (some .int) 96 0 0 [.ref 81, .int (Int32.ofInt (c)), .int (Int32.ofInt (p)), .int (Int32.ofInt (k))] h (fun r h2 => ∃ (vv : Int) (tt ee : Int → Int), (vv, tt, ee) = sp_carrier c p k s er ∧ r = some (.int (Int32.ofInt vv)) ∧ mh_FX h2 ∧ mh_fr [82, 85, 86, 87] h h2 ∧ h2 82 = tt ∧ h2 85 = ee) := by
  refine mh_M_of RX12 rfl (by decide +kernel) [some (.ref 81), some (.int (Int32.ofInt (c))), some (.int (Int32.ofInt (p))), some (.int (Int32.ofInt (k))), none] rfl (Nat.le_of_ble_eq_true rfl) (fun f F Z hn0 hR => ?_)
  have hib := sp_inv_b hi
  have hm := hi.1
  have hq0 := hi.2.1
  have hws := hi.2.2.2.2.2
  obtain ⟨hH, hC⟩ := hi.2.2.2.1
  have hs1 := hi.2.2.1
  refine mh_iload1 (pc := 0) F dX12_carrier_0 ?_
  refine mh_callSp (pc := 1) (As := [.int (Int32.ofInt (c))]) (st := []) F (by omega) (k_isCarrier (by omega) (by omega)) ws_RX12_125 dX12_carrier_1 rfl rfl (Nat.le_of_ble_eq_true rfl) ⟨Nat.zero_le _, Nat.zero_le _⟩ ?_
  refine mh_ifb_eq (pc := 4) (tgt := 31) F dX12_carrier_4 rfl (fun c_4 => ?_) (fun c_4 => ?_)
  · refine mh_aload0 (pc := 31) F dX12_carrier_31 ?_
    refine mh_iconst (pc := 32) F dX12_carrier_32 ?_
    refine mh_callV0 (pc := 33) (As := [.int (Int32.ofInt (1))]) (st := []) F (by omega) (k_error (by omega) hF r85 (by omega)) wv_RX12_114_yX12_error dX12_carrier_33 sh_81 rfl (by decide) rfl rfl (Nat.le_of_ble_eq_true rfl) ⟨Nat.zero_le _, Nat.zero_le _⟩ (fun r1 h1 q1 => ?_)
    obtain ⟨rfl, F1, fr1, q1_0⟩ := q1
    have r82_2 : h1 82 = s := (fr1 _ (by decide)).trans r82
    have fr2 : mh_fr [85] h h1 := (mh_fr.tr mh_fr.rf fr1).mono (by simp)
    exact mh_ireturn F Z dX12_carrier_36 ⟨_, _, _, (by unfold sp_carrier; (repeat' split) <;> first | rfl | (exfalso; omega)), rfl, F1, (fr2.mono (by simp)), r82_2, q1_0⟩
  · refine mh_iload2 (pc := 7) F dX12_carrier_7 ?_
    refine mh_i2l (pc := 8) F dX12_carrier_8 (by omega) ?_
    refine mh_lconst (x := 1) (pc := 9) F dX12_carrier_9 rfl ?_
    refine mh_ldc2 (x := 9) (pc := 10) F dX12_carrier_10 tw_6_33 ?_
    refine mh_callSp (pc := 13) (As := [.long (Int64.ofInt (p)), .long (Int64.ofInt (1)), .long (Int64.ofInt (9))]) (st := []) F (by omega) (k_in (by omega) (by omega) (by omega) (by omega)) ws_RX12_69 dX12_carrier_13 rfl rfl (Nat.le_of_ble_eq_true rfl) ⟨Nat.zero_le _, Nat.zero_le _⟩ ?_
    refine mh_ifb_eq (pc := 16) (tgt := 31) F dX12_carrier_16 rfl (fun c_16 => ?_) (fun c_16 => ?_)
    · refine mh_aload0 (pc := 31) F dX12_carrier_31 ?_
      refine mh_iconst (pc := 32) F dX12_carrier_32 ?_
      refine mh_callV0 (pc := 33) (As := [.int (Int32.ofInt (1))]) (st := []) F (by omega) (k_error (by omega) hF r85 (by omega)) wv_RX12_114_yX12_error dX12_carrier_33 sh_81 rfl (by decide) rfl rfl (Nat.le_of_ble_eq_true rfl) ⟨Nat.zero_le _, Nat.zero_le _⟩ (fun r3 h3 q3 => ?_)
      obtain ⟨rfl, F3, fr3, q3_0⟩ := q3
      have r82_4 : h3 82 = s := (fr3 _ (by decide)).trans r82
      have fr4 : mh_fr [85] h h3 := (mh_fr.tr mh_fr.rf fr3).mono (by simp)
      exact mh_ireturn F Z dX12_carrier_36 ⟨_, _, _, (by unfold sp_carrier; (repeat' split) <;> first | rfl | (exfalso; omega)), rfl, F3, (fr4.mono (by simp)), r82_4, q3_0⟩
    · refine mh_iload3 (pc := 19) F dX12_carrier_19 ?_
      refine mh_i2l (pc := 20) F dX12_carrier_20 (by omega) ?_
      refine mh_lconst (x := 0) (pc := 21) F dX12_carrier_21 rfl ?_
      refine mh_ldc2 (x := 20) (pc := 22) F dX12_carrier_22 tw_6_34 ?_
      refine mh_callSp (pc := 25) (As := [.long (Int64.ofInt (k)), .long (Int64.ofInt (0)), .long (Int64.ofInt (20))]) (st := []) F (by omega) (k_in (by omega) (by omega) (by omega) (by omega)) ws_RX12_69 dX12_carrier_25 rfl rfl (Nat.le_of_ble_eq_true rfl) ⟨Nat.zero_le _, Nat.zero_le _⟩ ?_
      refine mh_ifb_ne (pc := 28) (tgt := 37) F dX12_carrier_28 rfl (fun c_28 => ?_) (fun c_28 => ?_)
      · refine mh_aload0 (pc := 37) F dX12_carrier_37 ?_
        refine mh_iload1 (pc := 38) F dX12_carrier_38 ?_
        refine mh_callVp (pc := 39) (As := [.int (Int32.ofInt (c))]) (st := []) F (by omega) (k_pace (by omega) hF r82 (by omega)) wv_RX12_132_yX12_pace dX12_carrier_39 sh_81 rfl (by decide) rfl rfl (Nat.le_of_ble_eq_true rfl) ⟨Nat.zero_le _, Nat.zero_le _⟩ ?_
        refine mh_istore4 (pc := 42) F dX12_carrier_42 rfl (by decide) ?_
        refine mh_aload0 (pc := 44) F dX12_carrier_44 ?_
        refine mh_getr (b := 82) (pc := 45) F sh_81 (by decide) fw_RX12_9_12 dX12_carrier_45 rfl (fx_81_0 hF) ?_
        refine mh_bipush (pc := 48) F dX12_carrier_48 rfl ?_
        refine mh_iconst (pc := 50) F dX12_carrier_50 ?_
        refine mh_iload1 (pc := 51) F dX12_carrier_51 ?_
        refine mh_imul (pc := 52) F dX12_carrier_52 ?_
        refine mh_iadd (pc := 53) F dX12_carrier_53 ?_
        refine mh_iload2 (pc := 54) F dX12_carrier_54 ?_
        refine mh_iastore (pc := 55) F sh_82 (by decide) (by omega) dX12_carrier_55 ?_
        refine mh_nmh (fun h5 e5 => ?_)
        have F5 : mh_FX h5 := by rw [e5]; exact hF.upa rfl
        have r82_5 : h5 82 = mh_ur s (33 + (2 * c)) p := by rw [e5, mh_up_rs, r82]
        have r85_5 : h5 85 = er := by rw [e5, mh_up_row (by decide)]; exact r85
        have fr5 : mh_fr [82] h h5 := mh_fr.up mh_fr.rf e5
        refine mh_aload0 (pc := 56) F dX12_carrier_56 ?_
        refine mh_getr (b := 82) (pc := 57) F sh_81 (by decide) fw_RX12_9_12 dX12_carrier_57 rfl (fx_81_0 F5) ?_
        refine mh_bipush (pc := 60) F dX12_carrier_60 rfl ?_
        refine mh_iconst (pc := 62) F dX12_carrier_62 ?_
        refine mh_iload1 (pc := 63) F dX12_carrier_63 ?_
        refine mh_imul (pc := 64) F dX12_carrier_64 ?_
        refine mh_iadd (pc := 65) F dX12_carrier_65 ?_
        refine mh_iconst (pc := 66) F dX12_carrier_66 ?_
        refine mh_iadd (pc := 67) F dX12_carrier_67 ?_
        refine mh_iload3 (pc := 68) F dX12_carrier_68 ?_
        refine mh_iastore (pc := 69) F sh_82 (by decide) (by omega) dX12_carrier_69 ?_
        refine mh_nmh (fun h6 e6 => ?_)
        have F6 : mh_FX h6 := by rw [e6]; exact F5.upa rfl
        have r82_6 : h6 82 = mh_ur (mh_ur s (33 + (2 * c)) p) ((33 + (2 * c)) + 1) k := by rw [e6, mh_up_rs, r82_5]
        have r85_6 : h6 85 = er := by rw [e6, mh_up_row (by decide)]; exact r85_5
        have fr6 : mh_fr [82] h h6 := mh_fr.upi fr5 e6 (by simp)
        refine mh_bipush (pc := 70) F dX12_carrier_70 rfl ?_
        refine mh_iload4 (pc := 72) F dX12_carrier_72 ?_
        refine mh_imul (pc := 74) F dX12_carrier_74 ?_
        exact mh_ireturn F Z dX12_carrier_75 ⟨_, _, _, (by unfold sp_carrier; (repeat' split) <;> first | rfl | (exfalso; omega)), rfl, F6, (fr6.mono (by simp)), r82_6, r85_6⟩
      · refine mh_aload0 (pc := 31) F dX12_carrier_31 ?_
        refine mh_iconst (pc := 32) F dX12_carrier_32 ?_
        refine mh_callV0 (pc := 33) (As := [.int (Int32.ofInt (1))]) (st := []) F (by omega) (k_error (by omega) hF r85 (by omega)) wv_RX12_114_yX12_error dX12_carrier_33 sh_81 rfl (by decide) rfl rfl (Nat.le_of_ble_eq_true rfl) ⟨Nat.zero_le _, Nat.zero_le _⟩ (fun r7 h7 q7 => ?_)
        obtain ⟨rfl, F7, fr7, q7_0⟩ := q7
        have r82_8 : h7 82 = s := (fr7 _ (by decide)).trans r82
        have fr8 : mh_fr [85] h h7 := (mh_fr.tr mh_fr.rf fr7).mono (by simp)
        exact mh_ireturn F Z dX12_carrier_36 ⟨_, _, _, (by unfold sp_carrier; (repeat' split) <;> first | rfl | (exfalso; omega)), rfl, F7, (fr8.mono (by simp)), r82_8, q7_0⟩

