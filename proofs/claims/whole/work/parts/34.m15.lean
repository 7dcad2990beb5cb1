def sp_o5 (o : Int → Int) (κ n m : Int) : Int → Int := mh_ur (mh_ur (mh_ur (mh_ur o 22 0) 23 κ) 24 n) 25 m
def sp_voice (k a x : Int) (s er o v : Int → Int) : Int × (Int → Int) × (Int → Int) × (Int → Int) :=
  if ¬ ((0 ≤ k ∧ k ≤ s 3 - 1) ∧ (0 ≤ a ∧ a ≤ 3)) then (-1000000001, mh_ur er 1 (er 1 + 1), o, v)
  else if a = 0 then (sp_fi (s (41 + 9 * k + 0)) k x, er, (sp_rns (tr_fi (s (41 + 9 * k + 0))) (sp_o5 o (s (41 + 9 * k + 0)) k (s (41 + 9 * k + 1)), v)).1, (sp_rns (tr_fi (s (41 + 9 * k + 0))) (sp_o5 o (s (41 + 9 * k + 0)) k (s (41 + 9 * k + 1)), v)).2)
  else if a = 1 then (sp_sh (s (41 + 9 * k + 0)) k (s (41 + 9 * k + 1)) x, er, (sp_rns (tr_sh (s (41 + 9 * k + 0))) (sp_o5 o (s (41 + 9 * k + 0)) k (s (41 + 9 * k + 1)), v)).1, (sp_rns (tr_sh (s (41 + 9 * k + 0))) (sp_o5 o (s (41 + 9 * k + 0)) k (s (41 + 9 * k + 1)), v)).2)
  else if a = 2 then (sp_co (s (41 + 9 * k + 0)) k (s (41 + 9 * k + 1)) x, er, (sp_rns (tr_co (s (41 + 9 * k + 0))) (sp_o5 o (s (41 + 9 * k + 0)) k (s (41 + 9 * k + 1)), v)).1, (sp_rns (tr_co (s (41 + 9 * k + 0))) (sp_o5 o (s (41 + 9 * k + 0)) k (s (41 + 9 * k + 1)), v)).2)
  else (sp_te (s (41 + 9 * k + 0)) k (s (41 + 9 * k + 1)) x, er, (sp_rns (tr_te (s (41 + 9 * k + 0))) (sp_o5 o (s (41 + 9 * k + 0)) k (s (41 + 9 * k + 1)), v)).1, (sp_rns (tr_te (s (41 + 9 * k + 0))) (sp_o5 o (s (41 + 9 * k + 0)) k (s (41 + 9 * k + 1)), v)).2)
def sp_trace (i : Int) (er o v : Int → Int) : Int × (Int → Int) := if ¬ (0 ≤ i ∧ i ≤ o 22 - 1) then (-1000000002, mh_ur er 2 (er 2 + 1)) else (v i, er)
set_option maxRecDepth 100000 in
set_option maxHeartbeats 4000000 in
theorem p_voice {g : mh_G} {d : Nat} (hd : 10 ≤ d) {h : Nat → Int → Int} (hF : mh_FX h) {s : Int → Int} (r82 : h 82 = s) {er : Int → Int} (r85 : h 85 = er) {o : Int → Int} (r81 : h 81 = o) {v : Int → Int} (r91 : h 91 = v) {k a x : Int} (hk : -2147483648 ≤ k ∧ k < 2147483648) (ha : -2147483648 ≤ a ∧ a < 2147483648) (hx : -2147483648 ≤ x ∧ x < 2147483648) (hi : sp_inv s) : mh_M g d yX12_voice cX12_voice 4 (some .int) 96 0 0 [.ref 81, .int (Int32.ofInt (k)), .int (Int32.ofInt (a)), .int (Int32.ofInt (x))] h (fun r h2 => ∃ (vv : Int) (t0 : Int → Int) (t1 : Int → Int) (t2 : Int → Int), (vv, t0, t1, t2) = sp_voice k a x s er o v ∧ r = some (.int (Int32.ofInt vv)) ∧ mh_FX h2 ∧ mh_fr [81, 85, 91] h h2 ∧ h2 85 = t0 ∧ h2 81 = t1 ∧ h2 91 = t2) := by
  refine mh_M_of RX12 rfl (by decide +kernel) [some (.ref 81), some (.int (Int32.ofInt (k))), some (.int (Int32.ofInt (a))), some (.int (Int32.ofInt (x)))] rfl (Nat.le_of_ble_eq_true rfl) (fun f F Z hn0 hR => ?_)
  have hib := sp_inv_b hi
  have hm := hi.1
  have hq0 := hi.2.1
  have hws := hi.2.2.2.2.2
  obtain ⟨hH, hC⟩ := hi.2.2.2.1
  have hs1 := hi.2.2.1
  refine mh_aload0 (pc := 0) F dX12_voice_0 ?_
  refine mh_iload1 (pc := 1) F dX12_voice_1 ?_
  refine mh_callVp (pc := 2) (As := [.int (Int32.ofInt (k))]) (st := []) F (by omega) (k_isChurn (by omega) hF r82 (by omega) (by omega)) wv_RX12_148_yX12_isChurn dX12_voice_2 sh_81 rfl (by decide) rfl rfl (Nat.le_of_ble_eq_true rfl) ⟨Nat.zero_le _, Nat.zero_le _⟩ ?_
  refine mh_ifb_eq (pc := 5) (tgt := 20) F dX12_voice_5 rfl (fun c_5 => ?_) (fun c_5 => ?_)
  · refine mh_aload0 (pc := 20) F dX12_voice_20 ?_
    refine mh_iconst (pc := 21) F dX12_voice_21 ?_
    refine mh_callV0 (pc := 22) (As := [.int (Int32.ofInt (1))]) (st := []) F (by omega) (k_error (by omega) hF r85 (by omega)) wv_RX12_114_yX12_error dX12_voice_22 sh_81 rfl (by decide) rfl rfl (Nat.le_of_ble_eq_true rfl) ⟨Nat.zero_le _, Nat.zero_le _⟩ (fun r1 h1 q1 => ?_)
    obtain ⟨rfl, F1, fr1, q1_0⟩ := q1
    have r82_2 : h1 82 = s := (fr1 _ (by decide)).trans r82
    have r81_2 : h1 81 = o := (fr1 _ (by decide)).trans r81
    have r91_2 : h1 91 = v := (fr1 _ (by decide)).trans r91
    have fr2 : mh_fr [85] h h1 := (mh_fr.tr mh_fr.rf fr1).mono (by simp)
    exact mh_ireturn F Z dX12_voice_25 ⟨_, _, _, _, (by unfold sp_voice; (repeat' split) <;> first | rfl | (exfalso; omega) | (rw [eo6]; done)), rfl, F1, (fr2.mono (by simp)), q1_0, r81_2, r91_2⟩
  · refine mh_iload2 (pc := 8) F dX12_voice_8 ?_
    refine mh_i2l (pc := 9) F dX12_voice_9 (by omega) ?_
    refine mh_lconst (x := 0) (pc := 10) F dX12_voice_10 rfl ?_
    refine mh_ldc2 (x := 3) (pc := 11) F dX12_voice_11 tw_6_39 ?_
    refine mh_callSp (pc := 14) (As := [.long (Int64.ofInt (a)), .long (Int64.ofInt (0)), .long (Int64.ofInt (3))]) (st := []) F (by omega) (k_in (by omega) (by omega) (by omega) (by omega)) ws_RX12_69 dX12_voice_14 rfl rfl (Nat.le_of_ble_eq_true rfl) ⟨Nat.zero_le _, Nat.zero_le _⟩ ?_
    refine mh_ifb_ne (pc := 17) (tgt := 26) F dX12_voice_17 rfl (fun c_17 => ?_) (fun c_17 => ?_)
    · have zHC := hi.2.2.2.2.1 k (by omega) (by omega)
      have zHC2 := zHC
      obtain ⟨c0, c1, c2, c3, c4, c5, c6, c7, c8, c9, c10, c11, c12, c13⟩ := zHC2
      unfold sp_row at c0 c1 c2 c3 c4 c5 c6 c7 c8 c9 c10 c11 c12 c13
      refine mh_aload0 (pc := 26) F dX12_voice_26 ?_
      refine mh_iconst (pc := 27) F dX12_voice_27 ?_
      refine mh_puti (pc := 28) F sh_81 (by decide) pw_RX12_345_12 dX12_voice_28 ?_
      refine mh_nmh (fun h3 e3 => ?_)
      have F3 : mh_FX h3 := by rw [e3]; exact hF.upz rfl
      have r82_3 : h3 82 = s := by rw [e3, mh_up_row (by decide)]; exact r82
      have r85_3 : h3 85 = er := by rw [e3, mh_up_row (by decide)]; exact r85
      have r81_3 : h3 81 = mh_ur o 22 0 := by rw [e3, mh_up_rs, r81]
      have r91_3 : h3 91 = v := by rw [e3, mh_up_row (by decide)]; exact r91
      have fr3 : mh_fr [81] h h3 := mh_fr.up mh_fr.rf e3
      refine mh_aload0 (pc := 31) F dX12_voice_31 ?_
      refine mh_aload0 (pc := 32) F dX12_voice_32 ?_
      refine mh_iload1 (pc := 33) F dX12_voice_33 ?_
      refine mh_iconst (pc := 34) F dX12_voice_34 ?_
      refine mh_callVp (pc := 35) (As := [.int (Int32.ofInt (k)), .int (Int32.ofInt (0))]) (st := [.ref 81]) F (by omega) (k_its (by omega) F3 r82_3 (by omega) (by omega)) wv_RX12_79_yX12_its dX12_voice_35 sh_81 rfl (by decide) rfl rfl (Nat.le_of_ble_eq_true rfl) ⟨Nat.zero_le _, Nat.zero_le _⟩ ?_
      refine mh_puti (pc := 38) F sh_81 (by decide) pw_RX12_348_12 dX12_voice_38 ?_
      refine mh_nmh (fun h4 e4 => ?_)
      have F4 : mh_FX h4 := by rw [e4]; exact F3.upz rfl
      have r82_4 : h4 82 = s := by rw [e4, mh_up_row (by decide)]; exact r82_3
      have r85_4 : h4 85 = er := by rw [e4, mh_up_row (by decide)]; exact r85_3
      have r81_4 : h4 81 = mh_ur (mh_ur o 22 0) 23 (s (41 + 9 * k + 0)) := by rw [e4, mh_up_rs, r81_3]
      have r91_4 : h4 91 = v := by rw [e4, mh_up_row (by decide)]; exact r91_3
      have fr4 : mh_fr [81] h h4 := mh_fr.upi fr3 e4 (by simp)
      refine mh_aload0 (pc := 41) F dX12_voice_41 ?_
      refine mh_iload1 (pc := 42) F dX12_voice_42 ?_
      refine mh_puti (pc := 43) F sh_81 (by decide) pw_RX12_354_12 dX12_voice_43 ?_
      refine mh_nmh (fun h5 e5 => ?_)
      have F5 : mh_FX h5 := by rw [e5]; exact F4.upz rfl
      have r82_5 : h5 82 = s := by rw [e5, mh_up_row (by decide)]; exact r82_4
      have r85_5 : h5 85 = er := by rw [e5, mh_up_row (by decide)]; exact r85_4
      have r81_5 : h5 81 = mh_ur (mh_ur (mh_ur o 22 0) 23 (s (41 + 9 * k + 0))) 24 k := by rw [e5, mh_up_rs, r81_4]
      have r91_5 : h5 91 = v := by rw [e5, mh_up_row (by decide)]; exact r91_4
      have fr5 : mh_fr [81] h h5 := mh_fr.upi fr4 e5 (by simp)
      refine mh_aload0 (pc := 46) F dX12_voice_46 ?_
      refine mh_aload0 (pc := 47) F dX12_voice_47 ?_
      refine mh_iload1 (pc := 48) F dX12_voice_48 ?_
      refine mh_iconst (pc := 49) F dX12_voice_49 ?_
      refine mh_callVp (pc := 50) (As := [.int (Int32.ofInt (k)), .int (Int32.ofInt (1))]) (st := [.ref 81]) F (by omega) (k_its (by omega) F5 r82_5 (by omega) (by omega)) wv_RX12_79_yX12_its dX12_voice_50 sh_81 rfl (by decide) rfl rfl (Nat.le_of_ble_eq_true rfl) ⟨Nat.zero_le _, Nat.zero_le _⟩ ?_
      refine mh_puti (pc := 53) F sh_81 (by decide) pw_RX12_369_12 dX12_voice_53 ?_
      refine mh_nmh (fun h6 e6 => ?_)
      have F6 : mh_FX h6 := by rw [e6]; exact F5.upz rfl
      have r82_6 : h6 82 = s := by rw [e6, mh_up_row (by decide)]; exact r82_5
      have r85_6 : h6 85 = er := by rw [e6, mh_up_row (by decide)]; exact r85_5
      have r81_6 : h6 81 = mh_ur (mh_ur (mh_ur (mh_ur o 22 0) 23 (s (41 + 9 * k + 0))) 24 k) 25 (s (41 + 9 * k + 1)) := by rw [e6, mh_up_rs, r81_5]
      have r91_6 : h6 91 = v := by rw [e6, mh_up_row (by decide)]; exact r91_5
      have fr6 : mh_fr [81] h h6 := mh_fr.upi fr5 e6 (by simp)
      obtain ⟨o5, eo5⟩ : ∃ z : Int → Int, z = mh_ur (mh_ur (mh_ur (mh_ur o 22 0) 23 (s (41 + 9 * k + 0))) 24 k) 25 (s (41 + 9 * k + 1)) := ⟨_, rfl⟩
      rw [← eo5] at r81_6
      have eo6 : o5 = sp_o5 o (s (41 + 9 * k + 0)) k (s (41 + 9 * k + 1)) := eo5
      have e22 : 0 ≤ o5 22 ∧ o5 22 ≤ 40 := by rw [eo5, mh_ur_ne (by decide), mh_ur_ne (by decide), mh_ur_ne (by decide), mh_ur_eq rfl]; decide
      have e23 : o5 23 = s (41 + 9 * k + 0) := by rw [eo5, mh_ur_ne (by decide), mh_ur_ne (by decide), mh_ur_eq rfl]
      have e24 : o5 24 = k := by rw [eo5, mh_ur_ne (by decide), mh_ur_eq rfl]
      have e25 : o5 25 = s (41 + 9 * k + 1) := by rw [eo5, mh_ur_eq rfl]
      have hκ := c0
      refine mh_iload2 (pc := 56) F dX12_voice_56 ?_
      refine mh_if_ne (pc := 57) (tgt := 68) F dX12_voice_57 rfl (by omega) (fun c_57 => ?_) (fun c_57 => ?_)
      · refine mh_iload2 (pc := 68) F dX12_voice_68 ?_
        refine mh_iconst (pc := 69) F dX12_voice_69 ?_
        refine mh_icmp_ne (pc := 70) (tgt := 81) F dX12_voice_70 rfl (by omega) (by omega) (fun c_70 => ?_) (fun c_70 => ?_)
        · refine mh_iload2 (pc := 81) F dX12_voice_81 ?_
          refine mh_iconst (pc := 82) F dX12_voice_82 ?_
          refine mh_icmp_ne (pc := 83) (tgt := 94) F dX12_voice_83 rfl (by omega) (by omega) (fun c_83 => ?_) (fun c_83 => ?_)
          · refine mh_aload0 (pc := 94) F dX12_voice_94 ?_
            refine mh_iload3 (pc := 95) F dX12_voice_95 ?_
            refine mh_callV0 (pc := 96) (As := [.int (Int32.ofInt (x))]) (st := []) F (by omega) (k_tells (by omega) F6 r81_6 r91_6 e22 e23 e24 e25 hκ) wv_RX12_384_yX12_tells dX12_voice_96 sh_81 rfl (by decide) rfl rfl (Nat.le_of_ble_eq_true rfl) ⟨Nat.zero_le _, Nat.zero_le _⟩ (fun r7 h7 q7 => ?_)
            obtain ⟨rfl, F7, fr7, q7_0, q7_1⟩ := q7
            have r82_8 : h7 82 = s := (fr7 _ (by decide)).trans r82_6
            have r85_8 : h7 85 = er := (fr7 _ (by decide)).trans r85_6
            have fr8 : mh_fr [91, 81] h h7 := (mh_fr.tr fr6 fr7).mono (by simp)
            exact mh_ireturn F Z dX12_voice_99 ⟨_, _, _, _, (by unfold sp_voice; (repeat' split) <;> first | rfl | (exfalso; omega) | (rw [eo6]; done)), rfl, F7, (fr8.mono (by simp)), r85_8, q7_0, q7_1⟩
          · refine mh_aload0 (pc := 86) F dX12_voice_86 ?_
            refine mh_iload3 (pc := 87) F dX12_voice_87 ?_
            refine mh_callV0 (pc := 88) (As := [.int (Int32.ofInt (x))]) (st := []) F (by omega) (k_cools (by omega) F6 r81_6 r91_6 e22 e23 e24 e25 hκ) wv_RX12_363_yX12_cools dX12_voice_88 sh_81 rfl (by decide) rfl rfl (Nat.le_of_ble_eq_true rfl) ⟨Nat.zero_le _, Nat.zero_le _⟩ (fun r9 h9 q9 => ?_)
            obtain ⟨rfl, F9, fr9, q9_0, q9_1⟩ := q9
            have r82_10 : h9 82 = s := (fr9 _ (by decide)).trans r82_6
            have r85_10 : h9 85 = er := (fr9 _ (by decide)).trans r85_6
            have fr10 : mh_fr [91, 81] h h9 := (mh_fr.tr fr6 fr9).mono (by simp)
            refine mh_goto (pc := 91) (tgt := 99) F dX12_voice_91 rfl ?_
            exact mh_ireturn F Z dX12_voice_99 ⟨_, _, _, _, (by unfold sp_voice; (repeat' split) <;> first | rfl | (exfalso; omega) | (rw [eo6]; done)), rfl, F9, (fr10.mono (by simp)), r85_10, q9_0, q9_1⟩
        · refine mh_aload0 (pc := 73) F dX12_voice_73 ?_
          refine mh_iload3 (pc := 74) F dX12_voice_74 ?_
          refine mh_callV0 (pc := 75) (As := [.int (Int32.ofInt (x))]) (st := []) F (by omega) (k_shakes (by omega) F6 r81_6 r91_6 e22 e23 e24 e25 hκ) wv_RX12_378_yX12_shakes dX12_voice_75 sh_81 rfl (by decide) rfl rfl (Nat.le_of_ble_eq_true rfl) ⟨Nat.zero_le _, Nat.zero_le _⟩ (fun r11 h11 q11 => ?_)
          obtain ⟨rfl, F11, fr11, q11_0, q11_1⟩ := q11
          have r82_12 : h11 82 = s := (fr11 _ (by decide)).trans r82_6
          have r85_12 : h11 85 = er := (fr11 _ (by decide)).trans r85_6
          have fr12 : mh_fr [91, 81] h h11 := (mh_fr.tr fr6 fr11).mono (by simp)
          refine mh_goto (pc := 78) (tgt := 99) F dX12_voice_78 rfl ?_
          exact mh_ireturn F Z dX12_voice_99 ⟨_, _, _, _, (by unfold sp_voice; (repeat' split) <;> first | rfl | (exfalso; omega) | (rw [eo6]; done)), rfl, F11, (fr12.mono (by simp)), r85_12, q11_0, q11_1⟩
      · refine mh_aload0 (pc := 60) F dX12_voice_60 ?_
        refine mh_iload3 (pc := 61) F dX12_voice_61 ?_
        refine mh_callV0 (pc := 62) (As := [.int (Int32.ofInt (x))]) (st := []) F (by omega) (k_fills (by omega) F6 r81_6 r91_6 e22 e23 e24 e25 hκ) wv_RX12_357_yX12_fills dX12_voice_62 sh_81 rfl (by decide) rfl rfl (Nat.le_of_ble_eq_true rfl) ⟨Nat.zero_le _, Nat.zero_le _⟩ (fun r13 h13 q13 => ?_)
        obtain ⟨rfl, F13, fr13, q13_0, q13_1⟩ := q13
        have r82_14 : h13 82 = s := (fr13 _ (by decide)).trans r82_6
        have r85_14 : h13 85 = er := (fr13 _ (by decide)).trans r85_6
        have fr14 : mh_fr [91, 81] h h13 := (mh_fr.tr fr6 fr13).mono (by simp)
        refine mh_goto (pc := 65) (tgt := 99) F dX12_voice_65 rfl ?_
        exact mh_ireturn F Z dX12_voice_99 ⟨_, _, _, _, (by unfold sp_voice; (repeat' split) <;> first | rfl | (exfalso; omega) | (rw [eo6]; done)), rfl, F13, (fr14.mono (by simp)), r85_14, q13_0, q13_1⟩
    · refine mh_aload0 (pc := 20) F dX12_voice_20 ?_
      refine mh_iconst (pc := 21) F dX12_voice_21 ?_
      refine mh_callV0 (pc := 22) (As := [.int (Int32.ofInt (1))]) (st := []) F (by omega) (k_error (by omega) hF r85 (by omega)) wv_RX12_114_yX12_error dX12_voice_22 sh_81 rfl (by decide) rfl rfl (Nat.le_of_ble_eq_true rfl) ⟨Nat.zero_le _, Nat.zero_le _⟩ (fun r15 h15 q15 => ?_)
      obtain ⟨rfl, F15, fr15, q15_0⟩ := q15
      have r82_16 : h15 82 = s := (fr15 _ (by decide)).trans r82
      have r81_16 : h15 81 = o := (fr15 _ (by decide)).trans r81
      have r91_16 : h15 91 = v := (fr15 _ (by decide)).trans r91
      have fr16 : mh_fr [85] h h15 := (mh_fr.tr mh_fr.rf fr15).mono (by simp)
      exact mh_ireturn F Z dX12_voice_25 ⟨_, _, _, _, (by unfold sp_voice; (repeat' split) <;> first | rfl | (exfalso; omega) | (rw [eo6]; done)), rfl, F15, (fr16.mono (by simp)), q15_0, r81_16, r91_16⟩

set_option maxRecDepth 100000 in
set_option maxHeartbeats 4000000 in
theorem p_trace {g : mh_G} {d : Nat} (hd : 10 ≤ d) {h : Nat → Int → Int} (hF : mh_FX h) {er : Int → Int} (r85 : h 85 = er) {o : Int → Int} (r81 : h 81 = o) {v : Int → Int} (r91 : h 91 = v) {i : Int} (hi : -2147483648 ≤ i ∧ i < 2147483648) (e22 : 0 ≤ o 22 ∧ o 22 ≤ 40) : mh_M g d yX12_trace cX12_trace 2 (some .int) 96 0 0 [.ref 81, .int (Int32.ofInt (i))] h (fun r h2 => ∃ (vv : Int) (t0 : Int → Int), (vv, t0) = sp_trace i er o v ∧ r = some (.int (Int32.ofInt vv)) ∧ mh_FX h2 ∧ mh_fr [85] h h2 ∧ h2 85 = t0) := by
  refine mh_M_of RX12 rfl (by decide +kernel) [some (.ref 81), some (.int (Int32.ofInt (i)))] rfl (Nat.le_of_ble_eq_true rfl) (fun f F Z hn0 hR => ?_)
  refine mh_iload1 (pc := 0) F dX12_trace_0 ?_
  refine mh_i2l (pc := 1) F dX12_trace_1 (by omega) ?_
  refine mh_lconst (x := 0) (pc := 2) F dX12_trace_2 rfl ?_
  refine mh_aload0 (pc := 3) F dX12_trace_3 ?_
  refine mh_getir (pc := 4) F sh_81 (by decide) fw_RX12_345_12 dX12_trace_4 rfl r81 ?_
  refine mh_iconst (pc := 7) F dX12_trace_7 ?_
  refine mh_isub (pc := 8) F dX12_trace_8 ?_
  refine mh_i2l (pc := 9) F dX12_trace_9 (by omega) ?_
  refine mh_callSp (pc := 10) (As := [.long (Int64.ofInt (i)), .long (Int64.ofInt (0)), .long (Int64.ofInt ((o 22) - 1))]) (st := []) F (by omega) (k_in (by omega) (by omega) (by omega) (by omega)) ws_RX12_69 dX12_trace_10 rfl rfl (Nat.le_of_ble_eq_true rfl) ⟨Nat.zero_le _, Nat.zero_le _⟩ ?_
  refine mh_ifb_eq (pc := 13) (tgt := 25) F dX12_trace_13 rfl (fun c_13 => ?_) (fun c_13 => ?_)
  · refine mh_aload0 (pc := 25) F dX12_trace_25 ?_
    refine mh_iconst (pc := 26) F dX12_trace_26 ?_
    refine mh_callV0 (pc := 27) (As := [.int (Int32.ofInt (2))]) (st := []) F (by omega) (k_error (by omega) hF r85 (by omega)) wv_RX12_114_yX12_error dX12_trace_27 sh_81 rfl (by decide) rfl rfl (Nat.le_of_ble_eq_true rfl) ⟨Nat.zero_le _, Nat.zero_le _⟩ (fun r1 h1 q1 => ?_)
    obtain ⟨rfl, F1, fr1, q1_0⟩ := q1
    have r81_2 : h1 81 = o := (fr1 _ (by decide)).trans r81
    have r91_2 : h1 91 = v := (fr1 _ (by decide)).trans r91
    have fr2 : mh_fr [85] h h1 := (mh_fr.tr mh_fr.rf fr1).mono (by simp)
    exact mh_ireturn F Z dX12_trace_30 ⟨_, _, (by unfold sp_trace; (repeat' split) <;> first | rfl | (exfalso; omega)), rfl, F1, (fr2.mono (by simp)), q1_0⟩
  · refine mh_aload0 (pc := 16) F dX12_trace_16 ?_
    refine mh_getr (b := 91) (pc := 17) F sh_81 (by decide) fw_RX12_38_12 dX12_trace_17 rfl (fx_81_21 hF) ?_
    refine mh_iload1 (pc := 20) F dX12_trace_20 ?_
    refine mh_ialoadr (pc := 21) F sh_91 (by decide) (by omega) dX12_trace_21 r91 ?_
    refine mh_goto (pc := 22) (tgt := 30) F dX12_trace_22 rfl ?_
    exact mh_ireturn F Z dX12_trace_30 ⟨_, _, (by unfold sp_trace; (repeat' split) <;> first | rfl | (exfalso; omega)), rfl, hF, (mh_fr.rf.mono (by simp)), r85⟩

def sp_lacks (k : Int) (b : Int → Int) : Int := if ¬ (0 ≤ k ∧ k ≤ 3) then 1 else if b k = 0 then 2 else 0
def sp_zero (k : Int) (u : Int → Int) : Int → Int := fun i => if 40 * k ≤ i ∧ i < 40 * k + 40 then 0 else u i
def sp_sheet (k w n : Int) (er b z u : Int → Int) : Int × (Int → Int) × (Int → Int) × (Int → Int) × (Int → Int) :=
  if ¬ ((0 ≤ k ∧ k ≤ 3) ∧ (w = 0 ∨ w = 8 ∨ w = 16 ∨ w = 32)) then (-1000000001, mh_ur er 1 (er 1 + 1), b, z, u)
  else if 0 < w ∧ n < 0 then (-1000000003, mh_ur er 3 (er 3 + 1), b, z, u)
  else if 0 < w ∧ 40 < n then (-1000000001, mh_ur er 1 (er 1 + 1), b, z, u)
  else (1, er, mh_ur b k w, mh_ur z k (if w = 0 then 0 else n), sp_zero k u)
def sp_put (k i x : Int) (er b z u : Int → Int) : Int × (Int → Int) × (Int → Int) :=
  if 0 < sp_lacks k b then (-1000000000 - sp_lacks k b, mh_ur er (sp_lacks k b) (er (sp_lacks k b) + 1), u)
  else if ¬ (0 ≤ i ∧ i ≤ z k - 1) then (-1000000001, mh_ur er 1 (er 1 + 1), u)
  else (1, er, mh_ur u (40 * k + i) (if b k = 8 then mh_i8 x else if b k = 16 then mh_i16 x else x))
theorem sp_lacks_rg (k : Int) (b : Int → Int) : 0 ≤ sp_lacks k b ∧ sp_lacks k b ≤ 2 := by unfold sp_lacks; (repeat' split) <;> omega
set_option maxRecDepth 100000 in
set_option maxHeartbeats 4000000 in
theorem p_sheet {g : mh_G} {d : Nat} (hd : 10 ≤ d) {h : Nat → Int → Int} (hF : mh_FX h) {er : Int → Int} (r85 : h 85 = er) {b : Int → Int} (r92 : h 92 = b) {z : Int → Int} (r93 : h 93 = z) {u : Int → Int} (r94 : h 94 = u) {k w n : Int} (hk : -2147483648 ≤ k ∧ k < 2147483648) (hw : -2147483648 ≤ w ∧ w < 2147483648) (hn : -2147483648 ≤ n ∧ n < 2147483648) : mh_M g d yX12_sheet cX12_sheet 6 (some .int) 96 0 0 [.ref 81, .int (Int32.ofInt (k)), .int (Int32.ofInt (w)), .int (Int32.ofInt (n))] h (fun r h2 => ∃ (vv : Int) (t0 : Int → Int) (t1 : Int → Int) (t2 : Int → Int) (t3 : Int → Int), (vv, t0, t1, t2, t3) = sp_sheet k w n er b z u ∧ r = some (.int (Int32.ofInt vv)) ∧ mh_FX h2 ∧ mh_fr [85, 92, 93, 94] h h2 ∧ h2 85 = t0 ∧ h2 92 = t1 ∧ h2 93 = t2 ∧ h2 94 = t3) := by
  refine mh_M_of RX12 rfl (by decide +kernel) [some (.ref 81), some (.int (Int32.ofInt (k))), some (.int (Int32.ofInt (w))), some (.int (Int32.ofInt (n))), none, none] rfl (Nat.le_of_ble_eq_true rfl) (fun f F Z hn0 hR => ?_)
  have J29 : ∀ (jy : Int), ((jy = 1 ∧ (w = 0 ∨ w = 8 ∨ w = 16 ∨ w = 32)) ∨ (jy = 0 ∧ ¬ (w = 0 ∨ w = 8 ∨ w = 16 ∨ w = 32))) → mh_V g f 6 96 0 0 29 [some (.ref 81), some (.int (Int32.ofInt (k))), some (.int (Int32.ofInt (w))), some (.int (Int32.ofInt (n))), some (.int (Int32.ofInt (jy))), none] [] h := by
    intro jy hy4
    refine mh_iload1 (pc := 29) F dX12_sheet_29 ?_
    refine mh_callSp (pc := 30) (As := [.int (Int32.ofInt (k))]) (st := []) F (by omega) (k_isSheet (by omega) (by omega)) ws_RX12_387 dX12_sheet_30 rfl rfl (Nat.le_of_ble_eq_true rfl) ⟨Nat.zero_le _, Nat.zero_le _⟩ ?_
    refine mh_ifb_eq (pc := 33) (tgt := 41) F dX12_sheet_33 rfl (fun c_33 => ?_) (fun c_33 => ?_)
    · refine mh_aload0 (pc := 41) F dX12_sheet_41 ?_
      refine mh_iconst (pc := 42) F dX12_sheet_42 ?_
      refine mh_callV0 (pc := 43) (As := [.int (Int32.ofInt (1))]) (st := []) F (by omega) (k_error (by omega) hF r85 (by omega)) wv_RX12_114_yX12_error dX12_sheet_43 sh_81 rfl (by decide) rfl rfl (Nat.le_of_ble_eq_true rfl) ⟨Nat.zero_le _, Nat.zero_le _⟩ (fun r1 h1 q1 => ?_)
      obtain ⟨rfl, F1, fr1, q1_0⟩ := q1
      have r92_2 : h1 92 = b := (fr1 _ (by decide)).trans r92
      have r93_2 : h1 93 = z := (fr1 _ (by decide)).trans r93
      have r94_2 : h1 94 = u := (fr1 _ (by decide)).trans r94
      have fr2 : mh_fr [85] h h1 := (mh_fr.tr mh_fr.rf fr1).mono (by simp)
      exact mh_ireturn F Z dX12_sheet_46 ⟨_, _, _, _, _, (by unfold sp_sheet; (repeat' split) <;> first | (exfalso; omega) | rfl), rfl, F1, (fr2.mono (by simp)), q1_0, r92_2, r93_2, r94_2⟩
    · refine mh_iload4 (pc := 36) F dX12_sheet_36 ?_
      refine mh_if_ne (pc := 38) (tgt := 47) F dX12_sheet_38 rfl (by omega) (fun c_38 => ?_) (fun c_38 => ?_)
      · refine mh_iload2 (pc := 47) F dX12_sheet_47 ?_
        refine mh_if_le (pc := 48) (tgt := 61) F dX12_sheet_48 rfl (by omega) (fun c_48 => ?_) (fun c_48 => ?_)
        · refine mh_iload2 (pc := 61) F dX12_sheet_61 ?_
          refine mh_if_le (pc := 62) (tgt := 77) F dX12_sheet_62 rfl (by omega) (fun c_62 => ?_) (fun c_62 => ?_)
          · refine mh_aload0 (pc := 77) F dX12_sheet_77 ?_
            refine mh_getr (b := 92) (pc := 78) F sh_81 (by decide) fw_RX12_41_12 dX12_sheet_78 rfl (fx_81_26 hF) ?_
            refine mh_iload1 (pc := 81) F dX12_sheet_81 ?_
            refine mh_iload2 (pc := 82) F dX12_sheet_82 ?_
            refine mh_iastore (pc := 83) F sh_92 (by decide) (by omega) dX12_sheet_83 ?_
            refine mh_nmh (fun h3 e3 => ?_)
            have F3 : mh_FX h3 := by rw [e3]; exact hF.upa rfl
            have r85_3 : h3 85 = er := by rw [e3, mh_up_row (by decide)]; exact r85
            have r92_3 : h3 92 = mh_ur b k w := by rw [e3, mh_up_rs, r92]
            have r93_3 : h3 93 = z := by rw [e3, mh_up_row (by decide)]; exact r93
            have r94_3 : h3 94 = u := by rw [e3, mh_up_row (by decide)]; exact r94
            have fr3 : mh_fr [92] h h3 := mh_fr.up mh_fr.rf e3
            refine mh_aload0 (pc := 84) F dX12_sheet_84 ?_
            refine mh_getr (b := 93) (pc := 85) F sh_81 (by decide) fw_RX12_44_12 dX12_sheet_85 rfl (fx_81_27 F3) ?_
            refine mh_iload1 (pc := 88) F dX12_sheet_88 ?_
            refine mh_iload2 (pc := 89) F dX12_sheet_89 ?_
            refine mh_if_ne (pc := 90) (tgt := 97) F dX12_sheet_90 rfl (by omega) (fun c_90 => ?_) (fun c_90 => ?_)
            · refine mh_iload3 (pc := 97) F dX12_sheet_97 ?_
              refine mh_iastore (pc := 98) F sh_93 (by decide) (by omega) dX12_sheet_98 ?_
              refine mh_nmh (fun h4 e4 => ?_)
              have F4 : mh_FX h4 := by rw [e4]; exact F3.upa rfl
              have r85_4 : h4 85 = er := by rw [e4, mh_up_row (by decide)]; exact r85_3
              have r92_4 : h4 92 = mh_ur b k w := by rw [e4, mh_up_row (by decide)]; exact r92_3
              have r93_4 : h4 93 = mh_ur z k n := by rw [e4, mh_up_rs, r93_3]
              have r94_4 : h4 94 = u := by rw [e4, mh_up_row (by decide)]; exact r94_3
              have fr4 : mh_fr [93, 92] h h4 := mh_fr.up fr3 e4
              refine mh_iconst (pc := 99) F dX12_sheet_99 ?_
              refine mh_istore5 (pc := 100) F dX12_sheet_100 rfl (by decide) ?_
              have L102 : ∀ (m : Nat) (y : Int) (hh : Nat → Int → Int) (t : Int → Int), (mh_FX hh) → (mh_fr [94, 93, 92] h hh) → (hh 85 = er) → (hh 92 = mh_ur b k w) → (hh 93 = mh_ur z k n) → (hh 94 = t) → (0 ≤ y ∧ y ≤ 40) → (t = fun i => if 40 * k ≤ i ∧ i < 40 * k + y then 0 else u i) → (40 - y).toNat = m → mh_V g f 6 96 0 0 102 [some (.ref 81), some (.int (Int32.ofInt (k))), some (.int (Int32.ofInt (w))), some (.int (Int32.ofInt (n))), some (.int (Int32.ofInt (jy))), some (.int (Int32.ofInt (y)))] [] hh := by
                intro m
                induction m using Nat.strongRecOn with
                | _ m ihL102 =>
                intro y hh t Fhh frhh q85hh q92hh q93hh q94hh hy ht hmz
                refine mh_iload5 (pc := 102) F dX12_sheet_102 ?_
                refine mh_bipush (pc := 104) F dX12_sheet_104 rfl ?_
                refine mh_icmp_ge (pc := 106) (tgt := 128) F dX12_sheet_106 rfl (by omega) (by omega) (fun c_106 => ?_) (fun c_106 => ?_)
                · refine mh_iconst (pc := 128) F dX12_sheet_128 ?_
                  exact mh_ireturn F Z dX12_sheet_129 ⟨_, _, _, _, _, (by unfold sp_sheet; (repeat' split) <;> first | (exfalso; omega) | rfl | (rw [ht, show y = 40 by omega]; first | rfl | (rw [if_pos (by omega)]; rfl) | (rw [if_neg (by omega)]; rfl))), rfl, Fhh, (frhh.mono (by simp)), q85hh, q92hh, q93hh, q94hh⟩
                · refine mh_aload0 (pc := 109) F dX12_sheet_109 ?_
                  refine mh_getr (b := 94) (pc := 110) F sh_81 (by decide) fw_RX12_47_12 dX12_sheet_110 rfl (fx_81_28 Fhh) ?_
                  refine mh_bipush (pc := 113) F dX12_sheet_113 rfl ?_
                  refine mh_iload1 (pc := 115) F dX12_sheet_115 ?_
                  refine mh_imul (pc := 116) F dX12_sheet_116 ?_
                  refine mh_iload5 (pc := 117) F dX12_sheet_117 ?_
                  refine mh_iadd (pc := 119) F dX12_sheet_119 ?_
                  refine mh_iconst (pc := 120) F dX12_sheet_120 ?_
                  refine mh_iastore (pc := 121) F sh_94 (by decide) (by omega) dX12_sheet_121 ?_
                  refine mh_nmh (fun h5 e5 => ?_)
                  have F5 : mh_FX h5 := by rw [e5]; exact Fhh.upa rfl
                  have r85_5 : h5 85 = er := by rw [e5, mh_up_row (by decide)]; exact q85hh
                  have r92_5 : h5 92 = mh_ur b k w := by rw [e5, mh_up_row (by decide)]; exact q92hh
                  have r93_5 : h5 93 = mh_ur z k n := by rw [e5, mh_up_row (by decide)]; exact q93hh
                  have r94_5 : h5 94 = mh_ur t ((40 * k) + y) 0 := by rw [e5, mh_up_rs, q94hh]
                  have fr5 : mh_fr [94, 93, 92] h h5 := mh_fr.upi frhh e5 (by simp)
                  refine mh_iinc5 (pc := 122) F dX12_sheet_122 rfl (by decide) ?_
                  refine mh_goto (pc := 125) (tgt := 102) F dX12_sheet_125 rfl ?_
                  exact ihL102 _ (by omega) (y + 1) h5 (mh_ur t ((40 * k) + y) 0) F5 (fr5.mono (by simp)) r85_5 r92_5 r93_5 r94_5 (by omega) (by rw [ht]; funext i; simp only [mh_ur]; (repeat' split) <;> first | rfl | (exfalso; omega)) rfl
              exact L102 _ 0 h4 u F4 (fr4.mono (by simp)) r85_4 r92_4 r93_4 r94_4 (by omega) (by funext i; rw [if_neg (by omega)]) rfl
            · refine mh_iconst (pc := 93) F dX12_sheet_93 ?_
              refine mh_goto (pc := 94) (tgt := 98) F dX12_sheet_94 rfl ?_
              refine mh_iastore (pc := 98) F sh_93 (by decide) (by omega) dX12_sheet_98 ?_
              refine mh_nmh (fun h6 e6 => ?_)
              have F6 : mh_FX h6 := by rw [e6]; exact F3.upa rfl
              have r85_6 : h6 85 = er := by rw [e6, mh_up_row (by decide)]; exact r85_3
              have r92_6 : h6 92 = mh_ur b k w := by rw [e6, mh_up_row (by decide)]; exact r92_3
              have r93_6 : h6 93 = mh_ur z k 0 := by rw [e6, mh_up_rs, r93_3]
              have r94_6 : h6 94 = u := by rw [e6, mh_up_row (by decide)]; exact r94_3
              have fr6 : mh_fr [93, 92] h h6 := mh_fr.up fr3 e6
              refine mh_iconst (pc := 99) F dX12_sheet_99 ?_
              refine mh_istore5 (pc := 100) F dX12_sheet_100 rfl (by decide) ?_
              have L102 : ∀ (m : Nat) (y : Int) (hh : Nat → Int → Int) (t : Int → Int), (mh_FX hh) → (mh_fr [94, 93, 92] h hh) → (hh 85 = er) → (hh 92 = mh_ur b k w) → (hh 93 = mh_ur z k 0) → (hh 94 = t) → (0 ≤ y ∧ y ≤ 40) → (t = fun i => if 40 * k ≤ i ∧ i < 40 * k + y then 0 else u i) → (40 - y).toNat = m → mh_V g f 6 96 0 0 102 [some (.ref 81), some (.int (Int32.ofInt (k))), some (.int (Int32.ofInt (w))), some (.int (Int32.ofInt (n))), some (.int (Int32.ofInt (jy))), some (.int (Int32.ofInt (y)))] [] hh := by
                intro m
                induction m using Nat.strongRecOn with
                | _ m ihL102 =>
                intro y hh t Fhh frhh q85hh q92hh q93hh q94hh hy ht hmz
                refine mh_iload5 (pc := 102) F dX12_sheet_102 ?_
                refine mh_bipush (pc := 104) F dX12_sheet_104 rfl ?_
                refine mh_icmp_ge (pc := 106) (tgt := 128) F dX12_sheet_106 rfl (by omega) (by omega) (fun c_106 => ?_) (fun c_106 => ?_)
                · refine mh_iconst (pc := 128) F dX12_sheet_128 ?_
                  exact mh_ireturn F Z dX12_sheet_129 ⟨_, _, _, _, _, (by unfold sp_sheet; (repeat' split) <;> first | (exfalso; omega) | rfl | (rw [ht, show y = 40 by omega]; first | rfl | (rw [if_pos (by omega)]; rfl) | (rw [if_neg (by omega)]; rfl))), rfl, Fhh, (frhh.mono (by simp)), q85hh, q92hh, q93hh, q94hh⟩
                · refine mh_aload0 (pc := 109) F dX12_sheet_109 ?_
                  refine mh_getr (b := 94) (pc := 110) F sh_81 (by decide) fw_RX12_47_12 dX12_sheet_110 rfl (fx_81_28 Fhh) ?_
                  refine mh_bipush (pc := 113) F dX12_sheet_113 rfl ?_
                  refine mh_iload1 (pc := 115) F dX12_sheet_115 ?_
                  refine mh_imul (pc := 116) F dX12_sheet_116 ?_
                  refine mh_iload5 (pc := 117) F dX12_sheet_117 ?_
                  refine mh_iadd (pc := 119) F dX12_sheet_119 ?_
                  refine mh_iconst (pc := 120) F dX12_sheet_120 ?_
                  refine mh_iastore (pc := 121) F sh_94 (by decide) (by omega) dX12_sheet_121 ?_
                  refine mh_nmh (fun h7 e7 => ?_)
                  have F7 : mh_FX h7 := by rw [e7]; exact Fhh.upa rfl
                  have r85_7 : h7 85 = er := by rw [e7, mh_up_row (by decide)]; exact q85hh
                  have r92_7 : h7 92 = mh_ur b k w := by rw [e7, mh_up_row (by decide)]; exact q92hh
                  have r93_7 : h7 93 = mh_ur z k 0 := by rw [e7, mh_up_row (by decide)]; exact q93hh
                  have r94_7 : h7 94 = mh_ur t ((40 * k) + y) 0 := by rw [e7, mh_up_rs, q94hh]
                  have fr7 : mh_fr [94, 93, 92] h h7 := mh_fr.upi frhh e7 (by simp)
                  refine mh_iinc5 (pc := 122) F dX12_sheet_122 rfl (by decide) ?_
                  refine mh_goto (pc := 125) (tgt := 102) F dX12_sheet_125 rfl ?_
                  exact ihL102 _ (by omega) (y + 1) h7 (mh_ur t ((40 * k) + y) 0) F7 (fr7.mono (by simp)) r85_7 r92_7 r93_7 r94_7 (by omega) (by rw [ht]; funext i; simp only [mh_ur]; (repeat' split) <;> first | rfl | (exfalso; omega)) rfl
              exact L102 _ 0 h6 u F6 (fr6.mono (by simp)) r85_6 r92_6 r93_6 r94_6 (by omega) (by funext i; rw [if_neg (by omega)]) rfl
          · refine mh_iload3 (pc := 65) F dX12_sheet_65 ?_
            refine mh_bipush (pc := 66) F dX12_sheet_66 rfl ?_
            refine mh_icmp_le (pc := 68) (tgt := 77) F dX12_sheet_68 rfl (by omega) (by omega) (fun c_68 => ?_) (fun c_68 => ?_)
            · refine mh_aload0 (pc := 77) F dX12_sheet_77 ?_
              refine mh_getr (b := 92) (pc := 78) F sh_81 (by decide) fw_RX12_41_12 dX12_sheet_78 rfl (fx_81_26 hF) ?_
              refine mh_iload1 (pc := 81) F dX12_sheet_81 ?_
              refine mh_iload2 (pc := 82) F dX12_sheet_82 ?_
              refine mh_iastore (pc := 83) F sh_92 (by decide) (by omega) dX12_sheet_83 ?_
              refine mh_nmh (fun h8 e8 => ?_)
              have F8 : mh_FX h8 := by rw [e8]; exact hF.upa rfl
              have r85_8 : h8 85 = er := by rw [e8, mh_up_row (by decide)]; exact r85
              have r92_8 : h8 92 = mh_ur b k w := by rw [e8, mh_up_rs, r92]
              have r93_8 : h8 93 = z := by rw [e8, mh_up_row (by decide)]; exact r93
              have r94_8 : h8 94 = u := by rw [e8, mh_up_row (by decide)]; exact r94
              have fr8 : mh_fr [92] h h8 := mh_fr.up mh_fr.rf e8
              refine mh_aload0 (pc := 84) F dX12_sheet_84 ?_
              refine mh_getr (b := 93) (pc := 85) F sh_81 (by decide) fw_RX12_44_12 dX12_sheet_85 rfl (fx_81_27 F8) ?_
              refine mh_iload1 (pc := 88) F dX12_sheet_88 ?_
              refine mh_iload2 (pc := 89) F dX12_sheet_89 ?_
              refine mh_if_ne (pc := 90) (tgt := 97) F dX12_sheet_90 rfl (by omega) (fun c_90 => ?_) (fun c_90 => ?_)
              · refine mh_iload3 (pc := 97) F dX12_sheet_97 ?_
                refine mh_iastore (pc := 98) F sh_93 (by decide) (by omega) dX12_sheet_98 ?_
                refine mh_nmh (fun h9 e9 => ?_)
                have F9 : mh_FX h9 := by rw [e9]; exact F8.upa rfl
                have r85_9 : h9 85 = er := by rw [e9, mh_up_row (by decide)]; exact r85_8
                have r92_9 : h9 92 = mh_ur b k w := by rw [e9, mh_up_row (by decide)]; exact r92_8
                have r93_9 : h9 93 = mh_ur z k n := by rw [e9, mh_up_rs, r93_8]
                have r94_9 : h9 94 = u := by rw [e9, mh_up_row (by decide)]; exact r94_8
                have fr9 : mh_fr [93, 92] h h9 := mh_fr.up fr8 e9
                refine mh_iconst (pc := 99) F dX12_sheet_99 ?_
                refine mh_istore5 (pc := 100) F dX12_sheet_100 rfl (by decide) ?_
                have L102 : ∀ (m : Nat) (y : Int) (hh : Nat → Int → Int) (t : Int → Int), (mh_FX hh) → (mh_fr [94, 93, 92] h hh) → (hh 85 = er) → (hh 92 = mh_ur b k w) → (hh 93 = mh_ur z k n) → (hh 94 = t) → (0 ≤ y ∧ y ≤ 40) → (t = fun i => if 40 * k ≤ i ∧ i < 40 * k + y then 0 else u i) → (40 - y).toNat = m → mh_V g f 6 96 0 0 102 [some (.ref 81), some (.int (Int32.ofInt (k))), some (.int (Int32.ofInt (w))), some (.int (Int32.ofInt (n))), some (.int (Int32.ofInt (jy))), some (.int (Int32.ofInt (y)))] [] hh := by
                  intro m
                  induction m using Nat.strongRecOn with
                  | _ m ihL102 =>
                  intro y hh t Fhh frhh q85hh q92hh q93hh q94hh hy ht hmz
                  refine mh_iload5 (pc := 102) F dX12_sheet_102 ?_
                  refine mh_bipush (pc := 104) F dX12_sheet_104 rfl ?_
                  refine mh_icmp_ge (pc := 106) (tgt := 128) F dX12_sheet_106 rfl (by omega) (by omega) (fun c_106 => ?_) (fun c_106 => ?_)
                  · refine mh_iconst (pc := 128) F dX12_sheet_128 ?_
                    exact mh_ireturn F Z dX12_sheet_129 ⟨_, _, _, _, _, (by unfold sp_sheet; (repeat' split) <;> first | (exfalso; omega) | rfl | (rw [ht, show y = 40 by omega]; first | rfl | (rw [if_pos (by omega)]; rfl) | (rw [if_neg (by omega)]; rfl))), rfl, Fhh, (frhh.mono (by simp)), q85hh, q92hh, q93hh, q94hh⟩
                  · refine mh_aload0 (pc := 109) F dX12_sheet_109 ?_
                    refine mh_getr (b := 94) (pc := 110) F sh_81 (by decide) fw_RX12_47_12 dX12_sheet_110 rfl (fx_81_28 Fhh) ?_
                    refine mh_bipush (pc := 113) F dX12_sheet_113 rfl ?_
                    refine mh_iload1 (pc := 115) F dX12_sheet_115 ?_
                    refine mh_imul (pc := 116) F dX12_sheet_116 ?_
                    refine mh_iload5 (pc := 117) F dX12_sheet_117 ?_
                    refine mh_iadd (pc := 119) F dX12_sheet_119 ?_
                    refine mh_iconst (pc := 120) F dX12_sheet_120 ?_
                    refine mh_iastore (pc := 121) F sh_94 (by decide) (by omega) dX12_sheet_121 ?_
                    refine mh_nmh (fun h10 e10 => ?_)
                    have F10 : mh_FX h10 := by rw [e10]; exact Fhh.upa rfl
                    have r85_10 : h10 85 = er := by rw [e10, mh_up_row (by decide)]; exact q85hh
                    have r92_10 : h10 92 = mh_ur b k w := by rw [e10, mh_up_row (by decide)]; exact q92hh
                    have r93_10 : h10 93 = mh_ur z k n := by rw [e10, mh_up_row (by decide)]; exact q93hh
                    have r94_10 : h10 94 = mh_ur t ((40 * k) + y) 0 := by rw [e10, mh_up_rs, q94hh]
                    have fr10 : mh_fr [94, 93, 92] h h10 := mh_fr.upi frhh e10 (by simp)
                    refine mh_iinc5 (pc := 122) F dX12_sheet_122 rfl (by decide) ?_
                    refine mh_goto (pc := 125) (tgt := 102) F dX12_sheet_125 rfl ?_
                    exact ihL102 _ (by omega) (y + 1) h10 (mh_ur t ((40 * k) + y) 0) F10 (fr10.mono (by simp)) r85_10 r92_10 r93_10 r94_10 (by omega) (by rw [ht]; funext i; simp only [mh_ur]; (repeat' split) <;> first | rfl | (exfalso; omega)) rfl
                exact L102 _ 0 h9 u F9 (fr9.mono (by simp)) r85_9 r92_9 r93_9 r94_9 (by omega) (by funext i; rw [if_neg (by omega)]) rfl
              · refine mh_iconst (pc := 93) F dX12_sheet_93 ?_
                refine mh_goto (pc := 94) (tgt := 98) F dX12_sheet_94 rfl ?_
                refine mh_iastore (pc := 98) F sh_93 (by decide) (by omega) dX12_sheet_98 ?_
                refine mh_nmh (fun h11 e11 => ?_)
                have F11 : mh_FX h11 := by rw [e11]; exact F8.upa rfl
                have r85_11 : h11 85 = er := by rw [e11, mh_up_row (by decide)]; exact r85_8
                have r92_11 : h11 92 = mh_ur b k w := by rw [e11, mh_up_row (by decide)]; exact r92_8
                have r93_11 : h11 93 = mh_ur z k 0 := by rw [e11, mh_up_rs, r93_8]
                have r94_11 : h11 94 = u := by rw [e11, mh_up_row (by decide)]; exact r94_8
                have fr11 : mh_fr [93, 92] h h11 := mh_fr.up fr8 e11
                refine mh_iconst (pc := 99) F dX12_sheet_99 ?_
                refine mh_istore5 (pc := 100) F dX12_sheet_100 rfl (by decide) ?_
                have L102 : ∀ (m : Nat) (y : Int) (hh : Nat → Int → Int) (t : Int → Int), (mh_FX hh) → (mh_fr [94, 93, 92] h hh) → (hh 85 = er) → (hh 92 = mh_ur b k w) → (hh 93 = mh_ur z k 0) → (hh 94 = t) → (0 ≤ y ∧ y ≤ 40) → (t = fun i => if 40 * k ≤ i ∧ i < 40 * k + y then 0 else u i) → (40 - y).toNat = m → mh_V g f 6 96 0 0 102 [some (.ref 81), some (.int (Int32.ofInt (k))), some (.int (Int32.ofInt (w))), some (.int (Int32.ofInt (n))), some (.int (Int32.ofInt (jy))), some (.int (Int32.ofInt (y)))] [] hh := by
                  intro m
                  induction m using Nat.strongRecOn with
                  | _ m ihL102 =>
                  intro y hh t Fhh frhh q85hh q92hh q93hh q94hh hy ht hmz
                  refine mh_iload5 (pc := 102) F dX12_sheet_102 ?_
                  refine mh_bipush (pc := 104) F dX12_sheet_104 rfl ?_
                  refine mh_icmp_ge (pc := 106) (tgt := 128) F dX12_sheet_106 rfl (by omega) (by omega) (fun c_106 => ?_) (fun c_106 => ?_)
                  · refine mh_iconst (pc := 128) F dX12_sheet_128 ?_
                    exact mh_ireturn F Z dX12_sheet_129 ⟨_, _, _, _, _, (by unfold sp_sheet; (repeat' split) <;> first | (exfalso; omega) | rfl | (rw [ht, show y = 40 by omega]; first | rfl | (rw [if_pos (by omega)]; rfl) | (rw [if_neg (by omega)]; rfl))), rfl, Fhh, (frhh.mono (by simp)), q85hh, q92hh, q93hh, q94hh⟩
                  · refine mh_aload0 (pc := 109) F dX12_sheet_109 ?_
                    refine mh_getr (b := 94) (pc := 110) F sh_81 (by decide) fw_RX12_47_12 dX12_sheet_110 rfl (fx_81_28 Fhh) ?_
                    refine mh_bipush (pc := 113) F dX12_sheet_113 rfl ?_
                    refine mh_iload1 (pc := 115) F dX12_sheet_115 ?_
                    refine mh_imul (pc := 116) F dX12_sheet_116 ?_
                    refine mh_iload5 (pc := 117) F dX12_sheet_117 ?_
                    refine mh_iadd (pc := 119) F dX12_sheet_119 ?_
                    refine mh_iconst (pc := 120) F dX12_sheet_120 ?_
                    refine mh_iastore (pc := 121) F sh_94 (by decide) (by omega) dX12_sheet_121 ?_
                    refine mh_nmh (fun h12 e12 => ?_)
                    have F12 : mh_FX h12 := by rw [e12]; exact Fhh.upa rfl
                    have r85_12 : h12 85 = er := by rw [e12, mh_up_row (by decide)]; exact q85hh
                    have r92_12 : h12 92 = mh_ur b k w := by rw [e12, mh_up_row (by decide)]; exact q92hh
                    have r93_12 : h12 93 = mh_ur z k 0 := by rw [e12, mh_up_row (by decide)]; exact q93hh
                    have r94_12 : h12 94 = mh_ur t ((40 * k) + y) 0 := by rw [e12, mh_up_rs, q94hh]
                    have fr12 : mh_fr [94, 93, 92] h h12 := mh_fr.upi frhh e12 (by simp)
                    refine mh_iinc5 (pc := 122) F dX12_sheet_122 rfl (by decide) ?_
                    refine mh_goto (pc := 125) (tgt := 102) F dX12_sheet_125 rfl ?_
                    exact ihL102 _ (by omega) (y + 1) h12 (mh_ur t ((40 * k) + y) 0) F12 (fr12.mono (by simp)) r85_12 r92_12 r93_12 r94_12 (by omega) (by rw [ht]; funext i; simp only [mh_ur]; (repeat' split) <;> first | rfl | (exfalso; omega)) rfl
                exact L102 _ 0 h11 u F11 (fr11.mono (by simp)) r85_11 r92_11 r93_11 r94_11 (by omega) (by funext i; rw [if_neg (by omega)]) rfl
            · refine mh_aload0 (pc := 71) F dX12_sheet_71 ?_
              refine mh_iconst (pc := 72) F dX12_sheet_72 ?_
              refine mh_callV0 (pc := 73) (As := [.int (Int32.ofInt (1))]) (st := []) F (by omega) (k_error (by omega) hF r85 (by omega)) wv_RX12_114_yX12_error dX12_sheet_73 sh_81 rfl (by decide) rfl rfl (Nat.le_of_ble_eq_true rfl) ⟨Nat.zero_le _, Nat.zero_le _⟩ (fun r13 h13 q13 => ?_)
              obtain ⟨rfl, F13, fr13, q13_0⟩ := q13
              have r92_14 : h13 92 = b := (fr13 _ (by decide)).trans r92
              have r93_14 : h13 93 = z := (fr13 _ (by decide)).trans r93
              have r94_14 : h13 94 = u := (fr13 _ (by decide)).trans r94
              have fr14 : mh_fr [85] h h13 := (mh_fr.tr mh_fr.rf fr13).mono (by simp)
              exact mh_ireturn F Z dX12_sheet_76 ⟨_, _, _, _, _, (by unfold sp_sheet; (repeat' split) <;> first | (exfalso; omega) | rfl), rfl, F13, (fr14.mono (by simp)), q13_0, r92_14, r93_14, r94_14⟩
        · refine mh_iload3 (pc := 51) F dX12_sheet_51 ?_
          refine mh_if_ge (pc := 52) (tgt := 61) F dX12_sheet_52 rfl (by omega) (fun c_52 => ?_) (fun c_52 => ?_)
          · refine mh_iload2 (pc := 61) F dX12_sheet_61 ?_
            refine mh_if_le (pc := 62) (tgt := 77) F dX12_sheet_62 rfl (by omega) (fun c_62 => ?_) (fun c_62 => ?_)
            · refine mh_aload0 (pc := 77) F dX12_sheet_77 ?_
              refine mh_getr (b := 92) (pc := 78) F sh_81 (by decide) fw_RX12_41_12 dX12_sheet_78 rfl (fx_81_26 hF) ?_
              refine mh_iload1 (pc := 81) F dX12_sheet_81 ?_
              refine mh_iload2 (pc := 82) F dX12_sheet_82 ?_
              refine mh_iastore (pc := 83) F sh_92 (by decide) (by omega) dX12_sheet_83 ?_
              refine mh_nmh (fun h15 e15 => ?_)
              have F15 : mh_FX h15 := by rw [e15]; exact hF.upa rfl
              have r85_15 : h15 85 = er := by rw [e15, mh_up_row (by decide)]; exact r85
              have r92_15 : h15 92 = mh_ur b k w := by rw [e15, mh_up_rs, r92]
              have r93_15 : h15 93 = z := by rw [e15, mh_up_row (by decide)]; exact r93
              have r94_15 : h15 94 = u := by rw [e15, mh_up_row (by decide)]; exact r94
              have fr15 : mh_fr [92] h h15 := mh_fr.up mh_fr.rf e15
              refine mh_aload0 (pc := 84) F dX12_sheet_84 ?_
              refine mh_getr (b := 93) (pc := 85) F sh_81 (by decide) fw_RX12_44_12 dX12_sheet_85 rfl (fx_81_27 F15) ?_
              refine mh_iload1 (pc := 88) F dX12_sheet_88 ?_
              refine mh_iload2 (pc := 89) F dX12_sheet_89 ?_
              refine mh_if_ne (pc := 90) (tgt := 97) F dX12_sheet_90 rfl (by omega) (fun c_90 => ?_) (fun c_90 => ?_)
              · refine mh_iload3 (pc := 97) F dX12_sheet_97 ?_
                refine mh_iastore (pc := 98) F sh_93 (by decide) (by omega) dX12_sheet_98 ?_
                refine mh_nmh (fun h16 e16 => ?_)
                have F16 : mh_FX h16 := by rw [e16]; exact F15.upa rfl
                have r85_16 : h16 85 = er := by rw [e16, mh_up_row (by decide)]; exact r85_15
                have r92_16 : h16 92 = mh_ur b k w := by rw [e16, mh_up_row (by decide)]; exact r92_15
                have r93_16 : h16 93 = mh_ur z k n := by rw [e16, mh_up_rs, r93_15]
                have r94_16 : h16 94 = u := by rw [e16, mh_up_row (by decide)]; exact r94_15
                have fr16 : mh_fr [93, 92] h h16 := mh_fr.up fr15 e16
                refine mh_iconst (pc := 99) F dX12_sheet_99 ?_
                refine mh_istore5 (pc := 100) F dX12_sheet_100 rfl (by decide) ?_
                have L102 : ∀ (m : Nat) (y : Int) (hh : Nat → Int → Int) (t : Int → Int), (mh_FX hh) → (mh_fr [94, 93, 92] h hh) → (hh 85 = er) → (hh 92 = mh_ur b k w) → (hh 93 = mh_ur z k n) → (hh 94 = t) → (0 ≤ y ∧ y ≤ 40) → (t = fun i => if 40 * k ≤ i ∧ i < 40 * k + y then 0 else u i) → (40 - y).toNat = m → mh_V g f 6 96 0 0 102 [some (.ref 81), some (.int (Int32.ofInt (k))), some (.int (Int32.ofInt (w))), some (.int (Int32.ofInt (n))), some (.int (Int32.ofInt (jy))), some (.int (Int32.ofInt (y)))] [] hh := by
                  intro m
                  induction m using Nat.strongRecOn with
                  | _ m ihL102 =>
                  intro y hh t Fhh frhh q85hh q92hh q93hh q94hh hy ht hmz
                  refine mh_iload5 (pc := 102) F dX12_sheet_102 ?_
                  refine mh_bipush (pc := 104) F dX12_sheet_104 rfl ?_
                  refine mh_icmp_ge (pc := 106) (tgt := 128) F dX12_sheet_106 rfl (by omega) (by omega) (fun c_106 => ?_) (fun c_106 => ?_)
                  · refine mh_iconst (pc := 128) F dX12_sheet_128 ?_
                    exact mh_ireturn F Z dX12_sheet_129 ⟨_, _, _, _, _, (by unfold sp_sheet; (repeat' split) <;> first | (exfalso; omega) | rfl | (rw [ht, show y = 40 by omega]; first | rfl | (rw [if_pos (by omega)]; rfl) | (rw [if_neg (by omega)]; rfl))), rfl, Fhh, (frhh.mono (by simp)), q85hh, q92hh, q93hh, q94hh⟩
                  · refine mh_aload0 (pc := 109) F dX12_sheet_109 ?_
                    refine mh_getr (b := 94) (pc := 110) F sh_81 (by decide) fw_RX12_47_12 dX12_sheet_110 rfl (fx_81_28 Fhh) ?_
                    refine mh_bipush (pc := 113) F dX12_sheet_113 rfl ?_
                    refine mh_iload1 (pc := 115) F dX12_sheet_115 ?_
                    refine mh_imul (pc := 116) F dX12_sheet_116 ?_
                    refine mh_iload5 (pc := 117) F dX12_sheet_117 ?_
                    refine mh_iadd (pc := 119) F dX12_sheet_119 ?_
                    refine mh_iconst (pc := 120) F dX12_sheet_120 ?_
                    refine mh_iastore (pc := 121) F sh_94 (by decide) (by omega) dX12_sheet_121 ?_
                    refine mh_nmh (fun h17 e17 => ?_)
                    have F17 : mh_FX h17 := by rw [e17]; exact Fhh.upa rfl
                    have r85_17 : h17 85 = er := by rw [e17, mh_up_row (by decide)]; exact q85hh
                    have r92_17 : h17 92 = mh_ur b k w := by rw [e17, mh_up_row (by decide)]; exact q92hh
                    have r93_17 : h17 93 = mh_ur z k n := by rw [e17, mh_up_row (by decide)]; exact q93hh
                    have r94_17 : h17 94 = mh_ur t ((40 * k) + y) 0 := by rw [e17, mh_up_rs, q94hh]
                    have fr17 : mh_fr [94, 93, 92] h h17 := mh_fr.upi frhh e17 (by simp)
                    refine mh_iinc5 (pc := 122) F dX12_sheet_122 rfl (by decide) ?_
                    refine mh_goto (pc := 125) (tgt := 102) F dX12_sheet_125 rfl ?_
                    exact ihL102 _ (by omega) (y + 1) h17 (mh_ur t ((40 * k) + y) 0) F17 (fr17.mono (by simp)) r85_17 r92_17 r93_17 r94_17 (by omega) (by rw [ht]; funext i; simp only [mh_ur]; (repeat' split) <;> first | rfl | (exfalso; omega)) rfl
                exact L102 _ 0 h16 u F16 (fr16.mono (by simp)) r85_16 r92_16 r93_16 r94_16 (by omega) (by funext i; rw [if_neg (by omega)]) rfl
              · refine mh_iconst (pc := 93) F dX12_sheet_93 ?_
                refine mh_goto (pc := 94) (tgt := 98) F dX12_sheet_94 rfl ?_
                refine mh_iastore (pc := 98) F sh_93 (by decide) (by omega) dX12_sheet_98 ?_
                refine mh_nmh (fun h18 e18 => ?_)
                have F18 : mh_FX h18 := by rw [e18]; exact F15.upa rfl
                have r85_18 : h18 85 = er := by rw [e18, mh_up_row (by decide)]; exact r85_15
                have r92_18 : h18 92 = mh_ur b k w := by rw [e18, mh_up_row (by decide)]; exact r92_15
                have r93_18 : h18 93 = mh_ur z k 0 := by rw [e18, mh_up_rs, r93_15]
                have r94_18 : h18 94 = u := by rw [e18, mh_up_row (by decide)]; exact r94_15
                have fr18 : mh_fr [93, 92] h h18 := mh_fr.up fr15 e18
                refine mh_iconst (pc := 99) F dX12_sheet_99 ?_
                refine mh_istore5 (pc := 100) F dX12_sheet_100 rfl (by decide) ?_
                have L102 : ∀ (m : Nat) (y : Int) (hh : Nat → Int → Int) (t : Int → Int), (mh_FX hh) → (mh_fr [94, 93, 92] h hh) → (hh 85 = er) → (hh 92 = mh_ur b k w) → (hh 93 = mh_ur z k 0) → (hh 94 = t) → (0 ≤ y ∧ y ≤ 40) → (t = fun i => if 40 * k ≤ i ∧ i < 40 * k + y then 0 else u i) → (40 - y).toNat = m → mh_V g f 6 96 0 0 102 [some (.ref 81), some (.int (Int32.ofInt (k))), some (.int (Int32.ofInt (w))), some (.int (Int32.ofInt (n))), some (.int (Int32.ofInt (jy))), some (.int (Int32.ofInt (y)))] [] hh := by
                  intro m
                  induction m using Nat.strongRecOn with
                  | _ m ihL102 =>
                  intro y hh t Fhh frhh q85hh q92hh q93hh q94hh hy ht hmz
                  refine mh_iload5 (pc := 102) F dX12_sheet_102 ?_
                  refine mh_bipush (pc := 104) F dX12_sheet_104 rfl ?_
                  refine mh_icmp_ge (pc := 106) (tgt := 128) F dX12_sheet_106 rfl (by omega) (by omega) (fun c_106 => ?_) (fun c_106 => ?_)
                  · refine mh_iconst (pc := 128) F dX12_sheet_128 ?_
                    exact mh_ireturn F Z dX12_sheet_129 ⟨_, _, _, _, _, (by unfold sp_sheet; (repeat' split) <;> first | (exfalso; omega) | rfl | (rw [ht, show y = 40 by omega]; first | rfl | (rw [if_pos (by omega)]; rfl) | (rw [if_neg (by omega)]; rfl))), rfl, Fhh, (frhh.mono (by simp)), q85hh, q92hh, q93hh, q94hh⟩
                  · refine mh_aload0 (pc := 109) F dX12_sheet_109 ?_
                    refine mh_getr (b := 94) (pc := 110) F sh_81 (by decide) fw_RX12_47_12 dX12_sheet_110 rfl (fx_81_28 Fhh) ?_
                    refine mh_bipush (pc := 113) F dX12_sheet_113 rfl ?_
                    refine mh_iload1 (pc := 115) F dX12_sheet_115 ?_
                    refine mh_imul (pc := 116) F dX12_sheet_116 ?_
                    refine mh_iload5 (pc := 117) F dX12_sheet_117 ?_
                    refine mh_iadd (pc := 119) F dX12_sheet_119 ?_
                    refine mh_iconst (pc := 120) F dX12_sheet_120 ?_
                    refine mh_iastore (pc := 121) F sh_94 (by decide) (by omega) dX12_sheet_121 ?_
                    refine mh_nmh (fun h19 e19 => ?_)
                    have F19 : mh_FX h19 := by rw [e19]; exact Fhh.upa rfl
                    have r85_19 : h19 85 = er := by rw [e19, mh_up_row (by decide)]; exact q85hh
                    have r92_19 : h19 92 = mh_ur b k w := by rw [e19, mh_up_row (by decide)]; exact q92hh
                    have r93_19 : h19 93 = mh_ur z k 0 := by rw [e19, mh_up_row (by decide)]; exact q93hh
                    have r94_19 : h19 94 = mh_ur t ((40 * k) + y) 0 := by rw [e19, mh_up_rs, q94hh]
                    have fr19 : mh_fr [94, 93, 92] h h19 := mh_fr.upi frhh e19 (by simp)
                    refine mh_iinc5 (pc := 122) F dX12_sheet_122 rfl (by decide) ?_
                    refine mh_goto (pc := 125) (tgt := 102) F dX12_sheet_125 rfl ?_
                    exact ihL102 _ (by omega) (y + 1) h19 (mh_ur t ((40 * k) + y) 0) F19 (fr19.mono (by simp)) r85_19 r92_19 r93_19 r94_19 (by omega) (by rw [ht]; funext i; simp only [mh_ur]; (repeat' split) <;> first | rfl | (exfalso; omega)) rfl
                exact L102 _ 0 h18 u F18 (fr18.mono (by simp)) r85_18 r92_18 r93_18 r94_18 (by omega) (by funext i; rw [if_neg (by omega)]) rfl
            · refine mh_iload3 (pc := 65) F dX12_sheet_65 ?_
              refine mh_bipush (pc := 66) F dX12_sheet_66 rfl ?_
              refine mh_icmp_le (pc := 68) (tgt := 77) F dX12_sheet_68 rfl (by omega) (by omega) (fun c_68 => ?_) (fun c_68 => ?_)
              · refine mh_aload0 (pc := 77) F dX12_sheet_77 ?_
                refine mh_getr (b := 92) (pc := 78) F sh_81 (by decide) fw_RX12_41_12 dX12_sheet_78 rfl (fx_81_26 hF) ?_
                refine mh_iload1 (pc := 81) F dX12_sheet_81 ?_
                refine mh_iload2 (pc := 82) F dX12_sheet_82 ?_
                refine mh_iastore (pc := 83) F sh_92 (by decide) (by omega) dX12_sheet_83 ?_
                refine mh_nmh (fun h20 e20 => ?_)
                have F20 : mh_FX h20 := by rw [e20]; exact hF.upa rfl
                have r85_20 : h20 85 = er := by rw [e20, mh_up_row (by decide)]; exact r85
                have r92_20 : h20 92 = mh_ur b k w := by rw [e20, mh_up_rs, r92]
                have r93_20 : h20 93 = z := by rw [e20, mh_up_row (by decide)]; exact r93
                have r94_20 : h20 94 = u := by rw [e20, mh_up_row (by decide)]; exact r94
                have fr20 : mh_fr [92] h h20 := mh_fr.up mh_fr.rf e20
                refine mh_aload0 (pc := 84) F dX12_sheet_84 ?_
                refine mh_getr (b := 93) (pc := 85) F sh_81 (by decide) fw_RX12_44_12 dX12_sheet_85 rfl (fx_81_27 F20) ?_
                refine mh_iload1 (pc := 88) F dX12_sheet_88 ?_
                refine mh_iload2 (pc := 89) F dX12_sheet_89 ?_
                refine mh_if_ne (pc := 90) (tgt := 97) F dX12_sheet_90 rfl (by omega) (fun c_90 => ?_) (fun c_90 => ?_)
                · refine mh_iload3 (pc := 97) F dX12_sheet_97 ?_
                  refine mh_iastore (pc := 98) F sh_93 (by decide) (by omega) dX12_sheet_98 ?_
                  refine mh_nmh (fun h21 e21 => ?_)
                  have F21 : mh_FX h21 := by rw [e21]; exact F20.upa rfl
                  have r85_21 : h21 85 = er := by rw [e21, mh_up_row (by decide)]; exact r85_20
                  have r92_21 : h21 92 = mh_ur b k w := by rw [e21, mh_up_row (by decide)]; exact r92_20
                  have r93_21 : h21 93 = mh_ur z k n := by rw [e21, mh_up_rs, r93_20]
                  have r94_21 : h21 94 = u := by rw [e21, mh_up_row (by decide)]; exact r94_20
                  have fr21 : mh_fr [93, 92] h h21 := mh_fr.up fr20 e21
                  refine mh_iconst (pc := 99) F dX12_sheet_99 ?_
                  refine mh_istore5 (pc := 100) F dX12_sheet_100 rfl (by decide) ?_
                  have L102 : ∀ (m : Nat) (y : Int) (hh : Nat → Int → Int) (t : Int → Int), (mh_FX hh) → (mh_fr [94, 93, 92] h hh) → (hh 85 = er) → (hh 92 = mh_ur b k w) → (hh 93 = mh_ur z k n) → (hh 94 = t) → (0 ≤ y ∧ y ≤ 40) → (t = fun i => if 40 * k ≤ i ∧ i < 40 * k + y then 0 else u i) → (40 - y).toNat = m → mh_V g f 6 96 0 0 102 [some (.ref 81), some (.int (Int32.ofInt (k))), some (.int (Int32.ofInt (w))), some (.int (Int32.ofInt (n))), some (.int (Int32.ofInt (jy))), some (.int (Int32.ofInt (y)))] [] hh := by
                    intro m
                    induction m using Nat.strongRecOn with
                    | _ m ihL102 =>
                    intro y hh t Fhh frhh q85hh q92hh q93hh q94hh hy ht hmz
                    refine mh_iload5 (pc := 102) F dX12_sheet_102 ?_
                    refine mh_bipush (pc := 104) F dX12_sheet_104 rfl ?_
                    refine mh_icmp_ge (pc := 106) (tgt := 128) F dX12_sheet_106 rfl (by omega) (by omega) (fun c_106 => ?_) (fun c_106 => ?_)
                    · refine mh_iconst (pc := 128) F dX12_sheet_128 ?_
                      exact mh_ireturn F Z dX12_sheet_129 ⟨_, _, _, _, _, (by unfold sp_sheet; (repeat' split) <;> first | (exfalso; omega) | rfl | (rw [ht, show y = 40 by omega]; first | rfl | (rw [if_pos (by omega)]; rfl) | (rw [if_neg (by omega)]; rfl))), rfl, Fhh, (frhh.mono (by simp)), q85hh, q92hh, q93hh, q94hh⟩
                    · refine mh_aload0 (pc := 109) F dX12_sheet_109 ?_
                      refine mh_getr (b := 94) (pc := 110) F sh_81 (by decide) fw_RX12_47_12 dX12_sheet_110 rfl (fx_81_28 Fhh) ?_
                      refine mh_bipush (pc := 113) F dX12_sheet_113 rfl ?_
                      refine mh_iload1 (pc := 115) F dX12_sheet_115 ?_
                      refine mh_imul (pc := 116) F dX12_sheet_116 ?_
                      refine mh_iload5 (pc := 117) F dX12_sheet_117 ?_
                      refine mh_iadd (pc := 119) F dX12_sheet_119 ?_
                      refine mh_iconst (pc := 120) F dX12_sheet_120 ?_
                      refine mh_iastore (pc := 121) F sh_94 (by decide) (by omega) dX12_sheet_121 ?_
                      refine mh_nmh (fun h22 e22 => ?_)
                      have F22 : mh_FX h22 := by rw [e22]; exact Fhh.upa rfl
                      have r85_22 : h22 85 = er := by rw [e22, mh_up_row (by decide)]; exact q85hh
                      have r92_22 : h22 92 = mh_ur b k w := by rw [e22, mh_up_row (by decide)]; exact q92hh
                      have r93_22 : h22 93 = mh_ur z k n := by rw [e22, mh_up_row (by decide)]; exact q93hh
                      have r94_22 : h22 94 = mh_ur t ((40 * k) + y) 0 := by rw [e22, mh_up_rs, q94hh]
                      have fr22 : mh_fr [94, 93, 92] h h22 := mh_fr.upi frhh e22 (by simp)
                      refine mh_iinc5 (pc := 122) F dX12_sheet_122 rfl (by decide) ?_
                      refine mh_goto (pc := 125) (tgt := 102) F dX12_sheet_125 rfl ?_
                      exact ihL102 _ (by omega) (y + 1) h22 (mh_ur t ((40 * k) + y) 0) F22 (fr22.mono (by simp)) r85_22 r92_22 r93_22 r94_22 (by omega) (by rw [ht]; funext i; simp only [mh_ur]; (repeat' split) <;> first | rfl | (exfalso; omega)) rfl
                  exact L102 _ 0 h21 u F21 (fr21.mono (by simp)) r85_21 r92_21 r93_21 r94_21 (by omega) (by funext i; rw [if_neg (by omega)]) rfl
                · refine mh_iconst (pc := 93) F dX12_sheet_93 ?_
                  refine mh_goto (pc := 94) (tgt := 98) F dX12_sheet_94 rfl ?_
                  refine mh_iastore (pc := 98) F sh_93 (by decide) (by omega) dX12_sheet_98 ?_
                  refine mh_nmh (fun h23 e23 => ?_)
                  have F23 : mh_FX h23 := by rw [e23]; exact F20.upa rfl
                  have r85_23 : h23 85 = er := by rw [e23, mh_up_row (by decide)]; exact r85_20
                  have r92_23 : h23 92 = mh_ur b k w := by rw [e23, mh_up_row (by decide)]; exact r92_20
                  have r93_23 : h23 93 = mh_ur z k 0 := by rw [e23, mh_up_rs, r93_20]
                  have r94_23 : h23 94 = u := by rw [e23, mh_up_row (by decide)]; exact r94_20
                  have fr23 : mh_fr [93, 92] h h23 := mh_fr.up fr20 e23
                  refine mh_iconst (pc := 99) F dX12_sheet_99 ?_
                  refine mh_istore5 (pc := 100) F dX12_sheet_100 rfl (by decide) ?_
                  have L102 : ∀ (m : Nat) (y : Int) (hh : Nat → Int → Int) (t : Int → Int), (mh_FX hh) → (mh_fr [94, 93, 92] h hh) → (hh 85 = er) → (hh 92 = mh_ur b k w) → (hh 93 = mh_ur z k 0) → (hh 94 = t) → (0 ≤ y ∧ y ≤ 40) → (t = fun i => if 40 * k ≤ i ∧ i < 40 * k + y then 0 else u i) → (40 - y).toNat = m → mh_V g f 6 96 0 0 102 [some (.ref 81), some (.int (Int32.ofInt (k))), some (.int (Int32.ofInt (w))), some (.int (Int32.ofInt (n))), some (.int (Int32.ofInt (jy))), some (.int (Int32.ofInt (y)))] [] hh := by
                    intro m
                    induction m using Nat.strongRecOn with
                    | _ m ihL102 =>
                    intro y hh t Fhh frhh q85hh q92hh q93hh q94hh hy ht hmz
                    refine mh_iload5 (pc := 102) F dX12_sheet_102 ?_
                    refine mh_bipush (pc := 104) F dX12_sheet_104 rfl ?_
                    refine mh_icmp_ge (pc := 106) (tgt := 128) F dX12_sheet_106 rfl (by omega) (by omega) (fun c_106 => ?_) (fun c_106 => ?_)
                    · refine mh_iconst (pc := 128) F dX12_sheet_128 ?_
                      exact mh_ireturn F Z dX12_sheet_129 ⟨_, _, _, _, _, (by unfold sp_sheet; (repeat' split) <;> first | (exfalso; omega) | rfl | (rw [ht, show y = 40 by omega]; first | rfl | (rw [if_pos (by omega)]; rfl) | (rw [if_neg (by omega)]; rfl))), rfl, Fhh, (frhh.mono (by simp)), q85hh, q92hh, q93hh, q94hh⟩
                    · refine mh_aload0 (pc := 109) F dX12_sheet_109 ?_
                      refine mh_getr (b := 94) (pc := 110) F sh_81 (by decide) fw_RX12_47_12 dX12_sheet_110 rfl (fx_81_28 Fhh) ?_
                      refine mh_bipush (pc := 113) F dX12_sheet_113 rfl ?_
                      refine mh_iload1 (pc := 115) F dX12_sheet_115 ?_
                      refine mh_imul (pc := 116) F dX12_sheet_116 ?_
                      refine mh_iload5 (pc := 117) F dX12_sheet_117 ?_
                      refine mh_iadd (pc := 119) F dX12_sheet_119 ?_
                      refine mh_iconst (pc := 120) F dX12_sheet_120 ?_
                      refine mh_iastore (pc := 121) F sh_94 (by decide) (by omega) dX12_sheet_121 ?_
                      refine mh_nmh (fun h24 e24 => ?_)
                      have F24 : mh_FX h24 := by rw [e24]; exact Fhh.upa rfl
                      have r85_24 : h24 85 = er := by rw [e24, mh_up_row (by decide)]; exact q85hh
                      have r92_24 : h24 92 = mh_ur b k w := by rw [e24, mh_up_row (by decide)]; exact q92hh
                      have r93_24 : h24 93 = mh_ur z k 0 := by rw [e24, mh_up_row (by decide)]; exact q93hh
                      have r94_24 : h24 94 = mh_ur t ((40 * k) + y) 0 := by rw [e24, mh_up_rs, q94hh]
                      have fr24 : mh_fr [94, 93, 92] h h24 := mh_fr.upi frhh e24 (by simp)
                      refine mh_iinc5 (pc := 122) F dX12_sheet_122 rfl (by decide) ?_
                      refine mh_goto (pc := 125) (tgt := 102) F dX12_sheet_125 rfl ?_
                      exact ihL102 _ (by omega) (y + 1) h24 (mh_ur t ((40 * k) + y) 0) F24 (fr24.mono (by simp)) r85_24 r92_24 r93_24 r94_24 (by omega) (by rw [ht]; funext i; simp only [mh_ur]; (repeat' split) <;> first | rfl | (exfalso; omega)) rfl
                  exact L102 _ 0 h23 u F23 (fr23.mono (by simp)) r85_23 r92_23 r93_23 r94_23 (by omega) (by funext i; rw [if_neg (by omega)]) rfl
              · refine mh_aload0 (pc := 71) F dX12_sheet_71 ?_
                refine mh_iconst (pc := 72) F dX12_sheet_72 ?_
                refine mh_callV0 (pc := 73) (As := [.int (Int32.ofInt (1))]) (st := []) F (by omega) (k_error (by omega) hF r85 (by omega)) wv_RX12_114_yX12_error dX12_sheet_73 sh_81 rfl (by decide) rfl rfl (Nat.le_of_ble_eq_true rfl) ⟨Nat.zero_le _, Nat.zero_le _⟩ (fun r25 h25 q25 => ?_)
                obtain ⟨rfl, F25, fr25, q25_0⟩ := q25
                have r92_26 : h25 92 = b := (fr25 _ (by decide)).trans r92
                have r93_26 : h25 93 = z := (fr25 _ (by decide)).trans r93
                have r94_26 : h25 94 = u := (fr25 _ (by decide)).trans r94
                have fr26 : mh_fr [85] h h25 := (mh_fr.tr mh_fr.rf fr25).mono (by simp)
                exact mh_ireturn F Z dX12_sheet_76 ⟨_, _, _, _, _, (by unfold sp_sheet; (repeat' split) <;> first | (exfalso; omega) | rfl), rfl, F25, (fr26.mono (by simp)), q25_0, r92_26, r93_26, r94_26⟩
          · refine mh_aload0 (pc := 55) F dX12_sheet_55 ?_
            refine mh_iconst (pc := 56) F dX12_sheet_56 ?_
            refine mh_callV0 (pc := 57) (As := [.int (Int32.ofInt (3))]) (st := []) F (by omega) (k_error (by omega) hF r85 (by omega)) wv_RX12_114_yX12_error dX12_sheet_57 sh_81 rfl (by decide) rfl rfl (Nat.le_of_ble_eq_true rfl) ⟨Nat.zero_le _, Nat.zero_le _⟩ (fun r27 h27 q27 => ?_)
            obtain ⟨rfl, F27, fr27, q27_0⟩ := q27
            have r92_28 : h27 92 = b := (fr27 _ (by decide)).trans r92
            have r93_28 : h27 93 = z := (fr27 _ (by decide)).trans r93
            have r94_28 : h27 94 = u := (fr27 _ (by decide)).trans r94
            have fr28 : mh_fr [85] h h27 := (mh_fr.tr mh_fr.rf fr27).mono (by simp)
            exact mh_ireturn F Z dX12_sheet_60 ⟨_, _, _, _, _, (by unfold sp_sheet; (repeat' split) <;> first | (exfalso; omega) | rfl), rfl, F27, (fr28.mono (by simp)), q27_0, r92_28, r93_28, r94_28⟩
      · refine mh_aload0 (pc := 41) F dX12_sheet_41 ?_
        refine mh_iconst (pc := 42) F dX12_sheet_42 ?_
        refine mh_callV0 (pc := 43) (As := [.int (Int32.ofInt (1))]) (st := []) F (by omega) (k_error (by omega) hF r85 (by omega)) wv_RX12_114_yX12_error dX12_sheet_43 sh_81 rfl (by decide) rfl rfl (Nat.le_of_ble_eq_true rfl) ⟨Nat.zero_le _, Nat.zero_le _⟩ (fun r29 h29 q29 => ?_)
        obtain ⟨rfl, F29, fr29, q29_0⟩ := q29
        have r92_30 : h29 92 = b := (fr29 _ (by decide)).trans r92
        have r93_30 : h29 93 = z := (fr29 _ (by decide)).trans r93
        have r94_30 : h29 94 = u := (fr29 _ (by decide)).trans r94
        have fr30 : mh_fr [85] h h29 := (mh_fr.tr mh_fr.rf fr29).mono (by simp)
        exact mh_ireturn F Z dX12_sheet_46 ⟨_, _, _, _, _, (by unfold sp_sheet; (repeat' split) <;> first | (exfalso; omega) | rfl), rfl, F29, (fr30.mono (by simp)), q29_0, r92_30, r93_30, r94_30⟩
  refine mh_iload2 (pc := 0) F dX12_sheet_0 ?_
  refine mh_if_eq (pc := 1) (tgt := 22) F dX12_sheet_1 rfl (by omega) (fun c_1 => ?_) (fun c_1 => ?_)
  · refine mh_iconst (pc := 22) F dX12_sheet_22 ?_
    refine mh_goto (pc := 23) (tgt := 27) F dX12_sheet_23 rfl ?_
    refine mh_istore4 (pc := 27) F dX12_sheet_27 rfl (by decide) ?_
    exact J29 1 (by omega)
  · refine mh_iload2 (pc := 4) F dX12_sheet_4 ?_
    refine mh_bipush (pc := 5) F dX12_sheet_5 rfl ?_
    refine mh_icmp_eq (pc := 7) (tgt := 22) F dX12_sheet_7 rfl (by omega) (by omega) (fun c_7 => ?_) (fun c_7 => ?_)
    · refine mh_iconst (pc := 22) F dX12_sheet_22 ?_
      refine mh_goto (pc := 23) (tgt := 27) F dX12_sheet_23 rfl ?_
      refine mh_istore4 (pc := 27) F dX12_sheet_27 rfl (by decide) ?_
      exact J29 1 (by omega)
    · refine mh_iload2 (pc := 10) F dX12_sheet_10 ?_
      refine mh_bipush (pc := 11) F dX12_sheet_11 rfl ?_
      refine mh_icmp_eq (pc := 13) (tgt := 22) F dX12_sheet_13 rfl (by omega) (by omega) (fun c_13 => ?_) (fun c_13 => ?_)
      · refine mh_iconst (pc := 22) F dX12_sheet_22 ?_
        refine mh_goto (pc := 23) (tgt := 27) F dX12_sheet_23 rfl ?_
        refine mh_istore4 (pc := 27) F dX12_sheet_27 rfl (by decide) ?_
        exact J29 1 (by omega)
      · refine mh_iload2 (pc := 16) F dX12_sheet_16 ?_
        refine mh_bipush (pc := 17) F dX12_sheet_17 rfl ?_
        refine mh_icmp_ne (pc := 19) (tgt := 26) F dX12_sheet_19 rfl (by omega) (by omega) (fun c_19 => ?_) (fun c_19 => ?_)
        · refine mh_iconst (pc := 26) F dX12_sheet_26 ?_
          refine mh_istore4 (pc := 27) F dX12_sheet_27 rfl (by decide) ?_
          exact J29 0 (by omega)
        · refine mh_iconst (pc := 22) F dX12_sheet_22 ?_
          refine mh_goto (pc := 23) (tgt := 27) F dX12_sheet_23 rfl ?_
          refine mh_istore4 (pc := 27) F dX12_sheet_27 rfl (by decide) ?_
          exact J29 1 (by omega)

set_option maxRecDepth 100000 in
set_option maxHeartbeats 4000000 in
theorem k_lacks {g : mh_G} {d : Nat} (hd : 3 ≤ d) {h : Nat → Int → Int} (hF : mh_FX h) {b : Int → Int} (r92 : h 92 = b) {k : Int} (hk : -2147483648 ≤ k ∧ k < 2147483648) (hb : ∀ j, 0 ≤ j → j < 4 → b j = 0 ∨ b j = 8 ∨ b j = 16 ∨ b j = 32) : mh_MP g d yX12_lacks cX12_lacks 2 (some .int) 96 [.ref 81, .int (Int32.ofInt (k))] h (some (.int (Int32.ofInt (sp_lacks k b)))) := by
  refine mh_M_of RX12 rfl (by decide +kernel) [some (.ref 81), some (.int (Int32.ofInt (k)))] rfl (Nat.le_of_ble_eq_true rfl) (fun f F Z hn0 hR => ?_)
  refine mh_iload1 (pc := 0) F dX12_lacks_0 ?_
  refine mh_callSp (pc := 1) (As := [.int (Int32.ofInt (k))]) (st := []) F (by omega) (k_isSheet (by omega) (by omega)) ws_RX12_387 dX12_lacks_1 rfl rfl (Nat.le_of_ble_eq_true rfl) ⟨Nat.zero_le _, Nat.zero_le _⟩ ?_
  refine mh_ifb_ne (pc := 4) (tgt := 11) F dX12_lacks_4 rfl (fun c_4 => ?_) (fun c_4 => ?_)
  · have hbj := hb k (by omega) (by omega)
    refine mh_aload0 (pc := 11) F dX12_lacks_11 ?_
    refine mh_getr (b := 92) (pc := 12) F sh_81 (by decide) fw_RX12_41_12 dX12_lacks_12 rfl (fx_81_26 hF) ?_
    refine mh_iload1 (pc := 15) F dX12_lacks_15 ?_
    refine mh_ialoadr (pc := 16) F sh_92 (by decide) (by omega) dX12_lacks_16 r92 ?_
    refine mh_if_ne (pc := 17) (tgt := 24) F dX12_lacks_17 rfl (by omega) (fun c_17 => ?_) (fun c_17 => ?_)
    · refine mh_iconst (pc := 24) F dX12_lacks_24 ?_
      exact mh_ireturnp F Z dX12_lacks_25 (by unfold sp_lacks; (repeat' split) <;> omega) rfl
    · refine mh_iconst (pc := 20) F dX12_lacks_20 ?_
      refine mh_goto (pc := 21) (tgt := 25) F dX12_lacks_21 rfl ?_
      exact mh_ireturnp F Z dX12_lacks_25 (by unfold sp_lacks; (repeat' split) <;> omega) rfl
  · refine mh_iconst (pc := 7) F dX12_lacks_7 ?_
    refine mh_goto (pc := 8) (tgt := 25) F dX12_lacks_8 rfl ?_
    exact mh_ireturnp F Z dX12_lacks_25 (by unfold sp_lacks; (repeat' split) <;> omega) rfl

set_option maxRecDepth 100000 in
set_option maxHeartbeats 4000000 in
theorem p_put {g : mh_G} {d : Nat} (hd : 10 ≤ d) {h : Nat → Int → Int} (hF : mh_FX h) {er : Int → Int} (r85 : h 85 = er) {b : Int → Int} (r92 : h 92 = b) {z : Int → Int} (r93 : h 93 = z) {u : Int → Int} (r94 : h 94 = u) {k i x : Int} (hk : -2147483648 ≤ k ∧ k < 2147483648) (hi : -2147483648 ≤ i ∧ i < 2147483648) (hx : -2147483648 ≤ x ∧ x < 2147483648) (hb : ∀ j, 0 ≤ j → j < 4 → (b j = 0 ∨ b j = 8 ∨ b j = 16 ∨ b j = 32) ∧ (0 ≤ z j ∧ z j ≤ 40)) : mh_M g d yX12_put cX12_put 5 (some .int) 96 0 0 [.ref 81, .int (Int32.ofInt (k)), .int (Int32.ofInt (i)), .int (Int32.ofInt (x))] h (fun r h2 => ∃ (vv : Int) (t0 : Int → Int) (t1 : Int → Int), (vv, t0, t1) = sp_put k i x er b z u ∧ r = some (.int (Int32.ofInt vv)) ∧ mh_FX h2 ∧ mh_fr [85, 94] h h2 ∧ h2 85 = t0 ∧ h2 94 = t1) := by
  refine mh_M_of RX12 rfl (by decide +kernel) [some (.ref 81), some (.int (Int32.ofInt (k))), some (.int (Int32.ofInt (i))), some (.int (Int32.ofInt (x))), none] rfl (Nat.le_of_ble_eq_true rfl) (fun f F Z hn0 hR => ?_)
  have hlr := sp_lacks_rg k b
  refine mh_aload0 (pc := 0) F dX12_put_0 ?_
  refine mh_iload1 (pc := 1) F dX12_put_1 ?_
  refine mh_callVp (pc := 2) (As := [.int (Int32.ofInt (k))]) (st := []) F (by omega) (k_lacks (by omega) hF r92 (by omega) (fun j j0 j1 => (hb j j0 j1).1)) wv_RX12_390_yX12_lacks dX12_put_2 sh_81 rfl (by decide) rfl rfl (Nat.le_of_ble_eq_true rfl) ⟨Nat.zero_le _, Nat.zero_le _⟩ ?_
  refine mh_istore4 (pc := 5) F dX12_put_5 rfl (by decide) ?_
  refine mh_iload4 (pc := 7) F dX12_put_7 ?_
  refine mh_if_le (pc := 9) (tgt := 19) F dX12_put_9 rfl (by omega) (fun c_9 => ?_) (fun c_9 => ?_)
  · have hks : 0 ≤ k ∧ k ≤ 3 := by
      rcases (show (0 ≤ k ∧ k ≤ 3) ∨ ¬ (0 ≤ k ∧ k ≤ 3) by omega) with q | q
      · exact q
      · exfalso; have hq : sp_lacks k b = 1 := (by unfold sp_lacks; rw [if_pos q])
        omega
    have hbk := hb k (by omega) (by omega)
    refine mh_iload2 (pc := 19) F dX12_put_19 ?_
    refine mh_i2l (pc := 20) F dX12_put_20 (by omega) ?_
    refine mh_lconst (x := 0) (pc := 21) F dX12_put_21 rfl ?_
    refine mh_aload0 (pc := 22) F dX12_put_22 ?_
    refine mh_getr (b := 93) (pc := 23) F sh_81 (by decide) fw_RX12_44_12 dX12_put_23 rfl (fx_81_27 hF) ?_
    refine mh_iload1 (pc := 26) F dX12_put_26 ?_
    refine mh_ialoadr (pc := 27) F sh_93 (by decide) (by omega) dX12_put_27 r93 ?_
    refine mh_iconst (pc := 28) F dX12_put_28 ?_
    refine mh_isub (pc := 29) F dX12_put_29 ?_
    refine mh_i2l (pc := 30) F dX12_put_30 (by omega) ?_
    refine mh_callSp (pc := 31) (As := [.long (Int64.ofInt (i)), .long (Int64.ofInt (0)), .long (Int64.ofInt ((z k) - 1))]) (st := []) F (by omega) (k_in (by omega) (by omega) (by omega) (by omega)) ws_RX12_69 dX12_put_31 rfl rfl (Nat.le_of_ble_eq_true rfl) ⟨Nat.zero_le _, Nat.zero_le _⟩ ?_
    refine mh_ifb_ne (pc := 34) (tgt := 43) F dX12_put_34 rfl (fun c_34 => ?_) (fun c_34 => ?_)
    · refine mh_aload0 (pc := 43) F dX12_put_43 ?_
      refine mh_getr (b := 94) (pc := 44) F sh_81 (by decide) fw_RX12_47_12 dX12_put_44 rfl (fx_81_28 hF) ?_
      refine mh_bipush (pc := 47) F dX12_put_47 rfl ?_
      refine mh_iload1 (pc := 49) F dX12_put_49 ?_
      refine mh_imul (pc := 50) F dX12_put_50 ?_
      refine mh_iload2 (pc := 51) F dX12_put_51 ?_
      refine mh_iadd (pc := 52) F dX12_put_52 ?_
      refine mh_aload0 (pc := 53) F dX12_put_53 ?_
      refine mh_getr (b := 92) (pc := 54) F sh_81 (by decide) fw_RX12_41_12 dX12_put_54 rfl (fx_81_26 hF) ?_
      refine mh_iload1 (pc := 57) F dX12_put_57 ?_
      refine mh_ialoadr (pc := 58) F sh_92 (by decide) (by omega) dX12_put_58 r92 ?_
      refine mh_bipush (pc := 59) F dX12_put_59 rfl ?_
      refine mh_icmp_ne (pc := 61) (tgt := 69) F dX12_put_61 rfl (by omega) (by omega) (fun c_61 => ?_) (fun c_61 => ?_)
      · refine mh_aload0 (pc := 69) F dX12_put_69 ?_
        refine mh_getr (b := 92) (pc := 70) F sh_81 (by decide) fw_RX12_41_12 dX12_put_70 rfl (fx_81_26 hF) ?_
        refine mh_iload1 (pc := 73) F dX12_put_73 ?_
        refine mh_ialoadr (pc := 74) F sh_92 (by decide) (by omega) dX12_put_74 r92 ?_
        refine mh_bipush (pc := 75) F dX12_put_75 rfl ?_
        refine mh_icmp_ne (pc := 77) (tgt := 85) F dX12_put_77 rfl (by omega) (by omega) (fun c_77 => ?_) (fun c_77 => ?_)
        · refine mh_iload3 (pc := 85) F dX12_put_85 ?_
          refine mh_iastore (pc := 86) F sh_94 (by decide) (by omega) dX12_put_86 ?_
          refine mh_nmh (fun h1 e1 => ?_)
          have F1 : mh_FX h1 := by rw [e1]; exact hF.upa rfl
          have r85_1 : h1 85 = er := by rw [e1, mh_up_row (by decide)]; exact r85
          have r92_1 : h1 92 = b := by rw [e1, mh_up_row (by decide)]; exact r92
          have r93_1 : h1 93 = z := by rw [e1, mh_up_row (by decide)]; exact r93
          have r94_1 : h1 94 = mh_ur u ((40 * k) + i) x := by rw [e1, mh_up_rs, r94]
          have fr1 : mh_fr [94] h h1 := mh_fr.up mh_fr.rf e1
          refine mh_iconst (pc := 87) F dX12_put_87 ?_
          exact mh_ireturn F Z dX12_put_88 ⟨_, _, _, (by unfold sp_put; (repeat' split) <;> first | rfl | (exfalso; omega)), rfl, F1, (fr1.mono (by simp)), r85_1, r94_1⟩
        · refine mh_iload3 (pc := 80) F dX12_put_80 ?_
          refine mh_i2s (pc := 81) F dX12_put_81 ?_
          refine mh_goto (pc := 82) (tgt := 86) F dX12_put_82 rfl ?_
          refine mh_iastore (pc := 86) F sh_94 (by decide) (by omega) dX12_put_86 ?_
          refine mh_nmh (fun h2 e2 => ?_)
          have F2 : mh_FX h2 := by rw [e2]; exact hF.upa rfl
          have r85_2 : h2 85 = er := by rw [e2, mh_up_row (by decide)]; exact r85
          have r92_2 : h2 92 = b := by rw [e2, mh_up_row (by decide)]; exact r92
          have r93_2 : h2 93 = z := by rw [e2, mh_up_row (by decide)]; exact r93
          have r94_2 : h2 94 = mh_ur u ((40 * k) + i) (mh_i16 x) := by rw [e2, mh_up_rs, r94]
          have fr2 : mh_fr [94] h h2 := mh_fr.up mh_fr.rf e2
          refine mh_iconst (pc := 87) F dX12_put_87 ?_
          exact mh_ireturn F Z dX12_put_88 ⟨_, _, _, (by unfold sp_put; (repeat' split) <;> first | rfl | (exfalso; omega)), rfl, F2, (fr2.mono (by simp)), r85_2, r94_2⟩
      · refine mh_iload3 (pc := 64) F dX12_put_64 ?_
        refine mh_i2b (pc := 65) F dX12_put_65 ?_
        refine mh_goto (pc := 66) (tgt := 86) F dX12_put_66 rfl ?_
        refine mh_iastore (pc := 86) F sh_94 (by decide) (by omega) dX12_put_86 ?_
        refine mh_nmh (fun h3 e3 => ?_)
        have F3 : mh_FX h3 := by rw [e3]; exact hF.upa rfl
        have r85_3 : h3 85 = er := by rw [e3, mh_up_row (by decide)]; exact r85
        have r92_3 : h3 92 = b := by rw [e3, mh_up_row (by decide)]; exact r92
        have r93_3 : h3 93 = z := by rw [e3, mh_up_row (by decide)]; exact r93
        have r94_3 : h3 94 = mh_ur u ((40 * k) + i) (mh_i8 x) := by rw [e3, mh_up_rs, r94]
        have fr3 : mh_fr [94] h h3 := mh_fr.up mh_fr.rf e3
        refine mh_iconst (pc := 87) F dX12_put_87 ?_
        exact mh_ireturn F Z dX12_put_88 ⟨_, _, _, (by unfold sp_put; (repeat' split) <;> first | rfl | (exfalso; omega)), rfl, F3, (fr3.mono (by simp)), r85_3, r94_3⟩
    · refine mh_aload0 (pc := 37) F dX12_put_37 ?_
      refine mh_iconst (pc := 38) F dX12_put_38 ?_
      refine mh_callV0 (pc := 39) (As := [.int (Int32.ofInt (1))]) (st := []) F (by omega) (k_error (by omega) hF r85 (by omega)) wv_RX12_114_yX12_error dX12_put_39 sh_81 rfl (by decide) rfl rfl (Nat.le_of_ble_eq_true rfl) ⟨Nat.zero_le _, Nat.zero_le _⟩ (fun r4 h4 q4 => ?_)
      obtain ⟨rfl, F4, fr4, q4_0⟩ := q4
      have r92_5 : h4 92 = b := (fr4 _ (by decide)).trans r92
      have r93_5 : h4 93 = z := (fr4 _ (by decide)).trans r93
      have r94_5 : h4 94 = u := (fr4 _ (by decide)).trans r94
      have fr5 : mh_fr [85] h h4 := (mh_fr.tr mh_fr.rf fr4).mono (by simp)
      exact mh_ireturn F Z dX12_put_42 ⟨_, _, _, (by unfold sp_put; (repeat' split) <;> first | rfl | (exfalso; omega)), rfl, F4, (fr5.mono (by simp)), q4_0, r94_5⟩
  · refine mh_aload0 (pc := 12) F dX12_put_12 ?_
    refine mh_iload4 (pc := 13) F dX12_put_13 ?_
    refine mh_callV0 (pc := 15) (As := [.int (Int32.ofInt (sp_lacks k b))]) (st := []) F (by omega) (k_error (by omega) hF r85 (by omega)) wv_RX12_114_yX12_error dX12_put_15 sh_81 rfl (by decide) rfl rfl (Nat.le_of_ble_eq_true rfl) ⟨Nat.zero_le _, Nat.zero_le _⟩ (fun r6 h6 q6 => ?_)
    obtain ⟨rfl, F6, fr6, q6_0⟩ := q6
    have r92_7 : h6 92 = b := (fr6 _ (by decide)).trans r92
    have r93_7 : h6 93 = z := (fr6 _ (by decide)).trans r93
    have r94_7 : h6 94 = u := (fr6 _ (by decide)).trans r94
    have fr7 : mh_fr [85] h h6 := (mh_fr.tr mh_fr.rf fr6).mono (by simp)
    exact mh_ireturn F Z dX12_put_18 ⟨_, _, _, (by unfold sp_put; (repeat' split) <;> first | rfl | (exfalso; omega)), rfl, F6, (fr7.mono (by simp)), q6_0, r94_7⟩

