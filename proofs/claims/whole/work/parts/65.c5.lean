/-! a quarter of one churn -/
def sc_q7 (s c : Int → Int) (q : Int) : Int := sp_held (c 7 + sp_warms (c 1 - 3) (c 2) (sp_warm s (c 3) q)) 0 9999
def sc_sh (s c : Int → Int) : Int := if 0 ≤ c 6 ∧ c 6 ≤ 3 then s (33 + 2 * c 6 + 1) else 0
def sc_q8 (s c : Int → Int) : Int := sp_held (c 8 + sp_jolts (c 1 - 3) (c 2) (sc_sh s c)) 0 9999
def sc_arr (c : Int → Int) (x y : Int) : Int → Int := fun i => if i = 3 then c 3 + 1 else if i = 4 then (if 9 ≤ c 3 + 1 then 3 else 0) else if i = 5 then 0 else if i = 6 then -1 else if i = 7 then x else if i = 8 then y else c i
def sc_pass (s c : Int → Int) (q : Int) : Int → Int :=
  if c 9 = 1 ∨ c 4 = 3 ∨ c 4 = 1 then c
  else if c 4 = 0 then mh_ur c 7 (sc_q7 s c q)
  else if 0 < c 5 - 1 then mh_ur (mh_ur (mh_ur c 7 (sc_q7 s c q)) 8 (sc_q8 s c)) 5 (c 5 - 1)
  else sc_arr c (sc_q7 s c q) (sc_q8 s c)
def sc_pb (c : Int → Int) : Prop := c 9 ≠ 1 ∧ c 4 = 2 ∧ c 5 - 1 ≤ 0 ∧ 9 ≤ c 3 + 1
def sc_pbi (c : Int → Int) : Int := if c 9 ≠ 1 ∧ c 4 = 2 ∧ c 5 - 1 ≤ 0 ∧ 9 ≤ c 3 + 1 then 1 else 0
def sc_i8 (c : Int → Int) : Prop := c 4 ≤ 2 → c 3 ≤ 8
theorem sc_arr_eq {d c : Int → Int} {x y : Int} (e3 : d 3 = c 3 + 1) (e4 : d 4 = if 9 ≤ c 3 + 1 then 3 else 0) (e5 : d 5 = 0) (e6 : d 6 = -1) (e7 : d 7 = x) (e8 : d 8 = y) (eo : ∀ i, i ≠ 3 → i ≠ 4 → i ≠ 5 → i ≠ 6 → i ≠ 7 → i ≠ 8 → d i = c i) : d = sc_arr c x y := by
  funext i
  unfold sc_arr
  split
  · rename_i z; rw [z]; exact e3
  · split
    · rename_i z; rw [z]; exact e4
    · split
      · rename_i z; rw [z]; exact e5
      · split
        · rename_i z; rw [z]; exact e6
        · split
          · rename_i z; rw [z]; exact e7
          · split
            · rename_i z; rw [z]; exact e8
            · exact eo i (by assumption) (by assumption) (by assumption) (by assumption) (by assumption) (by assumption)
theorem sc_sh_rg {s c : Int → Int} (hh : sp_hok s) : 0 ≤ sc_sh s c ∧ sc_sh s c ≤ 20 := by
  unfold sc_sh
  split
  · exact (hh.2 (c 6) (by omega) (by omega)).2
  · decide
set_option maxRecDepth 100000 in
set_option maxHeartbeats 2000000 in
theorem k5_pass {g : mh_G} {d : Nat} (hd : 12 ≤ d) {h : Nat → Int → Int} (hF : mh_FX h) {A : Nat} {s : Int → Int} {q : Int} {c : Int → Int} (rA : h A = c) {sk : Int → Int} (r30 : h 30 = sk) (zA : sc_A A) (hc : sc_ok c) (hL : sc_L h 25 s) (hh : sp_hok s) (hq : 0 ≤ q ∧ q ≤ 100000) (hi8 : sc_i8 c) : mh_M g d yX10_pass cX10_pass 4 (some .boolean) 96 0 0 [.ref 25, .ref A, .int (Int32.ofInt (q))] h (fun r h2 => r = some (.int (Int32.ofInt (sc_pbi c))) ∧ mh_FX h2 ∧ mh_fr [A, 36] h h2 ∧ h2 A = sc_pass s c q) := by
  refine mh_M_of RX10 rfl (by decide +kernel) [some (.ref 25), some (.ref A), some (.int (Int32.ofInt (q))), none] rfl (Nat.le_of_ble_eq_true rfl) (fun f F Z hn0 hR => ?_)
  have hA1 := zA.rg
  obtain ⟨c1, c2, c3, c4, c5, c6, c7, c8, c9⟩ := id hc
  refine mh_aload1 (pc := 0) F dX10_pass_0 ?_
  refine mh_getir (pc := 1) F zA.sh zA.lt fw_RX10_137_0 dX10_pass_1 rfl rA ?_
  refine mh_if_ne (pc := 4) (tgt := 23) F dX10_pass_4 rfl (by omega) (fun c_4 => ?_) (fun c_4 => ?_)
  · refine mh_iconst (pc := 23) F dX10_pass_23 ?_
    exact mh_zreturn F Z dX10_pass_24 (by omega) ⟨mh_sv (by unfold sc_pbi; first | (rw [if_pos (by omega)]; done) | (rw [if_neg (by omega)]; done)), hF, (mh_fr.rf.mono (by simp)), rA.trans (by unfold sc_pass; rw [if_pos (by omega)])⟩
  · refine mh_aload1 (pc := 7) F dX10_pass_7 ?_
    refine mh_getir (pc := 8) F zA.sh zA.lt fw_RX10_133_0 dX10_pass_8 rfl rA ?_
    refine mh_iconst (pc := 11) F dX10_pass_11 ?_
    refine mh_icmp_eq (pc := 12) (tgt := 23) F dX10_pass_12 rfl (by omega) (by omega) (fun c_12 => ?_) (fun c_12 => ?_)
    · refine mh_iconst (pc := 23) F dX10_pass_23 ?_
      exact mh_zreturn F Z dX10_pass_24 (by omega) ⟨mh_sv (by unfold sc_pbi; first | (rw [if_pos (by omega)]; done) | (rw [if_neg (by omega)]; done)), hF, (mh_fr.rf.mono (by simp)), rA.trans (by unfold sc_pass; rw [if_pos (by omega)])⟩
    · refine mh_aload1 (pc := 15) F dX10_pass_15 ?_
      refine mh_getir (pc := 16) F zA.sh zA.lt fw_RX10_133_0 dX10_pass_16 rfl rA ?_
      refine mh_iconst (pc := 19) F dX10_pass_19 ?_
      refine mh_icmp_ne (pc := 20) (tgt := 25) F dX10_pass_20 rfl (by omega) (by omega) (fun c_20 => ?_) (fun c_20 => ?_)
      · have h38 := hi8 (by omega)
        refine mh_aload1 (pc := 25) F dX10_pass_25 ?_
        refine mh_aload1 (pc := 26) F dX10_pass_26 ?_
        refine mh_getr (b := 2 + (c 1 - 3).toNat) (pc := 27) F zA.sh zA.lt fw_RX10_156_0 dX10_pass_27 rfl (by rw [rA]; omega) ?_
        refine mh_aload0 (pc := 30) F dX10_pass_30 ?_
        refine mh_aload1 (pc := 31) F dX10_pass_31 ?_
        refine mh_getir (pc := 32) F zA.sh zA.lt fw_RX10_119_0 dX10_pass_32 rfl rA ?_
        refine mh_iload2 (pc := 35) F dX10_pass_35 ?_
        refine mh_callV0 (pc := 36) (As := [.int (Int32.ofInt (c 3)), .int (Int32.ofInt (q))]) (st := [.ref (2 + (c 1 - 3).toNat), .ref A]) F (by omega) (k4_warm (by omega) hF hL (by omega) (by omega) hh) wv_RX10_160_yX10_warm dX10_pass_36 sh_25 rfl (by decide) rfl rfl (Nat.le_of_ble_eq_true rfl) ⟨Nat.zero_le _, Nat.zero_le _⟩ (fun r1 h1 q1 => ?_)
        obtain ⟨rfl, F1, fr1⟩ := q1
        have rA_2 : h1 A = c := (fr1 _ (by simp; omega)).trans rA
        have r30_2 : h1 30 = sk := (fr1 _ (by decide)).trans r30
        have fr2 : mh_fr [36] h h1 := (mh_fr.tr mh_fr.rf fr1).mono (by simp)
        refine mh_top (y := sp_warm s (c 3) q) (mh_eqI (if_pos (by omega))) ?_
        have hwm : 0 ≤ sp_warm s (c 3) q ∧ sp_warm s (c 3) q ≤ 40 := sp_law_rg0
        refine mh_aload1 (pc := 39) F dX10_pass_39 ?_
        refine mh_getir (pc := 40) F zA.sh zA.lt fw_RX10_116_0 dX10_pass_40 rfl rA_2 ?_
        refine kd_warms_RX10_163 (pc := 43) F (by omega) (k := (c 1 - 3)) (by omega) (by omega) (by omega) dX10_pass_43 rfl (Nat.le_of_ble_eq_true rfl) ⟨Nat.zero_le _, Nat.zero_le _⟩ ?_
        have hwr := sp_warms_rg (k := c 1 - 3) c2 hwm
        refine mh_callV0 (pc := 46) (As := [.int (Int32.ofInt (sp_warms (c 1 - 3) (c 2) (sp_warm s (c 3) q)))]) (st := []) F (by omega) (k0_sourBy (by omega) F1 rA_2 zA hc (by omega)) wv_RX10_141_yX0_sourBy dX10_pass_46 zA.sh rfl zA.lt rfl rfl (Nat.le_of_ble_eq_true rfl) ⟨Nat.zero_le _, Nat.zero_le _⟩ (fun r3 h3 q3 => ?_)
        obtain ⟨rfl, F3, fr3, q3_0⟩ := q3
        have r30_4 : h3 30 = sk := (fr3 _ (by simp; omega)).trans r30_2
        have fr4 : mh_fr [A, 36] h h3 := (mh_fr.tr fr2 fr3).mono (by simp)
        obtain ⟨d1, ed1⟩ : ∃ z : Int → Int, z = mh_ur c 7 (sp_held (c 7 + (sp_warms (c 1 - 3) (c 2) (sp_warm s (c 3) q))) 0 9999) := ⟨_, rfl⟩
        rw [← ed1] at q3_0
        have d1_0 : d1 0 = c 0 := by rw [ed1]; exact mh_ur_ne (by decide)
        have d1_1 : d1 1 = c 1 := by rw [ed1]; exact mh_ur_ne (by decide)
        have d1_2 : d1 2 = c 2 := by rw [ed1]; exact mh_ur_ne (by decide)
        have d1_3 : d1 3 = c 3 := by rw [ed1]; exact mh_ur_ne (by decide)
        have d1_4 : d1 4 = c 4 := by rw [ed1]; exact mh_ur_ne (by decide)
        have d1_5 : d1 5 = c 5 := by rw [ed1]; exact mh_ur_ne (by decide)
        have d1_6 : d1 6 = c 6 := by rw [ed1]; exact mh_ur_ne (by decide)
        have d1_8 : d1 8 = c 8 := by rw [ed1]; exact mh_ur_ne (by decide)
        have d1_9 : d1 9 = c 9 := by rw [ed1]; exact mh_ur_ne (by decide)
        have d1_o : ∀ i, i ≠ 7 → d1 i = c i := fun i hi => by rw [ed1]; exact mh_ur_ne hi
        have d1_7 : d1 7 = sc_q7 s c q := by rw [ed1]; exact mh_ur_eq rfl
        have hd1r : 0 ≤ d1 7 ∧ d1 7 ≤ 9999 := by rw [ed1, mh_ur_eq rfl]; exact sp_held_rg (by decide)
        have hcd1 : sc_ok d1 := by unfold sc_ok; omega
        have hsr := sc_sh_rg (s := s) (c := c) hh
        have hjl := sp_jolts_rg (k := d1 1 - 3) (m := d1 2) (v := sc_sh s c) (by omega) hsr
        refine mh_aload1 (pc := 49) F dX10_pass_49 ?_
        refine mh_getir (pc := 50) F zA.sh zA.lt fw_RX10_133_0 dX10_pass_50 rfl q3_0 ?_
        refine mh_if_ne (pc := 53) (tgt := 58) F dX10_pass_53 rfl (by omega) (fun c_53 => ?_) (fun c_53 => ?_)
        · refine mh_aload1 (pc := 58) F dX10_pass_58 ?_
          refine mh_getir (pc := 59) F zA.sh zA.lt fw_RX10_168_0 dX10_pass_59 rfl q3_0 ?_
          refine mh_callNp (pc := 62) (As := [.int (Int32.ofInt (d1 6))]) (st := []) F (by omega) (k4_isCarrier (by omega) (by omega)) wn_RX10_171 dX10_pass_62 rfl rfl (Nat.le_of_ble_eq_true rfl) ⟨Nat.zero_le _, Nat.zero_le _⟩ ?_
          refine mh_ifb_eq (pc := 65) (tgt := 80) F dX10_pass_65 rfl (fun c_65 => ?_) (fun c_65 => ?_)
          · refine mh_iconst (pc := 80) F dX10_pass_80 ?_
            refine mh_top (y := sc_sh s c) (mh_eqI (by unfold sc_sh; first | (rw [if_pos (by omega), d1_6]; exact (hL.2.1 (c 6) (by omega) (by omega)).2) | (rw [if_neg (by omega)]))) ?_
            refine mh_istore3 (pc := 81) F dX10_pass_81 rfl (by decide) ?_
            refine mh_aload1 (pc := 82) F dX10_pass_82 ?_
            refine mh_aload1 (pc := 83) F dX10_pass_83 ?_
            refine mh_getr (b := 2 + (d1 1 - 3).toNat) (pc := 84) F zA.sh zA.lt fw_RX10_156_0 dX10_pass_84 rfl (by rw [q3_0]; omega) ?_
            refine mh_iload3 (pc := 87) F dX10_pass_87 ?_
            refine mh_aload1 (pc := 88) F dX10_pass_88 ?_
            refine mh_getir (pc := 89) F zA.sh zA.lt fw_RX10_116_0 dX10_pass_89 rfl q3_0 ?_
            refine kd_jolts_RX10_175 (pc := 92) F (by omega) (k := (d1 1 - 3)) (by omega) (by omega) (by omega) dX10_pass_92 rfl (Nat.le_of_ble_eq_true rfl) ⟨Nat.zero_le _, Nat.zero_le _⟩ ?_
            refine mh_callV0 (pc := 95) (As := [.int (Int32.ofInt (sp_jolts (d1 1 - 3) (d1 2) (sc_sh s c)))]) (st := []) F (by omega) (k0_shakeBy (by omega) F3 q3_0 zA hcd1 (by omega)) wv_RX10_178_yX0_shakeBy dX10_pass_95 zA.sh rfl zA.lt rfl rfl (Nat.le_of_ble_eq_true rfl) ⟨Nat.zero_le _, Nat.zero_le _⟩ (fun r5 h5 q5 => ?_)
            obtain ⟨rfl, F5, fr5, q5_0⟩ := q5
            have r30_6 : h5 30 = sk := (fr5 _ (by simp; omega)).trans r30_4
            have fr6 : mh_fr [A, 36] h h5 := (mh_fr.tr fr4 fr5).mono (by simp)
            obtain ⟨d2, ed2⟩ : ∃ z : Int → Int, z = mh_ur d1 8 (sp_held (d1 8 + (sp_jolts (d1 1 - 3) (d1 2) (sc_sh s c))) 0 9999) := ⟨_, rfl⟩
            rw [← ed2] at q5_0
            have d2_0 : d2 0 = d1 0 := by rw [ed2]; exact mh_ur_ne (by decide)
            have d2_1 : d2 1 = d1 1 := by rw [ed2]; exact mh_ur_ne (by decide)
            have d2_2 : d2 2 = d1 2 := by rw [ed2]; exact mh_ur_ne (by decide)
            have d2_3 : d2 3 = d1 3 := by rw [ed2]; exact mh_ur_ne (by decide)
            have d2_4 : d2 4 = d1 4 := by rw [ed2]; exact mh_ur_ne (by decide)
            have d2_5 : d2 5 = d1 5 := by rw [ed2]; exact mh_ur_ne (by decide)
            have d2_6 : d2 6 = d1 6 := by rw [ed2]; exact mh_ur_ne (by decide)
            have d2_7 : d2 7 = d1 7 := by rw [ed2]; exact mh_ur_ne (by decide)
            have d2_9 : d2 9 = d1 9 := by rw [ed2]; exact mh_ur_ne (by decide)
            have d2_o : ∀ i, i ≠ 8 → d2 i = d1 i := fun i hi => by rw [ed2]; exact mh_ur_ne hi
            have d2_8 : d2 8 = sc_q8 s c := by rw [ed2, mh_ur_eq rfl, d1_1, d1_2, d1_8]; rfl
            have hd2r : 0 ≤ d2 8 ∧ d2 8 ≤ 9999 := by rw [ed2, mh_ur_eq rfl]; exact sp_held_rg (by decide)
            have hcd2 : sc_ok d2 := by unfold sc_ok; omega
            refine mh_aload1 (pc := 98) F dX10_pass_98 ?_
            refine mh_dup (pc := 99) F dX10_pass_99 rfl ?_
            refine mh_getir (pc := 100) F zA.sh zA.lt fw_RX10_181_0 dX10_pass_100 rfl q5_0 ?_
            refine mh_iconst (pc := 103) F dX10_pass_103 ?_
            refine mh_isub (pc := 104) F dX10_pass_104 ?_
            refine mh_puti (pc := 105) F zA.sh zA.lt pw_RX10_181_0 dX10_pass_105 ?_
            refine mh_nmh (fun h7 e7 => ?_)
            have F7 : mh_FX h7 := by rw [e7]; exact F5.ups zA.fx
            have r30_7 : h7 30 = sk := by rw [e7, mh_up_row (by omega)]; exact r30_6
            have rA_7 : h7 A = mh_ur d2 5 ((d2 5) - 1) := by rw [e7, mh_up_rs, q5_0]
            obtain ⟨d3, ed3⟩ : ∃ z : Int → Int, z = mh_ur d2 5 ((d2 5) - 1) := ⟨_, rfl⟩
            rw [← ed3] at rA_7
            have fr7 : mh_fr [A, 36] h h7 := mh_fr.upi fr6 e7 (by simp)
            have d3_0 : d3 0 = d2 0 := by rw [ed3]; exact mh_ur_ne (by decide)
            have d3_1 : d3 1 = d2 1 := by rw [ed3]; exact mh_ur_ne (by decide)
            have d3_2 : d3 2 = d2 2 := by rw [ed3]; exact mh_ur_ne (by decide)
            have d3_3 : d3 3 = d2 3 := by rw [ed3]; exact mh_ur_ne (by decide)
            have d3_4 : d3 4 = d2 4 := by rw [ed3]; exact mh_ur_ne (by decide)
            have d3_6 : d3 6 = d2 6 := by rw [ed3]; exact mh_ur_ne (by decide)
            have d3_7 : d3 7 = d2 7 := by rw [ed3]; exact mh_ur_ne (by decide)
            have d3_8 : d3 8 = d2 8 := by rw [ed3]; exact mh_ur_ne (by decide)
            have d3_9 : d3 9 = d2 9 := by rw [ed3]; exact mh_ur_ne (by decide)
            have d3_o : ∀ i, i ≠ 5 → d3 i = d2 i := fun i hi => by rw [ed3]; exact mh_ur_ne hi
            have d3_5 : d3 5 = c 5 - 1 := by rw [ed3, mh_ur_eq rfl]; omega
            refine mh_aload1 (pc := 108) F dX10_pass_108 ?_
            refine mh_getir (pc := 109) F zA.sh zA.lt fw_RX10_181_0 dX10_pass_109 rfl rA_7 ?_
            refine mh_if_le (pc := 112) (tgt := 117) F dX10_pass_112 rfl (by omega) (fun c_112 => ?_) (fun c_112 => ?_)
            · refine mh_aload1 (pc := 117) F dX10_pass_117 ?_
              refine mh_iconst (pc := 118) F dX10_pass_118 ?_
              refine mh_puti (pc := 119) F zA.sh zA.lt pw_RX10_181_0 dX10_pass_119 ?_
              refine mh_nmh (fun h8 e8 => ?_)
              have F8 : mh_FX h8 := by rw [e8]; exact F7.ups zA.fx
              have r30_8 : h8 30 = sk := by rw [e8, mh_up_row (by omega)]; exact r30_7
              have rA_8 : h8 A = mh_ur d3 5 0 := by rw [e8, mh_up_rs, rA_7]
              obtain ⟨d4, ed4⟩ : ∃ z : Int → Int, z = mh_ur d3 5 0 := ⟨_, rfl⟩
              rw [← ed4] at rA_8
              have fr8 : mh_fr [A, 36] h h8 := mh_fr.upi fr7 e8 (by simp)
              have d4_0 : d4 0 = d3 0 := by rw [ed4]; exact mh_ur_ne (by decide)
              have d4_1 : d4 1 = d3 1 := by rw [ed4]; exact mh_ur_ne (by decide)
              have d4_2 : d4 2 = d3 2 := by rw [ed4]; exact mh_ur_ne (by decide)
              have d4_3 : d4 3 = d3 3 := by rw [ed4]; exact mh_ur_ne (by decide)
              have d4_4 : d4 4 = d3 4 := by rw [ed4]; exact mh_ur_ne (by decide)
              have d4_6 : d4 6 = d3 6 := by rw [ed4]; exact mh_ur_ne (by decide)
              have d4_7 : d4 7 = d3 7 := by rw [ed4]; exact mh_ur_ne (by decide)
              have d4_8 : d4 8 = d3 8 := by rw [ed4]; exact mh_ur_ne (by decide)
              have d4_9 : d4 9 = d3 9 := by rw [ed4]; exact mh_ur_ne (by decide)
              have d4_o : ∀ i, i ≠ 5 → d4 i = d3 i := fun i hi => by rw [ed4]; exact mh_ur_ne hi
              have d4_5 : d4 5 = 0 := by rw [ed4]; exact mh_ur_eq rfl
              refine mh_aload1 (pc := 122) F dX10_pass_122 ?_
              refine mh_iconst (pc := 123) F dX10_pass_123 ?_
              refine mh_puti (pc := 124) F zA.sh zA.lt pw_RX10_168_0 dX10_pass_124 ?_
              refine mh_nmh (fun h9 e9 => ?_)
              have F9 : mh_FX h9 := by rw [e9]; exact F8.ups zA.fx
              have r30_9 : h9 30 = sk := by rw [e9, mh_up_row (by omega)]; exact r30_8
              have rA_9 : h9 A = mh_ur d4 6 (-1) := by rw [e9, mh_up_rs, rA_8]
              obtain ⟨d5, ed5⟩ : ∃ z : Int → Int, z = mh_ur d4 6 (-1) := ⟨_, rfl⟩
              rw [← ed5] at rA_9
              have fr9 : mh_fr [A, 36] h h9 := mh_fr.upi fr8 e9 (by simp)
              have d5_0 : d5 0 = d4 0 := by rw [ed5]; exact mh_ur_ne (by decide)
              have d5_1 : d5 1 = d4 1 := by rw [ed5]; exact mh_ur_ne (by decide)
              have d5_2 : d5 2 = d4 2 := by rw [ed5]; exact mh_ur_ne (by decide)
              have d5_3 : d5 3 = d4 3 := by rw [ed5]; exact mh_ur_ne (by decide)
              have d5_4 : d5 4 = d4 4 := by rw [ed5]; exact mh_ur_ne (by decide)
              have d5_5 : d5 5 = d4 5 := by rw [ed5]; exact mh_ur_ne (by decide)
              have d5_7 : d5 7 = d4 7 := by rw [ed5]; exact mh_ur_ne (by decide)
              have d5_8 : d5 8 = d4 8 := by rw [ed5]; exact mh_ur_ne (by decide)
              have d5_9 : d5 9 = d4 9 := by rw [ed5]; exact mh_ur_ne (by decide)
              have d5_o : ∀ i, i ≠ 6 → d5 i = d4 i := fun i hi => by rw [ed5]; exact mh_ur_ne hi
              have d5_6 : d5 6 = -1 := by rw [ed5]; exact mh_ur_eq rfl
              refine mh_aload1 (pc := 127) F dX10_pass_127 ?_
              refine mh_dup (pc := 128) F dX10_pass_128 rfl ?_
              refine mh_getir (pc := 129) F zA.sh zA.lt fw_RX10_119_0 dX10_pass_129 rfl rA_9 ?_
              refine mh_iconst (pc := 132) F dX10_pass_132 ?_
              refine mh_iadd (pc := 133) F dX10_pass_133 ?_
              refine mh_puti (pc := 134) F zA.sh zA.lt pw_RX10_119_0 dX10_pass_134 ?_
              refine mh_nmh (fun h10 e10 => ?_)
              have F10 : mh_FX h10 := by rw [e10]; exact F9.ups zA.fx
              have r30_10 : h10 30 = sk := by rw [e10, mh_up_row (by omega)]; exact r30_9
              have rA_10 : h10 A = mh_ur d5 3 ((d5 3) + 1) := by rw [e10, mh_up_rs, rA_9]
              obtain ⟨d6, ed6⟩ : ∃ z : Int → Int, z = mh_ur d5 3 ((d5 3) + 1) := ⟨_, rfl⟩
              rw [← ed6] at rA_10
              have fr10 : mh_fr [A, 36] h h10 := mh_fr.upi fr9 e10 (by simp)
              have d6_0 : d6 0 = d5 0 := by rw [ed6]; exact mh_ur_ne (by decide)
              have d6_1 : d6 1 = d5 1 := by rw [ed6]; exact mh_ur_ne (by decide)
              have d6_2 : d6 2 = d5 2 := by rw [ed6]; exact mh_ur_ne (by decide)
              have d6_4 : d6 4 = d5 4 := by rw [ed6]; exact mh_ur_ne (by decide)
              have d6_5 : d6 5 = d5 5 := by rw [ed6]; exact mh_ur_ne (by decide)
              have d6_6 : d6 6 = d5 6 := by rw [ed6]; exact mh_ur_ne (by decide)
              have d6_7 : d6 7 = d5 7 := by rw [ed6]; exact mh_ur_ne (by decide)
              have d6_8 : d6 8 = d5 8 := by rw [ed6]; exact mh_ur_ne (by decide)
              have d6_9 : d6 9 = d5 9 := by rw [ed6]; exact mh_ur_ne (by decide)
              have d6_o : ∀ i, i ≠ 3 → d6 i = d5 i := fun i hi => by rw [ed6]; exact mh_ur_ne hi
              have d6_3 : d6 3 = c 3 + 1 := by rw [ed6, mh_ur_eq rfl]; omega
              refine mh_aload1 (pc := 137) F dX10_pass_137 ?_
              refine mh_aload1 (pc := 138) F dX10_pass_138 ?_
              refine mh_getir (pc := 139) F zA.sh zA.lt fw_RX10_119_0 dX10_pass_139 rfl rA_10 ?_
              refine mh_bipush (pc := 142) F dX10_pass_142 rfl ?_
              refine mh_icmp_lt (pc := 144) (tgt := 151) F dX10_pass_144 rfl (by omega) (by omega) (fun c_144 => ?_) (fun c_144 => ?_)
              · refine mh_iconst (pc := 151) F dX10_pass_151 ?_
                refine mh_puti (pc := 152) F zA.sh zA.lt pw_RX10_133_0 dX10_pass_152 ?_
                refine mh_nmh (fun h11 e11 => ?_)
                have F11 : mh_FX h11 := by rw [e11]; exact F10.ups zA.fx
                have r30_11 : h11 30 = sk := by rw [e11, mh_up_row (by omega)]; exact r30_10
                have rA_11 : h11 A = mh_ur d6 4 0 := by rw [e11, mh_up_rs, rA_10]
                obtain ⟨d7, ed7⟩ : ∃ z : Int → Int, z = mh_ur d6 4 0 := ⟨_, rfl⟩
                rw [← ed7] at rA_11
                have fr11 : mh_fr [A, 36] h h11 := mh_fr.upi fr10 e11 (by simp)
                have d7_0 : d7 0 = d6 0 := by rw [ed7]; exact mh_ur_ne (by decide)
                have d7_1 : d7 1 = d6 1 := by rw [ed7]; exact mh_ur_ne (by decide)
                have d7_2 : d7 2 = d6 2 := by rw [ed7]; exact mh_ur_ne (by decide)
                have d7_3 : d7 3 = d6 3 := by rw [ed7]; exact mh_ur_ne (by decide)
                have d7_5 : d7 5 = d6 5 := by rw [ed7]; exact mh_ur_ne (by decide)
                have d7_6 : d7 6 = d6 6 := by rw [ed7]; exact mh_ur_ne (by decide)
                have d7_7 : d7 7 = d6 7 := by rw [ed7]; exact mh_ur_ne (by decide)
                have d7_8 : d7 8 = d6 8 := by rw [ed7]; exact mh_ur_ne (by decide)
                have d7_9 : d7 9 = d6 9 := by rw [ed7]; exact mh_ur_ne (by decide)
                have d7_o : ∀ i, i ≠ 4 → d7 i = d6 i := fun i hi => by rw [ed7]; exact mh_ur_ne hi
                have d7_4 : d7 4 = if 9 ≤ c 3 + 1 then 3 else 0 := by rw [ed7, mh_ur_eq rfl]; first | (rw [if_pos (by omega)]; done) | (rw [if_neg (by omega)]; done)
                have hfin : d7 = sc_arr c (sc_q7 s c q) (sc_q8 s c) := sc_arr_eq (by omega) d7_4 (by omega) (by omega) (by omega) (by omega) (fun i i3 i4 i5 i6 i7 i8 => (d7_o i i4).trans ((d6_o i i3).trans ((d5_o i i6).trans ((d4_o i i5).trans ((d3_o i i5).trans ((d2_o i i8).trans (d1_o i i7)))))))
                have hd74 : d7 4 = 3 ∨ d7 4 = 0 := by rw [d7_4]; split; exact Or.inl rfl; exact Or.inr rfl
                refine mh_aload1 (pc := 155) F dX10_pass_155 ?_
                refine mh_getir (pc := 156) F zA.sh zA.lt fw_RX10_133_0 dX10_pass_156 rfl rA_11 ?_
                refine mh_iconst (pc := 159) F dX10_pass_159 ?_
                refine mh_icmp_ne (pc := 160) (tgt := 167) F dX10_pass_160 rfl (by omega) (by omega) (fun c_160 => ?_) (fun c_160 => ?_)
                · refine mh_iconst (pc := 167) F dX10_pass_167 ?_
                  exact mh_zreturn F Z dX10_pass_168 (by omega) ⟨mh_sv (by unfold sc_pbi; first | (rw [if_pos (by omega)]; done) | (rw [if_neg (by omega)]; done)), F11, (fr11.mono (by simp)), rA_11.trans (by unfold sc_pass; rw [if_neg (by omega), if_neg (by omega), if_neg (by omega)]; exact hfin)⟩
                · refine mh_iconst (pc := 163) F dX10_pass_163 ?_
                  refine mh_goto (pc := 164) (tgt := 168) F dX10_pass_164 rfl ?_
                  exact mh_zreturn F Z dX10_pass_168 (by omega) ⟨mh_sv (by unfold sc_pbi; first | (rw [if_pos (by omega)]; done) | (rw [if_neg (by omega)]; done)), F11, (fr11.mono (by simp)), rA_11.trans (by unfold sc_pass; rw [if_neg (by omega), if_neg (by omega), if_neg (by omega)]; exact hfin)⟩
              · refine mh_iconst (pc := 147) F dX10_pass_147 ?_
                refine mh_goto (pc := 148) (tgt := 152) F dX10_pass_148 rfl ?_
                refine mh_puti (pc := 152) F zA.sh zA.lt pw_RX10_133_0 dX10_pass_152 ?_
                refine mh_nmh (fun h12 e12 => ?_)
                have F12 : mh_FX h12 := by rw [e12]; exact F10.ups zA.fx
                have r30_12 : h12 30 = sk := by rw [e12, mh_up_row (by omega)]; exact r30_10
                have rA_12 : h12 A = mh_ur d6 4 3 := by rw [e12, mh_up_rs, rA_10]
                obtain ⟨d7, ed7⟩ : ∃ z : Int → Int, z = mh_ur d6 4 3 := ⟨_, rfl⟩
                rw [← ed7] at rA_12
                have fr12 : mh_fr [A, 36] h h12 := mh_fr.upi fr10 e12 (by simp)
                have d7_0 : d7 0 = d6 0 := by rw [ed7]; exact mh_ur_ne (by decide)
                have d7_1 : d7 1 = d6 1 := by rw [ed7]; exact mh_ur_ne (by decide)
                have d7_2 : d7 2 = d6 2 := by rw [ed7]; exact mh_ur_ne (by decide)
                have d7_3 : d7 3 = d6 3 := by rw [ed7]; exact mh_ur_ne (by decide)
                have d7_5 : d7 5 = d6 5 := by rw [ed7]; exact mh_ur_ne (by decide)
                have d7_6 : d7 6 = d6 6 := by rw [ed7]; exact mh_ur_ne (by decide)
                have d7_7 : d7 7 = d6 7 := by rw [ed7]; exact mh_ur_ne (by decide)
                have d7_8 : d7 8 = d6 8 := by rw [ed7]; exact mh_ur_ne (by decide)
                have d7_9 : d7 9 = d6 9 := by rw [ed7]; exact mh_ur_ne (by decide)
                have d7_o : ∀ i, i ≠ 4 → d7 i = d6 i := fun i hi => by rw [ed7]; exact mh_ur_ne hi
                have d7_4 : d7 4 = if 9 ≤ c 3 + 1 then 3 else 0 := by rw [ed7, mh_ur_eq rfl]; first | (rw [if_pos (by omega)]; done) | (rw [if_neg (by omega)]; done)
                have hfin : d7 = sc_arr c (sc_q7 s c q) (sc_q8 s c) := sc_arr_eq (by omega) d7_4 (by omega) (by omega) (by omega) (by omega) (fun i i3 i4 i5 i6 i7 i8 => (d7_o i i4).trans ((d6_o i i3).trans ((d5_o i i6).trans ((d4_o i i5).trans ((d3_o i i5).trans ((d2_o i i8).trans (d1_o i i7)))))))
                have hd74 : d7 4 = 3 ∨ d7 4 = 0 := by rw [d7_4]; split; exact Or.inl rfl; exact Or.inr rfl
                refine mh_aload1 (pc := 155) F dX10_pass_155 ?_
                refine mh_getir (pc := 156) F zA.sh zA.lt fw_RX10_133_0 dX10_pass_156 rfl rA_12 ?_
                refine mh_iconst (pc := 159) F dX10_pass_159 ?_
                refine mh_icmp_ne (pc := 160) (tgt := 167) F dX10_pass_160 rfl (by omega) (by omega) (fun c_160 => ?_) (fun c_160 => ?_)
                · refine mh_iconst (pc := 167) F dX10_pass_167 ?_
                  exact mh_zreturn F Z dX10_pass_168 (by omega) ⟨mh_sv (by unfold sc_pbi; first | (rw [if_pos (by omega)]; done) | (rw [if_neg (by omega)]; done)), F12, (fr12.mono (by simp)), rA_12.trans (by unfold sc_pass; rw [if_neg (by omega), if_neg (by omega), if_neg (by omega)]; exact hfin)⟩
                · refine mh_iconst (pc := 163) F dX10_pass_163 ?_
                  refine mh_goto (pc := 164) (tgt := 168) F dX10_pass_164 rfl ?_
                  exact mh_zreturn F Z dX10_pass_168 (by omega) ⟨mh_sv (by unfold sc_pbi; first | (rw [if_pos (by omega)]; done) | (rw [if_neg (by omega)]; done)), F12, (fr12.mono (by simp)), rA_12.trans (by unfold sc_pass; rw [if_neg (by omega), if_neg (by omega), if_neg (by omega)]; exact hfin)⟩
            · refine mh_iconst (pc := 115) F dX10_pass_115 ?_
              exact mh_zreturn F Z dX10_pass_116 (by omega) ⟨mh_sv (by unfold sc_pbi; first | (rw [if_pos (by omega)]; done) | (rw [if_neg (by omega)]; done)), F7, (fr7.mono (by simp)), rA_7.trans (by unfold sc_pass; rw [if_neg (by omega), if_neg (by omega), if_pos (by omega)]; rw [ed3, show d2 5 - 1 = c 5 - 1 by omega, ed2, show sp_held (d1 8 + sp_jolts (d1 1 - 3) (d1 2) (sc_sh s c)) 0 9999 = sc_q8 s c by (unfold sc_q8; rw [d1_8, d1_1, d1_2]), ed1]; rfl)⟩
          · refine mh_aload0 (pc := 68) F dX10_pass_68 ?_
            refine mh_getr (b := 30) (pc := 69) F sh_25 (by decide) fw_RX10_24_10 dX10_pass_69 rfl (fx_25_4 F3) ?_
            refine mh_aload1 (pc := 72) F dX10_pass_72 ?_
            refine mh_getir (pc := 73) F zA.sh zA.lt fw_RX10_168_0 dX10_pass_73 rfl q3_0 ?_
            refine mh_ialoadr (pc := 76) F sh_30 (by decide) (by omega) dX10_pass_76 r30_4 ?_
            refine mh_goto (pc := 77) (tgt := 81) F dX10_pass_77 rfl ?_
            refine mh_top (y := sc_sh s c) (mh_eqI (by unfold sc_sh; rw [if_pos (by omega), d1_6, ← r30]; exact (hL.2.1 (c 6) (by omega) (by omega)).2)) ?_
            refine mh_istore3 (pc := 81) F dX10_pass_81 rfl (by decide) ?_
            refine mh_aload1 (pc := 82) F dX10_pass_82 ?_
            refine mh_aload1 (pc := 83) F dX10_pass_83 ?_
            refine mh_getr (b := 2 + (d1 1 - 3).toNat) (pc := 84) F zA.sh zA.lt fw_RX10_156_0 dX10_pass_84 rfl (by rw [q3_0]; omega) ?_
            refine mh_iload3 (pc := 87) F dX10_pass_87 ?_
            refine mh_aload1 (pc := 88) F dX10_pass_88 ?_
            refine mh_getir (pc := 89) F zA.sh zA.lt fw_RX10_116_0 dX10_pass_89 rfl q3_0 ?_
            refine kd_jolts_RX10_175 (pc := 92) F (by omega) (k := (d1 1 - 3)) (by omega) (by omega) (by omega) dX10_pass_92 rfl (Nat.le_of_ble_eq_true rfl) ⟨Nat.zero_le _, Nat.zero_le _⟩ ?_
            refine mh_callV0 (pc := 95) (As := [.int (Int32.ofInt (sp_jolts (d1 1 - 3) (d1 2) (sc_sh s c)))]) (st := []) F (by omega) (k0_shakeBy (by omega) F3 q3_0 zA hcd1 (by omega)) wv_RX10_178_yX0_shakeBy dX10_pass_95 zA.sh rfl zA.lt rfl rfl (Nat.le_of_ble_eq_true rfl) ⟨Nat.zero_le _, Nat.zero_le _⟩ (fun r13 h13 q13 => ?_)
            obtain ⟨rfl, F13, fr13, q13_0⟩ := q13
            have r30_14 : h13 30 = sk := (fr13 _ (by simp; omega)).trans r30_4
            have fr14 : mh_fr [A, 36] h h13 := (mh_fr.tr fr4 fr13).mono (by simp)
            obtain ⟨d2, ed2⟩ : ∃ z : Int → Int, z = mh_ur d1 8 (sp_held (d1 8 + (sp_jolts (d1 1 - 3) (d1 2) (sc_sh s c))) 0 9999) := ⟨_, rfl⟩
            rw [← ed2] at q13_0
            have d2_0 : d2 0 = d1 0 := by rw [ed2]; exact mh_ur_ne (by decide)
            have d2_1 : d2 1 = d1 1 := by rw [ed2]; exact mh_ur_ne (by decide)
            have d2_2 : d2 2 = d1 2 := by rw [ed2]; exact mh_ur_ne (by decide)
            have d2_3 : d2 3 = d1 3 := by rw [ed2]; exact mh_ur_ne (by decide)
            have d2_4 : d2 4 = d1 4 := by rw [ed2]; exact mh_ur_ne (by decide)
            have d2_5 : d2 5 = d1 5 := by rw [ed2]; exact mh_ur_ne (by decide)
            have d2_6 : d2 6 = d1 6 := by rw [ed2]; exact mh_ur_ne (by decide)
            have d2_7 : d2 7 = d1 7 := by rw [ed2]; exact mh_ur_ne (by decide)
            have d2_9 : d2 9 = d1 9 := by rw [ed2]; exact mh_ur_ne (by decide)
            have d2_o : ∀ i, i ≠ 8 → d2 i = d1 i := fun i hi => by rw [ed2]; exact mh_ur_ne hi
            have d2_8 : d2 8 = sc_q8 s c := by rw [ed2, mh_ur_eq rfl, d1_1, d1_2, d1_8]; rfl
            have hd2r : 0 ≤ d2 8 ∧ d2 8 ≤ 9999 := by rw [ed2, mh_ur_eq rfl]; exact sp_held_rg (by decide)
            have hcd2 : sc_ok d2 := by unfold sc_ok; omega
            refine mh_aload1 (pc := 98) F dX10_pass_98 ?_
            refine mh_dup (pc := 99) F dX10_pass_99 rfl ?_
            refine mh_getir (pc := 100) F zA.sh zA.lt fw_RX10_181_0 dX10_pass_100 rfl q13_0 ?_
            refine mh_iconst (pc := 103) F dX10_pass_103 ?_
            refine mh_isub (pc := 104) F dX10_pass_104 ?_
            refine mh_puti (pc := 105) F zA.sh zA.lt pw_RX10_181_0 dX10_pass_105 ?_
            refine mh_nmh (fun h15 e15 => ?_)
            have F15 : mh_FX h15 := by rw [e15]; exact F13.ups zA.fx
            have r30_15 : h15 30 = sk := by rw [e15, mh_up_row (by omega)]; exact r30_14
            have rA_15 : h15 A = mh_ur d2 5 ((d2 5) - 1) := by rw [e15, mh_up_rs, q13_0]
            obtain ⟨d3, ed3⟩ : ∃ z : Int → Int, z = mh_ur d2 5 ((d2 5) - 1) := ⟨_, rfl⟩
            rw [← ed3] at rA_15
            have fr15 : mh_fr [A, 36] h h15 := mh_fr.upi fr14 e15 (by simp)
            have d3_0 : d3 0 = d2 0 := by rw [ed3]; exact mh_ur_ne (by decide)
            have d3_1 : d3 1 = d2 1 := by rw [ed3]; exact mh_ur_ne (by decide)
            have d3_2 : d3 2 = d2 2 := by rw [ed3]; exact mh_ur_ne (by decide)
            have d3_3 : d3 3 = d2 3 := by rw [ed3]; exact mh_ur_ne (by decide)
            have d3_4 : d3 4 = d2 4 := by rw [ed3]; exact mh_ur_ne (by decide)
            have d3_6 : d3 6 = d2 6 := by rw [ed3]; exact mh_ur_ne (by decide)
            have d3_7 : d3 7 = d2 7 := by rw [ed3]; exact mh_ur_ne (by decide)
            have d3_8 : d3 8 = d2 8 := by rw [ed3]; exact mh_ur_ne (by decide)
            have d3_9 : d3 9 = d2 9 := by rw [ed3]; exact mh_ur_ne (by decide)
            have d3_o : ∀ i, i ≠ 5 → d3 i = d2 i := fun i hi => by rw [ed3]; exact mh_ur_ne hi
            have d3_5 : d3 5 = c 5 - 1 := by rw [ed3, mh_ur_eq rfl]; omega
            refine mh_aload1 (pc := 108) F dX10_pass_108 ?_
            refine mh_getir (pc := 109) F zA.sh zA.lt fw_RX10_181_0 dX10_pass_109 rfl rA_15 ?_
            refine mh_if_le (pc := 112) (tgt := 117) F dX10_pass_112 rfl (by omega) (fun c_112 => ?_) (fun c_112 => ?_)
            · refine mh_aload1 (pc := 117) F dX10_pass_117 ?_
              refine mh_iconst (pc := 118) F dX10_pass_118 ?_
              refine mh_puti (pc := 119) F zA.sh zA.lt pw_RX10_181_0 dX10_pass_119 ?_
              refine mh_nmh (fun h16 e16 => ?_)
              have F16 : mh_FX h16 := by rw [e16]; exact F15.ups zA.fx
              have r30_16 : h16 30 = sk := by rw [e16, mh_up_row (by omega)]; exact r30_15
              have rA_16 : h16 A = mh_ur d3 5 0 := by rw [e16, mh_up_rs, rA_15]
              obtain ⟨d4, ed4⟩ : ∃ z : Int → Int, z = mh_ur d3 5 0 := ⟨_, rfl⟩
              rw [← ed4] at rA_16
              have fr16 : mh_fr [A, 36] h h16 := mh_fr.upi fr15 e16 (by simp)
              have d4_0 : d4 0 = d3 0 := by rw [ed4]; exact mh_ur_ne (by decide)
              have d4_1 : d4 1 = d3 1 := by rw [ed4]; exact mh_ur_ne (by decide)
              have d4_2 : d4 2 = d3 2 := by rw [ed4]; exact mh_ur_ne (by decide)
              have d4_3 : d4 3 = d3 3 := by rw [ed4]; exact mh_ur_ne (by decide)
              have d4_4 : d4 4 = d3 4 := by rw [ed4]; exact mh_ur_ne (by decide)
              have d4_6 : d4 6 = d3 6 := by rw [ed4]; exact mh_ur_ne (by decide)
              have d4_7 : d4 7 = d3 7 := by rw [ed4]; exact mh_ur_ne (by decide)
              have d4_8 : d4 8 = d3 8 := by rw [ed4]; exact mh_ur_ne (by decide)
              have d4_9 : d4 9 = d3 9 := by rw [ed4]; exact mh_ur_ne (by decide)
              have d4_o : ∀ i, i ≠ 5 → d4 i = d3 i := fun i hi => by rw [ed4]; exact mh_ur_ne hi
              have d4_5 : d4 5 = 0 := by rw [ed4]; exact mh_ur_eq rfl
              refine mh_aload1 (pc := 122) F dX10_pass_122 ?_
              refine mh_iconst (pc := 123) F dX10_pass_123 ?_
              refine mh_puti (pc := 124) F zA.sh zA.lt pw_RX10_168_0 dX10_pass_124 ?_
              refine mh_nmh (fun h17 e17 => ?_)
              have F17 : mh_FX h17 := by rw [e17]; exact F16.ups zA.fx
              have r30_17 : h17 30 = sk := by rw [e17, mh_up_row (by omega)]; exact r30_16
              have rA_17 : h17 A = mh_ur d4 6 (-1) := by rw [e17, mh_up_rs, rA_16]
              obtain ⟨d5, ed5⟩ : ∃ z : Int → Int, z = mh_ur d4 6 (-1) := ⟨_, rfl⟩
              rw [← ed5] at rA_17
              have fr17 : mh_fr [A, 36] h h17 := mh_fr.upi fr16 e17 (by simp)
              have d5_0 : d5 0 = d4 0 := by rw [ed5]; exact mh_ur_ne (by decide)
              have d5_1 : d5 1 = d4 1 := by rw [ed5]; exact mh_ur_ne (by decide)
              have d5_2 : d5 2 = d4 2 := by rw [ed5]; exact mh_ur_ne (by decide)
              have d5_3 : d5 3 = d4 3 := by rw [ed5]; exact mh_ur_ne (by decide)
              have d5_4 : d5 4 = d4 4 := by rw [ed5]; exact mh_ur_ne (by decide)
              have d5_5 : d5 5 = d4 5 := by rw [ed5]; exact mh_ur_ne (by decide)
              have d5_7 : d5 7 = d4 7 := by rw [ed5]; exact mh_ur_ne (by decide)
              have d5_8 : d5 8 = d4 8 := by rw [ed5]; exact mh_ur_ne (by decide)
              have d5_9 : d5 9 = d4 9 := by rw [ed5]; exact mh_ur_ne (by decide)
              have d5_o : ∀ i, i ≠ 6 → d5 i = d4 i := fun i hi => by rw [ed5]; exact mh_ur_ne hi
              have d5_6 : d5 6 = -1 := by rw [ed5]; exact mh_ur_eq rfl
              refine mh_aload1 (pc := 127) F dX10_pass_127 ?_
              refine mh_dup (pc := 128) F dX10_pass_128 rfl ?_
              refine mh_getir (pc := 129) F zA.sh zA.lt fw_RX10_119_0 dX10_pass_129 rfl rA_17 ?_
              refine mh_iconst (pc := 132) F dX10_pass_132 ?_
              refine mh_iadd (pc := 133) F dX10_pass_133 ?_
              refine mh_puti (pc := 134) F zA.sh zA.lt pw_RX10_119_0 dX10_pass_134 ?_
              refine mh_nmh (fun h18 e18 => ?_)
              have F18 : mh_FX h18 := by rw [e18]; exact F17.ups zA.fx
              have r30_18 : h18 30 = sk := by rw [e18, mh_up_row (by omega)]; exact r30_17
              have rA_18 : h18 A = mh_ur d5 3 ((d5 3) + 1) := by rw [e18, mh_up_rs, rA_17]
              obtain ⟨d6, ed6⟩ : ∃ z : Int → Int, z = mh_ur d5 3 ((d5 3) + 1) := ⟨_, rfl⟩
              rw [← ed6] at rA_18
              have fr18 : mh_fr [A, 36] h h18 := mh_fr.upi fr17 e18 (by simp)
              have d6_0 : d6 0 = d5 0 := by rw [ed6]; exact mh_ur_ne (by decide)
              have d6_1 : d6 1 = d5 1 := by rw [ed6]; exact mh_ur_ne (by decide)
              have d6_2 : d6 2 = d5 2 := by rw [ed6]; exact mh_ur_ne (by decide)
              have d6_4 : d6 4 = d5 4 := by rw [ed6]; exact mh_ur_ne (by decide)
              have d6_5 : d6 5 = d5 5 := by rw [ed6]; exact mh_ur_ne (by decide)
              have d6_6 : d6 6 = d5 6 := by rw [ed6]; exact mh_ur_ne (by decide)
              have d6_7 : d6 7 = d5 7 := by rw [ed6]; exact mh_ur_ne (by decide)
              have d6_8 : d6 8 = d5 8 := by rw [ed6]; exact mh_ur_ne (by decide)
              have d6_9 : d6 9 = d5 9 := by rw [ed6]; exact mh_ur_ne (by decide)
              have d6_o : ∀ i, i ≠ 3 → d6 i = d5 i := fun i hi => by rw [ed6]; exact mh_ur_ne hi
              have d6_3 : d6 3 = c 3 + 1 := by rw [ed6, mh_ur_eq rfl]; omega
              refine mh_aload1 (pc := 137) F dX10_pass_137 ?_
              refine mh_aload1 (pc := 138) F dX10_pass_138 ?_
              refine mh_getir (pc := 139) F zA.sh zA.lt fw_RX10_119_0 dX10_pass_139 rfl rA_18 ?_
              refine mh_bipush (pc := 142) F dX10_pass_142 rfl ?_
              refine mh_icmp_lt (pc := 144) (tgt := 151) F dX10_pass_144 rfl (by omega) (by omega) (fun c_144 => ?_) (fun c_144 => ?_)
              · refine mh_iconst (pc := 151) F dX10_pass_151 ?_
                refine mh_puti (pc := 152) F zA.sh zA.lt pw_RX10_133_0 dX10_pass_152 ?_
                refine mh_nmh (fun h19 e19 => ?_)
                have F19 : mh_FX h19 := by rw [e19]; exact F18.ups zA.fx
                have r30_19 : h19 30 = sk := by rw [e19, mh_up_row (by omega)]; exact r30_18
                have rA_19 : h19 A = mh_ur d6 4 0 := by rw [e19, mh_up_rs, rA_18]
                obtain ⟨d7, ed7⟩ : ∃ z : Int → Int, z = mh_ur d6 4 0 := ⟨_, rfl⟩
                rw [← ed7] at rA_19
                have fr19 : mh_fr [A, 36] h h19 := mh_fr.upi fr18 e19 (by simp)
                have d7_0 : d7 0 = d6 0 := by rw [ed7]; exact mh_ur_ne (by decide)
                have d7_1 : d7 1 = d6 1 := by rw [ed7]; exact mh_ur_ne (by decide)
                have d7_2 : d7 2 = d6 2 := by rw [ed7]; exact mh_ur_ne (by decide)
                have d7_3 : d7 3 = d6 3 := by rw [ed7]; exact mh_ur_ne (by decide)
                have d7_5 : d7 5 = d6 5 := by rw [ed7]; exact mh_ur_ne (by decide)
                have d7_6 : d7 6 = d6 6 := by rw [ed7]; exact mh_ur_ne (by decide)
                have d7_7 : d7 7 = d6 7 := by rw [ed7]; exact mh_ur_ne (by decide)
                have d7_8 : d7 8 = d6 8 := by rw [ed7]; exact mh_ur_ne (by decide)
                have d7_9 : d7 9 = d6 9 := by rw [ed7]; exact mh_ur_ne (by decide)
                have d7_o : ∀ i, i ≠ 4 → d7 i = d6 i := fun i hi => by rw [ed7]; exact mh_ur_ne hi
                have d7_4 : d7 4 = if 9 ≤ c 3 + 1 then 3 else 0 := by rw [ed7, mh_ur_eq rfl]; first | (rw [if_pos (by omega)]; done) | (rw [if_neg (by omega)]; done)
                have hfin : d7 = sc_arr c (sc_q7 s c q) (sc_q8 s c) := sc_arr_eq (by omega) d7_4 (by omega) (by omega) (by omega) (by omega) (fun i i3 i4 i5 i6 i7 i8 => (d7_o i i4).trans ((d6_o i i3).trans ((d5_o i i6).trans ((d4_o i i5).trans ((d3_o i i5).trans ((d2_o i i8).trans (d1_o i i7)))))))
                have hd74 : d7 4 = 3 ∨ d7 4 = 0 := by rw [d7_4]; split; exact Or.inl rfl; exact Or.inr rfl
                refine mh_aload1 (pc := 155) F dX10_pass_155 ?_
                refine mh_getir (pc := 156) F zA.sh zA.lt fw_RX10_133_0 dX10_pass_156 rfl rA_19 ?_
                refine mh_iconst (pc := 159) F dX10_pass_159 ?_
                refine mh_icmp_ne (pc := 160) (tgt := 167) F dX10_pass_160 rfl (by omega) (by omega) (fun c_160 => ?_) (fun c_160 => ?_)
                · refine mh_iconst (pc := 167) F dX10_pass_167 ?_
                  exact mh_zreturn F Z dX10_pass_168 (by omega) ⟨mh_sv (by unfold sc_pbi; first | (rw [if_pos (by omega)]; done) | (rw [if_neg (by omega)]; done)), F19, (fr19.mono (by simp)), rA_19.trans (by unfold sc_pass; rw [if_neg (by omega), if_neg (by omega), if_neg (by omega)]; exact hfin)⟩
                · refine mh_iconst (pc := 163) F dX10_pass_163 ?_
                  refine mh_goto (pc := 164) (tgt := 168) F dX10_pass_164 rfl ?_
                  exact mh_zreturn F Z dX10_pass_168 (by omega) ⟨mh_sv (by unfold sc_pbi; first | (rw [if_pos (by omega)]; done) | (rw [if_neg (by omega)]; done)), F19, (fr19.mono (by simp)), rA_19.trans (by unfold sc_pass; rw [if_neg (by omega), if_neg (by omega), if_neg (by omega)]; exact hfin)⟩
              · refine mh_iconst (pc := 147) F dX10_pass_147 ?_
                refine mh_goto (pc := 148) (tgt := 152) F dX10_pass_148 rfl ?_
                refine mh_puti (pc := 152) F zA.sh zA.lt pw_RX10_133_0 dX10_pass_152 ?_
                refine mh_nmh (fun h20 e20 => ?_)
                have F20 : mh_FX h20 := by rw [e20]; exact F18.ups zA.fx
                have r30_20 : h20 30 = sk := by rw [e20, mh_up_row (by omega)]; exact r30_18
                have rA_20 : h20 A = mh_ur d6 4 3 := by rw [e20, mh_up_rs, rA_18]
                obtain ⟨d7, ed7⟩ : ∃ z : Int → Int, z = mh_ur d6 4 3 := ⟨_, rfl⟩
                rw [← ed7] at rA_20
                have fr20 : mh_fr [A, 36] h h20 := mh_fr.upi fr18 e20 (by simp)
                have d7_0 : d7 0 = d6 0 := by rw [ed7]; exact mh_ur_ne (by decide)
                have d7_1 : d7 1 = d6 1 := by rw [ed7]; exact mh_ur_ne (by decide)
                have d7_2 : d7 2 = d6 2 := by rw [ed7]; exact mh_ur_ne (by decide)
                have d7_3 : d7 3 = d6 3 := by rw [ed7]; exact mh_ur_ne (by decide)
                have d7_5 : d7 5 = d6 5 := by rw [ed7]; exact mh_ur_ne (by decide)
                have d7_6 : d7 6 = d6 6 := by rw [ed7]; exact mh_ur_ne (by decide)
                have d7_7 : d7 7 = d6 7 := by rw [ed7]; exact mh_ur_ne (by decide)
                have d7_8 : d7 8 = d6 8 := by rw [ed7]; exact mh_ur_ne (by decide)
                have d7_9 : d7 9 = d6 9 := by rw [ed7]; exact mh_ur_ne (by decide)
                have d7_o : ∀ i, i ≠ 4 → d7 i = d6 i := fun i hi => by rw [ed7]; exact mh_ur_ne hi
                have d7_4 : d7 4 = if 9 ≤ c 3 + 1 then 3 else 0 := by rw [ed7, mh_ur_eq rfl]; first | (rw [if_pos (by omega)]; done) | (rw [if_neg (by omega)]; done)
                have hfin : d7 = sc_arr c (sc_q7 s c q) (sc_q8 s c) := sc_arr_eq (by omega) d7_4 (by omega) (by omega) (by omega) (by omega) (fun i i3 i4 i5 i6 i7 i8 => (d7_o i i4).trans ((d6_o i i3).trans ((d5_o i i6).trans ((d4_o i i5).trans ((d3_o i i5).trans ((d2_o i i8).trans (d1_o i i7)))))))
                have hd74 : d7 4 = 3 ∨ d7 4 = 0 := by rw [d7_4]; split; exact Or.inl rfl; exact Or.inr rfl
                refine mh_aload1 (pc := 155) F dX10_pass_155 ?_
                refine mh_getir (pc := 156) F zA.sh zA.lt fw_RX10_133_0 dX10_pass_156 rfl rA_20 ?_
                refine mh_iconst (pc := 159) F dX10_pass_159 ?_
                refine mh_icmp_ne (pc := 160) (tgt := 167) F dX10_pass_160 rfl (by omega) (by omega) (fun c_160 => ?_) (fun c_160 => ?_)
                · refine mh_iconst (pc := 167) F dX10_pass_167 ?_
                  exact mh_zreturn F Z dX10_pass_168 (by omega) ⟨mh_sv (by unfold sc_pbi; first | (rw [if_pos (by omega)]; done) | (rw [if_neg (by omega)]; done)), F20, (fr20.mono (by simp)), rA_20.trans (by unfold sc_pass; rw [if_neg (by omega), if_neg (by omega), if_neg (by omega)]; exact hfin)⟩
                · refine mh_iconst (pc := 163) F dX10_pass_163 ?_
                  refine mh_goto (pc := 164) (tgt := 168) F dX10_pass_164 rfl ?_
                  exact mh_zreturn F Z dX10_pass_168 (by omega) ⟨mh_sv (by unfold sc_pbi; first | (rw [if_pos (by omega)]; done) | (rw [if_neg (by omega)]; done)), F20, (fr20.mono (by simp)), rA_20.trans (by unfold sc_pass; rw [if_neg (by omega), if_neg (by omega), if_neg (by omega)]; exact hfin)⟩
            · refine mh_iconst (pc := 115) F dX10_pass_115 ?_
              exact mh_zreturn F Z dX10_pass_116 (by omega) ⟨mh_sv (by unfold sc_pbi; first | (rw [if_pos (by omega)]; done) | (rw [if_neg (by omega)]; done)), F15, (fr15.mono (by simp)), rA_15.trans (by unfold sc_pass; rw [if_neg (by omega), if_neg (by omega), if_pos (by omega)]; rw [ed3, show d2 5 - 1 = c 5 - 1 by omega, ed2, show sp_held (d1 8 + sp_jolts (d1 1 - 3) (d1 2) (sc_sh s c)) 0 9999 = sc_q8 s c by (unfold sc_q8; rw [d1_8, d1_1, d1_2]), ed1]; rfl)⟩
        · refine mh_iconst (pc := 56) F dX10_pass_56 ?_
          exact mh_zreturn F Z dX10_pass_57 (by omega) ⟨mh_sv (by unfold sc_pbi; first | (rw [if_pos (by omega)]; done) | (rw [if_neg (by omega)]; done)), F3, (fr4.mono (by simp)), q3_0.trans (by unfold sc_pass; rw [if_neg (by omega), if_pos (by omega), ed1]; rfl)⟩
      · refine mh_iconst (pc := 23) F dX10_pass_23 ?_
        exact mh_zreturn F Z dX10_pass_24 (by omega) ⟨mh_sv (by unfold sc_pbi; first | (rw [if_pos (by omega)]; done) | (rw [if_neg (by omega)]; done)), hF, (mh_fr.rf.mono (by simp)), rA.trans (by unfold sc_pass; rw [if_pos (by omega)])⟩

