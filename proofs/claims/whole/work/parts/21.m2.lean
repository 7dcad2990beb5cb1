set_option maxRecDepth 100000 in
set_option maxHeartbeats 4000000 in
theorem k_done {g : mh_G} {d : Nat} (hd : 1 ≤ d) {h : Nat → Int → Int} {q x y : Int} (hq : -2147483648 ≤ q ∧ q < 2147483648) (hx : -2147483648 ≤ x ∧ x < 2147483648) (hy : -2147483648 ≤ y ∧ y < 2147483648) : mh_MP g d yX12_done cX12_done 3 (some .int) 96 [.int (Int32.ofInt (q)), .int (Int32.ofInt (x)), .int (Int32.ofInt (y))] h (some (.int (Int32.ofInt (sp_done q x y)))) := by
  refine mh_M_of RX12 rfl (by decide +kernel) [some (.int (Int32.ofInt (q))), some (.int (Int32.ofInt (x))), some (.int (Int32.ofInt (y)))] rfl (Nat.le_of_ble_eq_true rfl) (fun f F Z hn0 hR => ?_)
  refine mh_iload0 (pc := 0) F dX12_done_0 ?_
  by_cases c_1_38 : q = 38
  · refine mh_lookup (pc := 1) (off := 97) (tgt := 98) F dX12_done_1 (by omega) rfl (by rw [c_1_38]; rfl) rfl ?_
    refine mh_iload1 (pc := 98) F dX12_done_98 ?_
    refine mh_if_eq (pc := 99) (tgt := 110) F dX12_done_99 rfl (by omega) (fun c_99 => ?_) (fun c_99 => ?_)
    · refine mh_iconst (pc := 110) F dX12_done_110 ?_
      exact mh_ireturnw F Z dX12_done_111 (mh_eqI (by unfold sp_done mh_B; grind)) rfl
    · refine mh_iload2 (pc := 102) F dX12_done_102 ?_
      refine mh_if_eq (pc := 103) (tgt := 110) F dX12_done_103 rfl (by omega) (fun c_103 => ?_) (fun c_103 => ?_)
      · refine mh_iconst (pc := 110) F dX12_done_110 ?_
        exact mh_ireturnw F Z dX12_done_111 (mh_eqI (by unfold sp_done mh_B; grind)) rfl
      · refine mh_iconst (pc := 106) F dX12_done_106 ?_
        refine mh_goto (pc := 107) (tgt := 111) F dX12_done_107 rfl ?_
        exact mh_ireturnw F Z dX12_done_111 (mh_eqI (by unfold sp_done mh_B; grind)) rfl
  by_cases c_1_42 : q = 42
  · refine mh_lookup (pc := 1) (off := 152) (tgt := 153) F dX12_done_1 (by omega) rfl (by rw [c_1_42]; rfl) rfl ?_
    refine mh_iload1 (pc := 153) F dX12_done_153 ?_
    refine mh_iload2 (pc := 154) F dX12_done_154 ?_
    refine mh_imul (pc := 155) F dX12_done_155 ?_
    exact mh_ireturnw F Z dX12_done_156 (by rw [show sp_done q x y = sp_wr (x * y) from by unfold sp_done; grind]; exact (sp_wrI _).symm) rfl
  by_cases c_1_43 : q = 43
  · refine mh_lookup (pc := 1) (off := 144) (tgt := 145) F dX12_done_1 (by omega) rfl (by rw [c_1_43]; rfl) rfl ?_
    refine mh_iload1 (pc := 145) F dX12_done_145 ?_
    refine mh_iload2 (pc := 146) F dX12_done_146 ?_
    refine mh_iadd (pc := 147) F dX12_done_147 ?_
    exact mh_ireturnw F Z dX12_done_148 (by rw [show sp_done q x y = sp_wr (x + y) from by unfold sp_done; grind]; exact (sp_wrI _).symm) rfl
  by_cases c_1_45 : q = 45
  · refine mh_lookup (pc := 1) (off := 148) (tgt := 149) F dX12_done_1 (by omega) rfl (by rw [c_1_45]; rfl) rfl ?_
    refine mh_iload1 (pc := 149) F dX12_done_149 ?_
    refine mh_iload2 (pc := 150) F dX12_done_150 ?_
    refine mh_isub (pc := 151) F dX12_done_151 ?_
    exact mh_ireturnw F Z dX12_done_152 (by rw [show sp_done q x y = sp_wr (x - y) from by unfold sp_done; grind]; exact (sp_wrI _).symm) rfl
  by_cases c_1_47 : q = 47
  · refine mh_lookup (pc := 1) (off := 156) (tgt := 157) F dX12_done_1 (by omega) rfl (by rw [c_1_47]; rfl) rfl ?_
    refine mh_iload2 (pc := 157) F dX12_done_157 ?_
    refine mh_if_ne (pc := 158) (tgt := 165) F dX12_done_158 rfl (by omega) (fun c_158 => ?_) (fun c_158 => ?_)
    · refine mh_iload1 (pc := 165) F dX12_done_165 ?_
      refine mh_iload2 (pc := 166) F dX12_done_166 ?_
      refine mh_idiv (pc := 167) F dX12_done_167 (by omega) (by omega) (by omega) ?_
      exact mh_ireturnw F Z dX12_done_168 (by rw [show sp_done q x y = (if y = 0 then 0 else sp_wr (x.tdiv y)) from by unfold sp_done; grind]; first | (rw [if_pos (by omega)]) | (rw [if_neg (by omega)]; exact (sp_wrI _).symm)) rfl
    · refine mh_iconst (pc := 161) F dX12_done_161 ?_
      refine mh_goto (pc := 162) (tgt := 168) F dX12_done_162 rfl ?_
      exact mh_ireturnw F Z dX12_done_168 (by rw [show sp_done q x y = (if y = 0 then 0 else sp_wr (x.tdiv y)) from by unfold sp_done; grind]; first | (rw [if_pos (by omega)]) | (rw [if_neg (by omega)]; exact (sp_wrI _).symm)) rfl
  by_cases c_1_60 : q = 60
  · refine mh_lookup (pc := 1) (off := 111) (tgt := 112) F dX12_done_1 (by omega) rfl (by rw [c_1_60]; rfl) rfl ?_
    refine mh_iload1 (pc := 112) F dX12_done_112 ?_
    refine mh_iload2 (pc := 113) F dX12_done_113 ?_
    refine mh_icmp_ge (pc := 114) (tgt := 121) F dX12_done_114 rfl (by omega) (by omega) (fun c_114 => ?_) (fun c_114 => ?_)
    · refine mh_iconst (pc := 121) F dX12_done_121 ?_
      exact mh_ireturnw F Z dX12_done_122 (mh_eqI (by unfold sp_done mh_B; grind)) rfl
    · refine mh_iconst (pc := 117) F dX12_done_117 ?_
      refine mh_goto (pc := 118) (tgt := 122) F dX12_done_118 rfl ?_
      exact mh_ireturnw F Z dX12_done_122 (mh_eqI (by unfold sp_done mh_B; grind)) rfl
  by_cases c_1_61 : q = 61
  · refine mh_lookup (pc := 1) (off := 122) (tgt := 123) F dX12_done_1 (by omega) rfl (by rw [c_1_61]; rfl) rfl ?_
    refine mh_iload1 (pc := 123) F dX12_done_123 ?_
    refine mh_iload2 (pc := 124) F dX12_done_124 ?_
    refine mh_icmp_ne (pc := 125) (tgt := 132) F dX12_done_125 rfl (by omega) (by omega) (fun c_125 => ?_) (fun c_125 => ?_)
    · refine mh_iconst (pc := 132) F dX12_done_132 ?_
      exact mh_ireturnw F Z dX12_done_133 (mh_eqI (by unfold sp_done mh_B; grind)) rfl
    · refine mh_iconst (pc := 128) F dX12_done_128 ?_
      refine mh_goto (pc := 129) (tgt := 133) F dX12_done_129 rfl ?_
      exact mh_ireturnw F Z dX12_done_133 (mh_eqI (by unfold sp_done mh_B; grind)) rfl
  by_cases c_1_62 : q = 62
  · refine mh_lookup (pc := 1) (off := 133) (tgt := 134) F dX12_done_1 (by omega) rfl (by rw [c_1_62]; rfl) rfl ?_
    refine mh_iload1 (pc := 134) F dX12_done_134 ?_
    refine mh_iload2 (pc := 135) F dX12_done_135 ?_
    refine mh_icmp_le (pc := 136) (tgt := 143) F dX12_done_136 rfl (by omega) (by omega) (fun c_136 => ?_) (fun c_136 => ?_)
    · refine mh_iconst (pc := 143) F dX12_done_143 ?_
      exact mh_ireturnw F Z dX12_done_144 (mh_eqI (by unfold sp_done mh_B; grind)) rfl
    · refine mh_iconst (pc := 139) F dX12_done_139 ?_
      refine mh_goto (pc := 140) (tgt := 144) F dX12_done_140 rfl ?_
      exact mh_ireturnw F Z dX12_done_144 (mh_eqI (by unfold sp_done mh_B; grind)) rfl
  by_cases c_1_124 : q = 124
  · refine mh_lookup (pc := 1) (off := 83) (tgt := 84) F dX12_done_1 (by omega) rfl (by rw [c_1_124]; rfl) rfl ?_
    refine mh_iload1 (pc := 84) F dX12_done_84 ?_
    refine mh_if_ne (pc := 85) (tgt := 92) F dX12_done_85 rfl (by omega) (fun c_85 => ?_) (fun c_85 => ?_)
    · refine mh_iconst (pc := 92) F dX12_done_92 ?_
      refine mh_goto (pc := 93) (tgt := 97) F dX12_done_93 rfl ?_
      exact mh_ireturnw F Z dX12_done_97 (mh_eqI (by unfold sp_done mh_B; grind)) rfl
    · refine mh_iload2 (pc := 88) F dX12_done_88 ?_
      refine mh_if_eq (pc := 89) (tgt := 96) F dX12_done_89 rfl (by omega) (fun c_89 => ?_) (fun c_89 => ?_)
      · refine mh_iconst (pc := 96) F dX12_done_96 ?_
        exact mh_ireturnw F Z dX12_done_97 (mh_eqI (by unfold sp_done mh_B; grind)) rfl
      · refine mh_iconst (pc := 92) F dX12_done_92 ?_
        refine mh_goto (pc := 93) (tgt := 97) F dX12_done_93 rfl ?_
        exact mh_ireturnw F Z dX12_done_97 (mh_eqI (by unfold sp_done mh_B; grind)) rfl
  refine mh_lookup (pc := 1) (off := 168) (tgt := 169) F dX12_done_1 (by omega) rfl (mh_lkd (by simp [c_1_38, c_1_42, c_1_43, c_1_45, c_1_47, c_1_60, c_1_61, c_1_62, c_1_124])) rfl ?_
  refine mh_iload2 (pc := 169) F dX12_done_169 ?_
  refine mh_if_ne (pc := 170) (tgt := 177) F dX12_done_170 rfl (by omega) (fun c_170 => ?_) (fun c_170 => ?_)
  · refine mh_iload1 (pc := 177) F dX12_done_177 ?_
    refine mh_iload2 (pc := 178) F dX12_done_178 ?_
    refine mh_irem (pc := 179) F dX12_done_179 (by omega) (by omega) (by omega) ?_
    exact mh_ireturnw F Z dX12_done_180 (by rw [show sp_done q x y = (if y = 0 then 0 else sp_wr (x.tmod y)) from by unfold sp_done; grind]; first | (rw [if_pos (by omega)]) | (rw [if_neg (by omega)]; exact (sp_wrI _).symm)) rfl
  · refine mh_iconst (pc := 173) F dX12_done_173 ?_
    refine mh_goto (pc := 174) (tgt := 180) F dX12_done_174 rfl ?_
    exact mh_ireturnw F Z dX12_done_180 (by rw [show sp_done q x y = (if y = 0 then 0 else sp_wr (x.tmod y)) from by unfold sp_done; grind]; first | (rw [if_pos (by omega)]) | (rw [if_neg (by omega)]; exact (sp_wrI _).symm)) rfl

set_option maxRecDepth 100000 in
set_option maxHeartbeats 4000000 in
theorem k_sets {g : mh_G} {d : Nat} (hd : 1 ≤ d) {h : Nat → Int → Int} (hF : mh_FX h) {s : Int → Int} (r82 : h 82 = s) {k x v : Int} (hk : 0 ≤ k ∧ k < 6) (hx : 0 ≤ x ∧ x < 9) : mh_M g d yX12_sets cX12_sets 4 none 96 0 0 [.ref 81, .int (Int32.ofInt (k)), .int (Int32.ofInt (x)), .int (Int32.ofInt (v))] h (fun r h2 => r = none ∧ mh_FX h2 ∧ mh_fr [82] h h2 ∧ h2 82 = mh_ur s (41 + 9 * k + x) v) := by
  refine mh_M_of RX12 rfl (by decide +kernel) [some (.ref 81), some (.int (Int32.ofInt (k))), some (.int (Int32.ofInt (x))), some (.int (Int32.ofInt (v)))] rfl (Nat.le_of_ble_eq_true rfl) (fun f F Z hn0 hR => ?_)
  refine mh_aload0 (pc := 0) F dX12_sets_0 ?_
  refine mh_getr (b := 82) (pc := 1) F sh_81 (by decide) fw_RX12_9_12 dX12_sets_1 rfl (fx_81_0 hF) ?_
  refine mh_bipush (pc := 4) F dX12_sets_4 rfl ?_
  refine mh_bipush (pc := 6) F dX12_sets_6 rfl ?_
  refine mh_iload1 (pc := 8) F dX12_sets_8 ?_
  refine mh_imul (pc := 9) F dX12_sets_9 ?_
  refine mh_iadd (pc := 10) F dX12_sets_10 ?_
  refine mh_iload2 (pc := 11) F dX12_sets_11 ?_
  refine mh_iadd (pc := 12) F dX12_sets_12 ?_
  refine mh_iload3 (pc := 13) F dX12_sets_13 ?_
  refine mh_iastore (pc := 14) F sh_82 (by decide) (by omega) dX12_sets_14 ?_
  refine mh_nmh (fun h1 e1 => ?_)
  have F1 : mh_FX h1 := by rw [e1]; exact hF.upa rfl
  have r82_1 : h1 82 = mh_ur s ((41 + (9 * k)) + x) v := by rw [e1, mh_up_rs, r82]
  have fr1 : mh_fr [82] h h1 := mh_fr.up mh_fr.rf e1
  exact mh_return F Z dX12_sets_15 ⟨rfl, F1, (fr1.mono (by simp)), r82_1⟩

set_option maxRecDepth 100000 in
set_option maxHeartbeats 4000000 in
theorem k_error {g : mh_G} {d : Nat} (hd : 1 ≤ d) {h : Nat → Int → Int} (hF : mh_FX h) {er : Int → Int} (r85 : h 85 = er) {k : Int} (hk : 1 ≤ k ∧ k < 6) : mh_M g d yX12_error cX12_error 2 (some .int) 96 0 0 [.ref 81, .int (Int32.ofInt (k))] h (fun r h2 => r = some (.int (Int32.ofInt (-1000000000 - k))) ∧ mh_FX h2 ∧ mh_fr [85] h h2 ∧ h2 85 = mh_ur er k (er k + 1)) := by
  refine mh_M_of RX12 rfl (by decide +kernel) [some (.ref 81), some (.int (Int32.ofInt (k)))] rfl (Nat.le_of_ble_eq_true rfl) (fun f F Z hn0 hR => ?_)
  refine mh_aload0 (pc := 0) F dX12_error_0 ?_
  refine mh_getr (b := 85) (pc := 1) F sh_81 (by decide) fw_RX12_19_12 dX12_error_1 rfl (fx_81_5 hF) ?_
  refine mh_iload1 (pc := 4) F dX12_error_4 ?_
  refine mh_dup2 (pc := 5) F dX12_error_5 rfl rfl ?_
  refine mh_ialoadr (pc := 6) F sh_85 (by decide) (by omega) dX12_error_6 r85 ?_
  refine mh_iconst (pc := 7) F dX12_error_7 ?_
  refine mh_iadd (pc := 8) F dX12_error_8 ?_
  refine mh_iastore (pc := 9) F sh_85 (by decide) (by omega) dX12_error_9 ?_
  refine mh_nmh (fun h1 e1 => ?_)
  have F1 : mh_FX h1 := by rw [e1]; exact hF.upa rfl
  have r85_1 : h1 85 = mh_ur er k ((er k) + 1) := by rw [e1, mh_up_rs, r85]
  have fr1 : mh_fr [85] h h1 := mh_fr.up mh_fr.rf e1
  refine mh_ldc (x := -1000000000) (pc := 10) F dX12_error_10 (by rw [show Int32.ofInt (-1000000000) = (-1000000000 : Int32) from by decide +kernel]; exact tw_5_234) ?_
  refine mh_iload1 (pc := 12) F dX12_error_12 ?_
  refine mh_isub (pc := 13) F dX12_error_13 ?_
  exact mh_ireturn F Z dX12_error_14 ⟨rfl, F1, (fr1.mono (by simp)), r85_1⟩

/-- a churn's kind and m are such; its rows are ints -/
def sp_st (k m x y : Int) : Int := if sp_turns k m ≤ x then 2 else if 60 ≤ y then 1 else 0
theorem sp_turns_rg {k m : Int} (hm : 0 ≤ m ∧ m ≤ 9) : 80 ≤ sp_turns k m ∧ sp_turns k m ≤ 125 := by unfold sp_turns; repeat' split <;> omega
theorem sp_warms_rg {k m v : Int} (hm : 0 ≤ m ∧ m ≤ 9) (hv : 0 ≤ v ∧ v ≤ 40) : 0 ≤ sp_warms k m v ∧ sp_warms k m v ≤ 43 := by
  have h1 := mh_tdivb (k := 3) hm.1 (by decide)
  have h2 := mh_tdivb (k := 2) hv.1 (by decide)
  unfold sp_warms; repeat' split <;> omega
theorem sp_jolts_rg {k m v : Int} (hm : 0 ≤ m ∧ m ≤ 9) (hv : 0 ≤ v ∧ v ≤ 20) : 0 ≤ sp_jolts k m v ∧ sp_jolts k m v ≤ 49 := by unfold sp_jolts; repeat' split <;> omega
set_option maxRecDepth 100000 in
set_option maxHeartbeats 4000000 in
theorem k_stateBy {g : mh_G} {d : Nat} (hd : 2 ≤ d) {h : Nat → Int → Int} (hF : mh_FX h) {s : Int → Int} (r82 : h 82 = s) {k x y : Int} (hk : 0 ≤ k ∧ k < 6) (h0 : 0 ≤ s (41 + 9 * k + 0) ∧ s (41 + 9 * k + 0) ≤ 6) (h1 : 0 ≤ s (41 + 9 * k + 1) ∧ s (41 + 9 * k + 1) ≤ 9) (hx : 0 ≤ x ∧ x ≤ 9999) (hy : 0 ≤ y ∧ y ≤ 9999) : mh_MP g d yX12_stateBy cX12_stateBy 4 (some .int) 96 [.ref 81, .int (Int32.ofInt (k)), .int (Int32.ofInt (x)), .int (Int32.ofInt (y))] h (some (.int (Int32.ofInt (sp_st (s (41 + 9 * k + 0)) (s (41 + 9 * k + 1)) x y)))) := by
  refine mh_M_of RX12 rfl (by decide +kernel) [some (.ref 81), some (.int (Int32.ofInt (k))), some (.int (Int32.ofInt (x))), some (.int (Int32.ofInt (y)))] rfl (Nat.le_of_ble_eq_true rfl) (fun f F Z hn0 hR => ?_)
  have htr := sp_turns_rg (k := s (41 + 9 * k + 0)) h1
  refine mh_iload2 (pc := 0) F dX12_stateBy_0 ?_
  refine mh_aload0 (pc := 1) F dX12_stateBy_1 ?_
  refine mh_iload1 (pc := 2) F dX12_stateBy_2 ?_
  refine mh_iconst (pc := 3) F dX12_stateBy_3 ?_
  refine mh_callVp (pc := 4) (As := [.int (Int32.ofInt (k)), .int (Int32.ofInt (0))]) (st := [.int (Int32.ofInt (x))]) F (by omega) (k_its (by omega) hF r82 (by omega) (by omega)) wv_RX12_79_yX12_its dX12_stateBy_4 sh_81 rfl (by decide) rfl rfl (Nat.le_of_ble_eq_true rfl) ⟨Nat.zero_le _, Nat.zero_le _⟩ ?_
  refine mh_aload0 (pc := 7) F dX12_stateBy_7 ?_
  refine mh_iload1 (pc := 8) F dX12_stateBy_8 ?_
  refine mh_iconst (pc := 9) F dX12_stateBy_9 ?_
  refine mh_callVp (pc := 10) (As := [.int (Int32.ofInt (k)), .int (Int32.ofInt (1))]) (st := [.int (Int32.ofInt (s (41 + 9 * k + 0))), .int (Int32.ofInt (x))]) F (by omega) (k_its (by omega) hF r82 (by omega) (by omega)) wv_RX12_79_yX12_its dX12_stateBy_10 sh_81 rfl (by decide) rfl rfl (Nat.le_of_ble_eq_true rfl) ⟨Nat.zero_le _, Nat.zero_le _⟩ ?_
  refine mh_callSp (pc := 13) (As := [.int (Int32.ofInt (s (41 + 9 * k + 0))), .int (Int32.ofInt (s (41 + 9 * k + 1)))]) (st := [.int (Int32.ofInt (x))]) F (by omega) (k_turns (by omega) (by omega) (by omega)) ws_RX12_82 dX12_stateBy_13 rfl rfl (Nat.le_of_ble_eq_true rfl) ⟨Nat.zero_le _, Nat.zero_le _⟩ ?_
  refine mh_icmp_lt (pc := 16) (tgt := 23) F dX12_stateBy_16 rfl (by omega) (by omega) (fun c_16 => ?_) (fun c_16 => ?_)
  · refine mh_iload3 (pc := 23) F dX12_stateBy_23 ?_
    refine mh_bipush (pc := 24) F dX12_stateBy_24 rfl ?_
    refine mh_icmp_lt (pc := 26) (tgt := 33) F dX12_stateBy_26 rfl (by omega) (by omega) (fun c_26 => ?_) (fun c_26 => ?_)
    · refine mh_iconst (pc := 33) F dX12_stateBy_33 ?_
      exact mh_ireturnp F Z dX12_stateBy_34 (by unfold sp_st; grind) rfl
    · refine mh_iconst (pc := 29) F dX12_stateBy_29 ?_
      refine mh_goto (pc := 30) (tgt := 34) F dX12_stateBy_30 rfl ?_
      exact mh_ireturnp F Z dX12_stateBy_34 (by unfold sp_st; grind) rfl
  · refine mh_iconst (pc := 19) F dX12_stateBy_19 ?_
    refine mh_goto (pc := 20) (tgt := 34) F dX12_stateBy_20 rfl ?_
    exact mh_ireturnp F Z dX12_stateBy_34 (by unfold sp_st; grind) rfl

def sp_stm (s : Int → Int) (k : Int) : Int := if s (41 + 9 * k + 8) = 1 then 3 else sp_st (s (41 + 9 * k + 0)) (s (41 + 9 * k + 1)) (s (41 + 9 * k + 5)) (s (41 + 9 * k + 6))
set_option maxRecDepth 100000 in
set_option maxHeartbeats 4000000 in
theorem k_stateOf {g : mh_G} {d : Nat} (hd : 3 ≤ d) {h : Nat → Int → Int} (hF : mh_FX h) {s : Int → Int} (r82 : h 82 = s) {k : Int} (hk : 0 ≤ k ∧ k < 6) (h0 : 0 ≤ s (41 + 9 * k + 0) ∧ s (41 + 9 * k + 0) ≤ 6) (h1 : 0 ≤ s (41 + 9 * k + 1) ∧ s (41 + 9 * k + 1) ≤ 9) (h5 : 0 ≤ s (41 + 9 * k + 5) ∧ s (41 + 9 * k + 5) ≤ 9999) (h6 : 0 ≤ s (41 + 9 * k + 6) ∧ s (41 + 9 * k + 6) ≤ 9999) (h8 : 0 ≤ s (41 + 9 * k + 8) ∧ s (41 + 9 * k + 8) ≤ 1) : mh_MP g d yX12_stateOf cX12_stateOf 2 (some .int) 96 [.ref 81, .int (Int32.ofInt (k))] h (some (.int (Int32.ofInt (sp_stm s k)))) := by
  refine mh_M_of RX12 rfl (by decide +kernel) [some (.ref 81), some (.int (Int32.ofInt (k)))] rfl (Nat.le_of_ble_eq_true rfl) (fun f F Z hn0 hR => ?_)
  refine mh_aload0 (pc := 0) F dX12_stateOf_0 ?_
  refine mh_iload1 (pc := 1) F dX12_stateOf_1 ?_
  refine mh_bipush (pc := 2) F dX12_stateOf_2 rfl ?_
  refine mh_callVp (pc := 4) (As := [.int (Int32.ofInt (k)), .int (Int32.ofInt (8))]) (st := []) F (by omega) (k_its (by omega) hF r82 (by omega) (by omega)) wv_RX12_79_yX12_its dX12_stateOf_4 sh_81 rfl (by decide) rfl rfl (Nat.le_of_ble_eq_true rfl) ⟨Nat.zero_le _, Nat.zero_le _⟩ ?_
  refine mh_iconst (pc := 7) F dX12_stateOf_7 ?_
  refine mh_icmp_ne (pc := 8) (tgt := 15) F dX12_stateOf_8 rfl (by omega) (by omega) (fun c_8 => ?_) (fun c_8 => ?_)
  · refine mh_aload0 (pc := 15) F dX12_stateOf_15 ?_
    refine mh_iload1 (pc := 16) F dX12_stateOf_16 ?_
    refine mh_aload0 (pc := 17) F dX12_stateOf_17 ?_
    refine mh_iload1 (pc := 18) F dX12_stateOf_18 ?_
    refine mh_iconst (pc := 19) F dX12_stateOf_19 ?_
    refine mh_callVp (pc := 20) (As := [.int (Int32.ofInt (k)), .int (Int32.ofInt (5))]) (st := [.int (Int32.ofInt (k)), .ref 81]) F (by omega) (k_its (by omega) hF r82 (by omega) (by omega)) wv_RX12_79_yX12_its dX12_stateOf_20 sh_81 rfl (by decide) rfl rfl (Nat.le_of_ble_eq_true rfl) ⟨Nat.zero_le _, Nat.zero_le _⟩ ?_
    refine mh_aload0 (pc := 23) F dX12_stateOf_23 ?_
    refine mh_iload1 (pc := 24) F dX12_stateOf_24 ?_
    refine mh_bipush (pc := 25) F dX12_stateOf_25 rfl ?_
    refine mh_callVp (pc := 27) (As := [.int (Int32.ofInt (k)), .int (Int32.ofInt (6))]) (st := [.int (Int32.ofInt (s (41 + 9 * k + 5))), .int (Int32.ofInt (k)), .ref 81]) F (by omega) (k_its (by omega) hF r82 (by omega) (by omega)) wv_RX12_79_yX12_its dX12_stateOf_27 sh_81 rfl (by decide) rfl rfl (Nat.le_of_ble_eq_true rfl) ⟨Nat.zero_le _, Nat.zero_le _⟩ ?_
    refine mh_callVp (pc := 30) (As := [.int (Int32.ofInt (k)), .int (Int32.ofInt (s (41 + 9 * k + 5))), .int (Int32.ofInt (s (41 + 9 * k + 6)))]) (st := []) F (by omega) (k_stateBy (by omega) hF r82 (by omega) (by omega) (by omega) (by omega) (by omega)) wv_RX12_85_yX12_stateBy dX12_stateOf_30 sh_81 rfl (by decide) rfl rfl (Nat.le_of_ble_eq_true rfl) ⟨Nat.zero_le _, Nat.zero_le _⟩ ?_
    exact mh_ireturnp F Z dX12_stateOf_33 (by unfold sp_stm; grind) rfl
  · refine mh_iconst (pc := 11) F dX12_stateOf_11 ?_
    refine mh_goto (pc := 12) (tgt := 33) F dX12_stateOf_12 rfl ?_
    exact mh_ireturnp F Z dX12_stateOf_33 (by unfold sp_stm; grind) rfl

set_option maxRecDepth 100000 in
set_option maxHeartbeats 4000000 in
theorem k_inBrook {g : mh_G} {d : Nat} (hd : 2 ≤ d) {h : Nat → Int → Int} (hF : mh_FX h) {s : Int → Int} (r82 : h 82 = s) {x : Int} (hm : 0 ≤ s 3 ∧ s 3 ≤ 6) (hx : -2147483648 ≤ x ∧ x < 2147483648) (hc : ∀ j, 0 ≤ j → j < 6 → (0 ≤ s (41 + 9 * j + 2) ∧ s (41 + 9 * j + 2) ≤ 9) ∧ (0 ≤ s (41 + 9 * j + 3) ∧ s (41 + 9 * j + 3) ≤ 3)) : mh_MP g d yX12_inBrook cX12_inBrook 4 (some .int) 96 [.ref 81, .int (Int32.ofInt (x))] h (some (.int (Int32.ofInt (sp_cnt (fun j => decide (s (41 + 9 * j + 3) = 1 ∧ s (41 + 9 * j + 2) = x)) (s 3).toNat)))) := by
  refine mh_M_of RX12 rfl (by decide +kernel) [some (.ref 81), some (.int (Int32.ofInt (x))), none, none] rfl (Nat.le_of_ble_eq_true rfl) (fun f F Z hn0 hR => ?_)
  refine mh_iconst (pc := 0) F dX12_inBrook_0 ?_
  refine mh_istore2 (pc := 1) F dX12_inBrook_1 rfl (by decide) ?_
  refine mh_iconst (pc := 2) F dX12_inBrook_2 ?_
  refine mh_istore3 (pc := 3) F dX12_inBrook_3 rfl (by decide) ?_
  have L4 : ∀ (m : Nat) (n : Int) (k : Int), (0 ≤ k ∧ k ≤ s 3) → (n = sp_cnt (fun j => decide (s (41 + 9 * j + 3) = 1 ∧ s (41 + 9 * j + 2) = x)) k.toNat) → (s 3 - k).toNat = m → mh_V g f 4 96 0 0 4 [some (.ref 81), some (.int (Int32.ofInt (x))), some (.int (Int32.ofInt (n))), some (.int (Int32.ofInt (k)))] [] h := by
    intro m
    induction m using Nat.strongRecOn with
    | _ m ihL4 =>
    intro n k hk hn hmz
    refine mh_iload3 (pc := 4) F dX12_inBrook_4 ?_
    refine mh_aload0 (pc := 5) F dX12_inBrook_5 ?_
    refine mh_getr (b := 82) (pc := 6) F sh_81 (by decide) fw_RX12_9_12 dX12_inBrook_6 rfl (fx_81_0 hF) ?_
    refine mh_iconst (pc := 9) F dX12_inBrook_9 ?_
    refine mh_ialoadr (pc := 10) F sh_82 (by decide) (by omega) dX12_inBrook_10 r82 ?_
    refine mh_icmp_ge (pc := 11) (tgt := 48) F dX12_inBrook_11 rfl (by omega) (by omega) (fun c_11 => ?_) (fun c_11 => ?_)
    · refine mh_iload2 (pc := 48) F dX12_inBrook_48 ?_
      exact mh_ireturnp F Z dX12_inBrook_49 (by rw [hn, show k = s 3 by omega]) rfl
    · have hcj := hc k (by omega) (by omega)
      have hcn := sp_cnt_rg (fun j => decide (s (41 + 9 * j + 3) = 1 ∧ s (41 + 9 * j + 2) = x)) k.toNat
      refine mh_iload2 (pc := 14) F dX12_inBrook_14 ?_
      refine mh_aload0 (pc := 15) F dX12_inBrook_15 ?_
      refine mh_iload3 (pc := 16) F dX12_inBrook_16 ?_
      refine mh_iconst (pc := 17) F dX12_inBrook_17 ?_
      refine mh_callVp (pc := 18) (As := [.int (Int32.ofInt (k)), .int (Int32.ofInt (3))]) (st := [.int (Int32.ofInt (n))]) F (by omega) (k_its (by omega) hF r82 (by omega) (by omega)) wv_RX12_79_yX12_its dX12_inBrook_18 sh_81 rfl (by decide) rfl rfl (Nat.le_of_ble_eq_true rfl) ⟨Nat.zero_le _, Nat.zero_le _⟩ ?_
      refine mh_iconst (pc := 21) F dX12_inBrook_21 ?_
      refine mh_icmp_ne (pc := 22) (tgt := 39) F dX12_inBrook_22 rfl (by omega) (by omega) (fun c_22 => ?_) (fun c_22 => ?_)
      · refine mh_iconst (pc := 39) F dX12_inBrook_39 ?_
        refine mh_iadd (pc := 40) F dX12_inBrook_40 ?_
        refine mh_istore2 (pc := 41) F dX12_inBrook_41 rfl (by decide) ?_
        refine mh_iinc3 (pc := 42) F dX12_inBrook_42 rfl (by decide) ?_
        refine mh_goto (pc := 45) (tgt := 4) F dX12_inBrook_45 rfl ?_
        exact ihL4 _ (by omega) (n + 0) (k + 1) (by omega) (by rw [sp_cnt_at _ hk.1, hn]; grind) rfl
      · refine mh_aload0 (pc := 25) F dX12_inBrook_25 ?_
        refine mh_iload3 (pc := 26) F dX12_inBrook_26 ?_
        refine mh_iconst (pc := 27) F dX12_inBrook_27 ?_
        refine mh_callVp (pc := 28) (As := [.int (Int32.ofInt (k)), .int (Int32.ofInt (2))]) (st := [.int (Int32.ofInt (n))]) F (by omega) (k_its (by omega) hF r82 (by omega) (by omega)) wv_RX12_79_yX12_its dX12_inBrook_28 sh_81 rfl (by decide) rfl rfl (Nat.le_of_ble_eq_true rfl) ⟨Nat.zero_le _, Nat.zero_le _⟩ ?_
        refine mh_iload1 (pc := 31) F dX12_inBrook_31 ?_
        refine mh_icmp_ne (pc := 32) (tgt := 39) F dX12_inBrook_32 rfl (by omega) (by omega) (fun c_32 => ?_) (fun c_32 => ?_)
        · refine mh_iconst (pc := 39) F dX12_inBrook_39 ?_
          refine mh_iadd (pc := 40) F dX12_inBrook_40 ?_
          refine mh_istore2 (pc := 41) F dX12_inBrook_41 rfl (by decide) ?_
          refine mh_iinc3 (pc := 42) F dX12_inBrook_42 rfl (by decide) ?_
          refine mh_goto (pc := 45) (tgt := 4) F dX12_inBrook_45 rfl ?_
          exact ihL4 _ (by omega) (n + 0) (k + 1) (by omega) (by rw [sp_cnt_at _ hk.1, hn]; grind) rfl
        · refine mh_iconst (pc := 35) F dX12_inBrook_35 ?_
          refine mh_goto (pc := 36) (tgt := 40) F dX12_inBrook_36 rfl ?_
          refine mh_iadd (pc := 40) F dX12_inBrook_40 ?_
          refine mh_istore2 (pc := 41) F dX12_inBrook_41 rfl (by decide) ?_
          refine mh_iinc3 (pc := 42) F dX12_inBrook_42 rfl (by decide) ?_
          refine mh_goto (pc := 45) (tgt := 4) F dX12_inBrook_45 rfl ?_
          exact ihL4 _ (by omega) (n + 1) (k + 1) (by omega) (by rw [sp_cnt_at _ hk.1, hn]; grind) rfl
  exact L4 _ 0 0 (by omega) (by rfl) rfl

theorem sp_stp1 {nm : Int → Int} {c n : Int} {f : Int → Int} (h : -100 < c) (h0 : 0 ≤ c) : (n + 1, mh_ur f n c) = sp_stp nm c (n, f) := by unfold sp_stp; rw [if_pos h, if_pos h0]
theorem sp_stp2 {nm : Int → Int} {c n : Int} {f : Int → Int} (h : -100 < c) (h0 : ¬ 0 ≤ c) : (n + 1, mh_ur f n (nm (-1 - c))) = sp_stp nm c (n, f) := by unfold sp_stp; rw [if_pos h, if_neg h0]
theorem sp_stp3 {nm : Int → Int} {c n : Int} {f : Int → Int} (h : -100 - c = 33) (h0 : f (n - 1) = 0) : (n, mh_ur f (n - 1) 1) = sp_stp nm c (n, f) := by unfold sp_stp; rw [if_neg (by omega), if_pos (by omega)]; simp only [h0, if_true]
theorem sp_stp4 {nm : Int → Int} {c n : Int} {f : Int → Int} (h : -100 - c = 33) (h0 : ¬ f (n - 1) = 0) : (n, mh_ur f (n - 1) 0) = sp_stp nm c (n, f) := by unfold sp_stp; rw [if_neg (by omega), if_pos (by omega)]; simp only [h0, if_false]
theorem sp_stp5 {nm : Int → Int} {c n : Int} {f : Int → Int} (h : c ≤ -100) (h0 : ¬ -100 - c = 33) : (n + -1, mh_ur f (n + -1 - 1) (sp_done (-100 - c) (f (n + -1 - 1)) (f (n + -1)))) = sp_stp nm c (n, f) := by
  unfold sp_stp; rw [if_neg (by omega), if_neg (by omega)]
  rw [show n + -1 - 1 = n - 2 by omega, show n + -1 = n - 1 by omega]
set_option maxRecDepth 100000 in
set_option maxHeartbeats 4000000 in
theorem k_worked {g : mh_G} {d : Nat} (hd : 2 ≤ d) {h : Nat → Int → Int} (hF : mh_FX h) {s : Int → Int} (r82 : h 82 = s) {nm : Int → Int} (r86 : h 86 = nm) {f0 : Int → Int} (r87 : h 87 = f0) {u : Int} (hu : 0 ≤ u ∧ u ≤ 1) (hw : sp_wf (sp_code s u) (s (95 + u))) (hn : ∀ i, 0 ≤ i → i < 3 → -2147483648 ≤ nm i ∧ nm i < 2147483648) : mh_M g d yX12_worked cX12_worked 5 (some .int) 96 0 0 [.ref 81, .int (Int32.ofInt (u))] h (fun r h2 => r = some (.int (Int32.ofInt ((sp_run nm (sp_code s u) (s (95 + u)).toNat (0, f0)).2 0))) ∧ mh_FX h2 ∧ mh_fr [87] h h2) := by
  refine mh_M_of RX12 rfl (by decide +kernel) [some (.ref 81), some (.int (Int32.ofInt (u))), none, none, none] rfl (Nat.le_of_ble_eq_true rfl) (fun f F Z hn0 hR => ?_)
  have hl50 := hw.2.1
  have hl0 := hw.1
  refine mh_iconst (pc := 0) F dX12_worked_0 ?_
  refine mh_istore2 (pc := 1) F dX12_worked_1 rfl (by decide) ?_
  refine mh_iconst (pc := 2) F dX12_worked_2 ?_
  refine mh_istore3 (pc := 3) F dX12_worked_3 rfl (by decide) ?_
  have L4 : ∀ (m : Nat) (n : Int) (k : Int) (h2 : Nat → Int → Int) (fz : Int → Int), (0 ≤ k ∧ k ≤ s (95 + u)) → (mh_FX h2) → (mh_fr [87] h h2) → (h2 82 = s) → (h2 86 = nm) → (h2 87 = fz) → ((n, fz) = sp_run nm (sp_code s u) k.toNat (0, f0)) → (s (95 + u) - k).toNat = m → mh_V g f 5 96 0 0 4 [some (.ref 81), some (.int (Int32.ofInt (u))), some (.int (Int32.ofInt (n))), some (.int (Int32.ofInt (k))), none] [] h2 := by
    intro m
    induction m using Nat.strongRecOn with
    | _ m ihL4 =>
    intro n k h2 fz hk F2 q0 q82 q86 q87 hr hmz
    refine mh_iload3 (pc := 4) F dX12_worked_4 ?_
    refine mh_aload0 (pc := 5) F dX12_worked_5 ?_
    refine mh_getr (b := 82) (pc := 6) F sh_81 (by decide) fw_RX12_9_12 dX12_worked_6 rfl (fx_81_0 F2) ?_
    refine mh_bipush (pc := 9) F dX12_worked_9 rfl ?_
    refine mh_iload1 (pc := 11) F dX12_worked_11 ?_
    refine mh_iadd (pc := 12) F dX12_worked_12 ?_
    refine mh_ialoadr (pc := 13) F sh_82 (by decide) (by omega) dX12_worked_13 q82 ?_
    refine mh_icmp_ge (pc := 14) (tgt := 147) F dX12_worked_14 rfl (by omega) (by omega) (fun c_14 => ?_) (fun c_14 => ?_)
    · refine mh_aload0 (pc := 147) F dX12_worked_147 ?_
      refine mh_getr (b := 87) (pc := 148) F sh_81 (by decide) fw_RX12_25_12 dX12_worked_148 rfl (fx_81_7 F2) ?_
      refine mh_iconst (pc := 151) F dX12_worked_151 ?_
      refine mh_ialoadr (pc := 152) F sh_87 (by decide) (by omega) dX12_worked_152 q87 ?_
      exact mh_ireturn F Z dX12_worked_153 ⟨mh_sv (by rw [show fz = (sp_run nm (sp_code s u) k.toNat (0, f0)).2 from congrArg Prod.snd hr, show k = s (95 + u) by omega]), F2, q0⟩
    · have hw1 := hw.2.2.1 k.toNat (by rw [Int.toNat_of_nonneg hk.1]; omega)
      rw [sp_code_at _ _ hk.1] at hw1
      have hd1 := sp_dep_nn hw k.toNat (by rw [Int.toNat_of_nonneg hk.1]; omega)
      have hd2 := sp_dep_le (sp_code s u) k.toNat
      have hnd : n = sp_dep (sp_code s u) k.toNat := by have := congrArg Prod.fst hr; rw [sp_run_dep] at this; exact this
      rw [← hnd] at hw1 hd1 hd2
      have hsr : ∀ i, 0 ≤ i → i < n → -2147483648 ≤ fz i ∧ fz i < 2147483648 := fun i i0 i1 => by
        have := (sp_run_same hw (nm2 := nm) (fun _ _ _ => rfl) hn f0 f0 k.toNat (by rw [Int.toNat_of_nonneg hk.1]; omega) i i0 (by rw [← hnd]; exact i1)).2
        rw [← hr] at this; exact this
      refine mh_aload0 (pc := 17) F dX12_worked_17 ?_
      refine mh_getr (b := 82) (pc := 18) F sh_81 (by decide) fw_RX12_9_12 dX12_worked_18 rfl (fx_81_0 F2) ?_
      refine mh_bipush (pc := 21) F dX12_worked_21 rfl ?_
      refine mh_bipush (pc := 23) F dX12_worked_23 rfl ?_
      refine mh_iload1 (pc := 25) F dX12_worked_25 ?_
      refine mh_imul (pc := 26) F dX12_worked_26 ?_
      refine mh_iadd (pc := 27) F dX12_worked_27 ?_
      refine mh_iload3 (pc := 28) F dX12_worked_28 ?_
      refine mh_iadd (pc := 29) F dX12_worked_29 ?_
      refine mh_ialoadr (pc := 30) F sh_82 (by decide) (by omega) dX12_worked_30 q82 ?_
      refine mh_istore4 (pc := 31) F dX12_worked_31 rfl (by decide) ?_
      refine mh_iload4 (pc := 33) F dX12_worked_33 ?_
      refine mh_bipush (pc := 35) F dX12_worked_35 rfl ?_
      refine mh_icmp_le (pc := 37) (tgt := 71) F dX12_worked_37 rfl (by omega) (by omega) (fun c_37 => ?_) (fun c_37 => ?_)
      · refine mh_bipush (pc := 71) F dX12_worked_71 rfl ?_
        refine mh_iload4 (pc := 73) F dX12_worked_73 ?_
        refine mh_isub (pc := 75) F dX12_worked_75 ?_
        refine mh_bipush (pc := 76) F dX12_worked_76 rfl ?_
        refine mh_icmp_ne (pc := 78) (tgt := 108) F dX12_worked_78 rfl (by omega) (by omega) (fun c_78 => ?_) (fun c_78 => ?_)
        · refine mh_iinc2 (pc := 108) F dX12_worked_108 rfl (by decide) ?_
          refine mh_aload0 (pc := 111) F dX12_worked_111 ?_
          refine mh_getr (b := 87) (pc := 112) F sh_81 (by decide) fw_RX12_25_12 dX12_worked_112 rfl (fx_81_7 F2) ?_
          refine mh_iload2 (pc := 115) F dX12_worked_115 ?_
          refine mh_iconst (pc := 116) F dX12_worked_116 ?_
          refine mh_isub (pc := 117) F dX12_worked_117 ?_
          refine mh_bipush (pc := 118) F dX12_worked_118 rfl ?_
          refine mh_iload4 (pc := 120) F dX12_worked_120 ?_
          refine mh_isub (pc := 122) F dX12_worked_122 ?_
          refine mh_aload0 (pc := 123) F dX12_worked_123 ?_
          refine mh_getr (b := 87) (pc := 124) F sh_81 (by decide) fw_RX12_25_12 dX12_worked_124 rfl (fx_81_7 F2) ?_
          refine mh_iload2 (pc := 127) F dX12_worked_127 ?_
          refine mh_iconst (pc := 128) F dX12_worked_128 ?_
          refine mh_isub (pc := 129) F dX12_worked_129 ?_
          refine mh_ialoadr (pc := 130) F sh_87 (by decide) (by omega) dX12_worked_130 q87 ?_
          refine mh_aload0 (pc := 131) F dX12_worked_131 ?_
          refine mh_getr (b := 87) (pc := 132) F sh_81 (by decide) fw_RX12_25_12 dX12_worked_132 rfl (fx_81_7 F2) ?_
          refine mh_iload2 (pc := 135) F dX12_worked_135 ?_
          refine mh_ialoadr (pc := 136) F sh_87 (by decide) (by omega) dX12_worked_136 q87 ?_
          refine mh_callSp (pc := 137) (As := [.int (Int32.ofInt ((-100) - (s ((97 + (50 * u)) + k)))), .int (Int32.ofInt (fz ((n + (-1)) - 1))), .int (Int32.ofInt (fz (n + (-1))))]) (st := [.int (Int32.ofInt ((n + (-1)) - 1)), .ref 87]) F (by omega) (k_done (by omega) (by omega) (hsr _ (by omega) (by omega)) (hsr _ (by omega) (by omega))) ws_RX12_89 dX12_worked_137 rfl rfl (Nat.le_of_ble_eq_true rfl) ⟨Nat.zero_le _, Nat.zero_le _⟩ ?_
          refine mh_iastore (pc := 140) F sh_87 (by decide) (by omega) dX12_worked_140 ?_
          refine mh_nmh (fun h1 e1 => ?_)
          have F1 : mh_FX h1 := by rw [e1]; exact F2.upa rfl
          have r82_1 : h1 82 = s := by rw [e1, mh_up_row (by decide)]; exact q82
          have r86_1 : h1 86 = nm := by rw [e1, mh_up_row (by decide)]; exact q86
          have r87_1 : h1 87 = mh_ur fz ((n + (-1)) - 1) (sp_done ((-100) - (s ((97 + (50 * u)) + k))) (fz ((n + (-1)) - 1)) (fz (n + (-1)))) := by rw [e1, mh_up_rs, q87]
          have fr1 : mh_fr [87] h h1 := mh_fr.upi q0 e1 (by simp)
          refine mh_iinc3 (pc := 141) F dX12_worked_141 rfl (by decide) ?_
          refine mh_goto (pc := 144) (tgt := 4) F dX12_worked_144 rfl ?_
          refine mh_drop4 ?_
          exact ihL4 _ (by omega) (n + (-1)) (k + 1) h1 (mh_ur fz ((n + (-1)) - 1) (sp_done ((-100) - (s ((97 + (50 * u)) + k))) (fz ((n + (-1)) - 1)) (fz (n + (-1))))) (by omega) F1 fr1 r82_1 r86_1 r87_1 (by rw [sp_run_at _ _ _ hk.1, ← hr, sp_code_at _ _ hk.1]; exact sp_stp5 (by omega) (by omega)) rfl
        · refine mh_aload0 (pc := 81) F dX12_worked_81 ?_
          refine mh_getr (b := 87) (pc := 82) F sh_81 (by decide) fw_RX12_25_12 dX12_worked_82 rfl (fx_81_7 F2) ?_
          refine mh_iload2 (pc := 85) F dX12_worked_85 ?_
          refine mh_iconst (pc := 86) F dX12_worked_86 ?_
          refine mh_isub (pc := 87) F dX12_worked_87 ?_
          refine mh_aload0 (pc := 88) F dX12_worked_88 ?_
          refine mh_getr (b := 87) (pc := 89) F sh_81 (by decide) fw_RX12_25_12 dX12_worked_89 rfl (fx_81_7 F2) ?_
          refine mh_iload2 (pc := 92) F dX12_worked_92 ?_
          refine mh_iconst (pc := 93) F dX12_worked_93 ?_
          refine mh_isub (pc := 94) F dX12_worked_94 ?_
          refine mh_ialoadr (pc := 95) F sh_87 (by decide) (by omega) dX12_worked_95 q87 ?_
          refine mh_if_ne (pc := 96) (tgt := 103) F dX12_worked_96 rfl (hsr _ (by omega) (by omega)) (fun c_96 => ?_) (fun c_96 => ?_)
          · refine mh_iconst (pc := 103) F dX12_worked_103 ?_
            refine mh_iastore (pc := 104) F sh_87 (by decide) (by omega) dX12_worked_104 ?_
            refine mh_nmh (fun h2 e2 => ?_)
            have F2 : mh_FX h2 := by rw [e2]; exact F2.upa rfl
            have r82_2 : h2 82 = s := by rw [e2, mh_up_row (by decide)]; exact q82
            have r86_2 : h2 86 = nm := by rw [e2, mh_up_row (by decide)]; exact q86
            have r87_2 : h2 87 = mh_ur fz (n - 1) 0 := by rw [e2, mh_up_rs, q87]
            have fr2 : mh_fr [87] h h2 := mh_fr.upi q0 e2 (by simp)
            refine mh_goto (pc := 105) (tgt := 141) F dX12_worked_105 rfl ?_
            refine mh_iinc3 (pc := 141) F dX12_worked_141 rfl (by decide) ?_
            refine mh_goto (pc := 144) (tgt := 4) F dX12_worked_144 rfl ?_
            refine mh_drop4 ?_
            exact ihL4 _ (by omega) n (k + 1) h2 (mh_ur fz (n - 1) 0) (by omega) F2 fr2 r82_2 r86_2 r87_2 (by rw [sp_run_at _ _ _ hk.1, ← hr, sp_code_at _ _ hk.1]; exact sp_stp4 (by omega) (by omega)) rfl
          · refine mh_iconst (pc := 99) F dX12_worked_99 ?_
            refine mh_goto (pc := 100) (tgt := 104) F dX12_worked_100 rfl ?_
            refine mh_iastore (pc := 104) F sh_87 (by decide) (by omega) dX12_worked_104 ?_
            refine mh_nmh (fun h3 e3 => ?_)
            have F3 : mh_FX h3 := by rw [e3]; exact F2.upa rfl
            have r82_3 : h3 82 = s := by rw [e3, mh_up_row (by decide)]; exact q82
            have r86_3 : h3 86 = nm := by rw [e3, mh_up_row (by decide)]; exact q86
            have r87_3 : h3 87 = mh_ur fz (n - 1) 1 := by rw [e3, mh_up_rs, q87]
            have fr3 : mh_fr [87] h h3 := mh_fr.upi q0 e3 (by simp)
            refine mh_goto (pc := 105) (tgt := 141) F dX12_worked_105 rfl ?_
            refine mh_iinc3 (pc := 141) F dX12_worked_141 rfl (by decide) ?_
            refine mh_goto (pc := 144) (tgt := 4) F dX12_worked_144 rfl ?_
            refine mh_drop4 ?_
            exact ihL4 _ (by omega) n (k + 1) h3 (mh_ur fz (n - 1) 1) (by omega) F3 fr3 r82_3 r86_3 r87_3 (by rw [sp_run_at _ _ _ hk.1, ← hr, sp_code_at _ _ hk.1]; exact sp_stp3 (by omega) (by omega)) rfl
      · refine mh_aload0 (pc := 40) F dX12_worked_40 ?_
        refine mh_getr (b := 87) (pc := 41) F sh_81 (by decide) fw_RX12_25_12 dX12_worked_41 rfl (fx_81_7 F2) ?_
        refine mh_iload2 (pc := 44) F dX12_worked_44 ?_
        refine mh_iload4 (pc := 45) F dX12_worked_45 ?_
        refine mh_if_lt (pc := 47) (tgt := 55) F dX12_worked_47 rfl (by omega) (fun c_47 => ?_) (fun c_47 => ?_)
        · refine mh_aload0 (pc := 55) F dX12_worked_55 ?_
          refine mh_getr (b := 86) (pc := 56) F sh_81 (by decide) fw_RX12_22_12 dX12_worked_56 rfl (fx_81_6 F2) ?_
          refine mh_iconst (pc := 59) F dX12_worked_59 ?_
          refine mh_iload4 (pc := 60) F dX12_worked_60 ?_
          refine mh_isub (pc := 62) F dX12_worked_62 ?_
          refine mh_ialoadr (pc := 63) F sh_86 (by decide) (by omega) dX12_worked_63 q86 ?_
          refine mh_iastore (pc := 64) F sh_87 (by decide) (by omega) dX12_worked_64 ?_
          refine mh_nmh (fun h4 e4 => ?_)
          have F4 : mh_FX h4 := by rw [e4]; exact F2.upa rfl
          have r82_4 : h4 82 = s := by rw [e4, mh_up_row (by decide)]; exact q82
          have r86_4 : h4 86 = nm := by rw [e4, mh_up_row (by decide)]; exact q86
          have r87_4 : h4 87 = mh_ur fz n (nm ((-1) - (s ((97 + (50 * u)) + k)))) := by rw [e4, mh_up_rs, q87]
          have fr4 : mh_fr [87] h h4 := mh_fr.upi q0 e4 (by simp)
          refine mh_iinc2 (pc := 65) F dX12_worked_65 rfl (by decide) ?_
          refine mh_goto (pc := 68) (tgt := 141) F dX12_worked_68 rfl ?_
          refine mh_iinc3 (pc := 141) F dX12_worked_141 rfl (by decide) ?_
          refine mh_goto (pc := 144) (tgt := 4) F dX12_worked_144 rfl ?_
          refine mh_drop4 ?_
          exact ihL4 _ (by omega) (n + 1) (k + 1) h4 (mh_ur fz n (nm ((-1) - (s ((97 + (50 * u)) + k))))) (by omega) F4 fr4 r82_4 r86_4 r87_4 (by rw [sp_run_at _ _ _ hk.1, ← hr, sp_code_at _ _ hk.1]; exact sp_stp2 (by omega) (by omega)) rfl
        · refine mh_iload4 (pc := 50) F dX12_worked_50 ?_
          refine mh_goto (pc := 52) (tgt := 64) F dX12_worked_52 rfl ?_
          refine mh_iastore (pc := 64) F sh_87 (by decide) (by omega) dX12_worked_64 ?_
          refine mh_nmh (fun h5 e5 => ?_)
          have F5 : mh_FX h5 := by rw [e5]; exact F2.upa rfl
          have r82_5 : h5 82 = s := by rw [e5, mh_up_row (by decide)]; exact q82
          have r86_5 : h5 86 = nm := by rw [e5, mh_up_row (by decide)]; exact q86
          have r87_5 : h5 87 = mh_ur fz n (s ((97 + (50 * u)) + k)) := by rw [e5, mh_up_rs, q87]
          have fr5 : mh_fr [87] h h5 := mh_fr.upi q0 e5 (by simp)
          refine mh_iinc2 (pc := 65) F dX12_worked_65 rfl (by decide) ?_
          refine mh_goto (pc := 68) (tgt := 141) F dX12_worked_68 rfl ?_
          refine mh_iinc3 (pc := 141) F dX12_worked_141 rfl (by decide) ?_
          refine mh_goto (pc := 144) (tgt := 4) F dX12_worked_144 rfl ?_
          refine mh_drop4 ?_
          exact ihL4 _ (by omega) (n + 1) (k + 1) h5 (mh_ur fz n (s ((97 + (50 * u)) + k))) (by omega) F5 fr5 r82_5 r86_5 r87_5 (by rw [sp_run_at _ _ _ hk.1, ← hr, sp_code_at _ _ hk.1]; exact sp_stp1 (by omega) (by omega)) rfl
  exact L4 _ 0 0 h f0 (by have := hw.1; omega) hF (mh_fr.rf.mono (by simp)) r82 r86 r87 rfl rfl

theorem mh_td4 {x : Int} (hx : -2147483648 ≤ x ∧ x < 2147483648) : -2147483648 ≤ x.tdiv 4 ∧ x.tdiv 4 < 2147483648 := by
  have h : (x.tdiv 4).natAbs = x.natAbs / 4 := Int.natAbs_tdiv x 4
  omega
theorem sp_val_eq {nm : Int → Int} {code : Nat → Int} {len a b c : Int} {fz : Int → Int} (h : sp_wf code len) (hl : 0 < len) (hn : ∀ i, 0 ≤ i → i < 3 → nm i = sp_nm a b c i) (hr : ∀ i, 0 ≤ i → i < 3 → -2147483648 ≤ nm i ∧ nm i < 2147483648) :
    (sp_run nm code len.toNat (0, fz)).2 0 = sp_val code len a b c ∧ (-2147483648 ≤ sp_val code len a b c ∧ sp_val code len a b c < 2147483648) := by
  have h1 := h.2.2.2 hl
  have h2 := sp_run_same h hn hr fz (fun _ => 0) len.toNat (by omega) 0 (by decide) (by omega)
  have h3 := h2.2
  rw [h2.1] at h3
  exact ⟨h2.1, h3⟩
set_option maxRecDepth 100000 in
set_option maxHeartbeats 4000000 in
theorem k_lawBy0 {g : mh_G} {d : Nat} (hd : 3 ≤ d) {h : Nat → Int → Int} (hF : mh_FX h) {s : Int → Int} (r82 : h 82 = s) {nm : Int → Int} (r86 : h 86 = nm) {fz : Int → Int} (r87 : h 87 = fz) {a b c : Int} (hw : sp_wfs s) (ha : -2147483648 ≤ a ∧ a < 2147483648) (hb : -2147483648 ≤ b ∧ b < 2147483648) (hc : -2147483648 ≤ c ∧ c < 2147483648) : mh_M g d yX12_lawBy cX12_lawBy 6 (some .int) 96 0 0 [.ref 81, .int (Int32.ofInt (0)), .int (Int32.ofInt (a)), .int (Int32.ofInt (b)), .int (Int32.ofInt (c))] h (fun r h2 => r = some (.int (Int32.ofInt (sp_law s 0 a b c))) ∧ mh_FX h2 ∧ mh_fr [86, 87] h h2) := by
  refine mh_M_of RX12 rfl (by decide +kernel) [some (.ref 81), some (.int (Int32.ofInt (0))), some (.int (Int32.ofInt (a))), some (.int (Int32.ofInt (b))), some (.int (Int32.ofInt (c))), none] rfl (Nat.le_of_ble_eq_true rfl) (fun f F Z hn0 hR => ?_)
  have hl50 := hw.1.2.1
  have hl51 := hw.2.2.1
  have hl0 := hw.1.1
  have hl1 := hw.2.1
  have hta := mh_td4 ha
  refine mh_aload0 (pc := 0) F dX12_lawBy_0 ?_
  refine mh_getr (b := 86) (pc := 1) F sh_81 (by decide) fw_RX12_22_12 dX12_lawBy_1 rfl (fx_81_6 hF) ?_
  refine mh_iconst (pc := 4) F dX12_lawBy_4 ?_
  refine mh_iload2 (pc := 5) F dX12_lawBy_5 ?_
  refine mh_iastore (pc := 6) F sh_86 (by decide) (by omega) dX12_lawBy_6 ?_
  refine mh_nmh (fun h1 e1 => ?_)
  have F1 : mh_FX h1 := by rw [e1]; exact hF.upa rfl
  have r82_1 : h1 82 = s := by rw [e1, mh_up_row (by decide)]; exact r82
  have r86_1 : h1 86 = mh_ur nm 0 a := by rw [e1, mh_up_rs, r86]
  have r87_1 : h1 87 = fz := by rw [e1, mh_up_row (by decide)]; exact r87
  have fr1 : mh_fr [86] h h1 := mh_fr.up mh_fr.rf e1
  refine mh_aload0 (pc := 7) F dX12_lawBy_7 ?_
  refine mh_getr (b := 86) (pc := 8) F sh_81 (by decide) fw_RX12_22_12 dX12_lawBy_8 rfl (fx_81_6 F1) ?_
  refine mh_iconst (pc := 11) F dX12_lawBy_11 ?_
  refine mh_iload3 (pc := 12) F dX12_lawBy_12 ?_
  refine mh_iastore (pc := 13) F sh_86 (by decide) (by omega) dX12_lawBy_13 ?_
  refine mh_nmh (fun h2 e2 => ?_)
  have F2 : mh_FX h2 := by rw [e2]; exact F1.upa rfl
  have r82_2 : h2 82 = s := by rw [e2, mh_up_row (by decide)]; exact r82_1
  have r86_2 : h2 86 = mh_ur (mh_ur nm 0 a) 1 b := by rw [e2, mh_up_rs, r86_1]
  have r87_2 : h2 87 = fz := by rw [e2, mh_up_row (by decide)]; exact r87_1
  have fr2 : mh_fr [86] h h2 := mh_fr.upi fr1 e2 (by simp)
  refine mh_aload0 (pc := 14) F dX12_lawBy_14 ?_
  refine mh_getr (b := 86) (pc := 15) F sh_81 (by decide) fw_RX12_22_12 dX12_lawBy_15 rfl (fx_81_6 F2) ?_
  refine mh_iconst (pc := 18) F dX12_lawBy_18 ?_
  refine mh_iload4 (pc := 19) F dX12_lawBy_19 ?_
  refine mh_iastore (pc := 21) F sh_86 (by decide) (by omega) dX12_lawBy_21 ?_
  refine mh_nmh (fun h3 e3 => ?_)
  have F3 : mh_FX h3 := by rw [e3]; exact F2.upa rfl
  have r82_3 : h3 82 = s := by rw [e3, mh_up_row (by decide)]; exact r82_2
  have r86_3 : h3 86 = mh_ur (mh_ur (mh_ur nm 0 a) 1 b) 2 c := by rw [e3, mh_up_rs, r86_2]
  have r87_3 : h3 87 = fz := by rw [e3, mh_up_row (by decide)]; exact r87_2
  have fr3 : mh_fr [86] h h3 := mh_fr.upi fr2 e3 (by simp)
  refine mh_aload0 (pc := 22) F dX12_lawBy_22 ?_
  refine mh_getr (b := 82) (pc := 23) F sh_81 (by decide) fw_RX12_9_12 dX12_lawBy_23 rfl (fx_81_0 F3) ?_
  refine mh_bipush (pc := 26) F dX12_lawBy_26 rfl ?_
  refine mh_iload1 (pc := 28) F dX12_lawBy_28 ?_
  refine mh_iadd (pc := 29) F dX12_lawBy_29 ?_
  refine mh_top (y := 95) rfl ?_
  refine mh_ialoadr (pc := 30) F sh_82 (by decide) (by omega) dX12_lawBy_30 r82_3 ?_
  refine mh_if_le (pc := 31) (tgt := 38) F dX12_lawBy_31 rfl (by omega) (fun c_31 => ?_) (fun c_31 => ?_)
  · refine mh_iconst (pc := 38) F dX12_lawBy_38 ?_
    refine mh_istore5 (pc := 39) F dX12_lawBy_39 rfl (by decide) ?_
    refine mh_iload1 (pc := 41) F dX12_lawBy_41 ?_
    refine mh_if_ne (pc := 42) (tgt := 68) F dX12_lawBy_42 rfl (by omega) (fun c_42 => ?_) (fun c_42 => ?_)
    · exact absurd c_42 (by decide)
    · refine mh_iload5 (pc := 45) F dX12_lawBy_45 ?_
      refine mh_if_eq (pc := 47) (tgt := 58) F dX12_lawBy_47 rfl (by omega) (fun c_47 => ?_) (fun c_47 => ?_)
      · refine mh_iload2 (pc := 58) F dX12_lawBy_58 ?_
        refine mh_iconst (pc := 59) F dX12_lawBy_59 ?_
        refine mh_idiv (pc := 60) F dX12_lawBy_60 (by omega) (by omega) (by omega) ?_
        refine mh_iconst (pc := 61) F dX12_lawBy_61 ?_
        refine mh_bipush (pc := 62) F dX12_lawBy_62 rfl ?_
        refine mh_callSp (pc := 64) (As := [.int (Int32.ofInt (a.tdiv 4)), .int (Int32.ofInt (0)), .int (Int32.ofInt (40))]) (st := []) F (by omega) (k_held (by omega) (by omega) (by omega) (by omega)) ws_RX12_95 dX12_lawBy_64 rfl rfl (Nat.le_of_ble_eq_true rfl) ⟨Nat.zero_le _, Nat.zero_le _⟩ ?_
        exact mh_ireturn F Z dX12_lawBy_67 ⟨mh_sv (by unfold sp_law; rw [if_pos rfl]; congr 1; first | (rw [if_pos (by omega)]; done) | (rw [if_neg (by omega)])), F3, fr3.mono (by simp)⟩
      · exact absurd c_47 (by decide)
  · refine mh_iconst (pc := 34) F dX12_lawBy_34 ?_
    refine mh_goto (pc := 35) (tgt := 39) F dX12_lawBy_35 rfl ?_
    refine mh_istore5 (pc := 39) F dX12_lawBy_39 rfl (by decide) ?_
    refine mh_iload1 (pc := 41) F dX12_lawBy_41 ?_
    refine mh_if_ne (pc := 42) (tgt := 68) F dX12_lawBy_42 rfl (by omega) (fun c_42 => ?_) (fun c_42 => ?_)
    · exact absurd c_42 (by decide)
    · refine mh_iload5 (pc := 45) F dX12_lawBy_45 ?_
      refine mh_if_eq (pc := 47) (tgt := 58) F dX12_lawBy_47 rfl (by omega) (fun c_47 => ?_) (fun c_47 => ?_)
      · exact absurd c_47 (by decide)
      · refine mh_aload0 (pc := 50) F dX12_lawBy_50 ?_
        refine mh_iconst (pc := 51) F dX12_lawBy_51 ?_
        have hn4 : ∀ i, 0 ≤ i → i < 3 → (mh_ur (mh_ur (mh_ur nm 0 a) 1 b) 2 c) i = sp_nm a b c i := by
          intro i i0 i1; unfold mh_ur sp_nm; grind
        have hr4 : ∀ i, 0 ≤ i → i < 3 → -2147483648 ≤ (mh_ur (mh_ur (mh_ur nm 0 a) 1 b) 2 c) i ∧ (mh_ur (mh_ur (mh_ur nm 0 a) 1 b) 2 c) i < 2147483648 := by
          intro i i0 i1; rw [hn4 i i0 i1]; unfold sp_nm; grind
        refine mh_callV0 (pc := 52) (As := [.int (Int32.ofInt (0))]) (st := []) F (by omega) (k_worked (by omega) F3 r82_3 r86_3 r87_3 (by omega) hw.1 hr4) wv_RX12_92_yX12_worked dX12_lawBy_52 sh_81 rfl (by decide) rfl rfl (Nat.le_of_ble_eq_true rfl) ⟨Nat.zero_le _, Nat.zero_le _⟩ (fun r5 h5 q5 => ?_)
        obtain ⟨rfl, F5, fr5⟩ := q5
        have hv5 := sp_val_eq (fz := fz) hw.1 (by omega) hn4 hr4
        refine mh_top (st := []) (mh_eqI hv5.1) ?_
        have r82_6 : h5 82 = s := (fr5 _ (by decide)).trans r82_3
        have r86_6 : h5 86 = mh_ur (mh_ur (mh_ur nm 0 a) 1 b) 2 c := (fr5 _ (by decide)).trans r86_3
        have fr6 : mh_fr [87, 86] h h5 := (mh_fr.tr fr3 fr5).mono (by simp)
        have hvr := hv5.2
        refine mh_goto (pc := 55) (tgt := 61) F dX12_lawBy_55 rfl ?_
        refine mh_iconst (pc := 61) F dX12_lawBy_61 ?_
        refine mh_bipush (pc := 62) F dX12_lawBy_62 rfl ?_
        refine mh_callSp (pc := 64) (As := [.int (Int32.ofInt (sp_val (sp_code s 0) (s 95) a b c)), .int (Int32.ofInt (0)), .int (Int32.ofInt (40))]) (st := []) F (by omega) (k_held (by omega) (by omega) (by omega) (by omega)) ws_RX12_95 dX12_lawBy_64 rfl rfl (Nat.le_of_ble_eq_true rfl) ⟨Nat.zero_le _, Nat.zero_le _⟩ ?_
        exact mh_ireturn F Z dX12_lawBy_67 ⟨mh_sv (by unfold sp_law; rw [if_pos rfl]; congr 1; first | (rw [if_pos (by omega)]; done) | (rw [if_neg (by omega)])), F5, fr6.mono (by simp)⟩

set_option maxRecDepth 100000 in
set_option maxHeartbeats 4000000 in
theorem k_lawBy1 {g : mh_G} {d : Nat} (hd : 3 ≤ d) {h : Nat → Int → Int} (hF : mh_FX h) {s : Int → Int} (r82 : h 82 = s) {nm : Int → Int} (r86 : h 86 = nm) {fz : Int → Int} (r87 : h 87 = fz) {a b c : Int} (hw : sp_wfs s) (ha : -2147483648 ≤ a ∧ a < 2147483648) (hb : -2147483648 ≤ b ∧ b < 2147483648) (hc : -2147483648 ≤ c ∧ c < 2147483648) : mh_M g d yX12_lawBy cX12_lawBy 6 (some .int) 96 0 0 [.ref 81, .int (Int32.ofInt (1)), .int (Int32.ofInt (a)), .int (Int32.ofInt (b)), .int (Int32.ofInt (c))] h (fun r h2 => r = some (.int (Int32.ofInt (sp_law s 1 a b c))) ∧ mh_FX h2 ∧ mh_fr [86, 87] h h2) := by
  refine mh_M_of RX12 rfl (by decide +kernel) [some (.ref 81), some (.int (Int32.ofInt (1))), some (.int (Int32.ofInt (a))), some (.int (Int32.ofInt (b))), some (.int (Int32.ofInt (c))), none] rfl (Nat.le_of_ble_eq_true rfl) (fun f F Z hn0 hR => ?_)
  have hl50 := hw.1.2.1
  have hl51 := hw.2.2.1
  have hl0 := hw.1.1
  have hl1 := hw.2.1
  have hta := mh_td4 ha
  refine mh_aload0 (pc := 0) F dX12_lawBy_0 ?_
  refine mh_getr (b := 86) (pc := 1) F sh_81 (by decide) fw_RX12_22_12 dX12_lawBy_1 rfl (fx_81_6 hF) ?_
  refine mh_iconst (pc := 4) F dX12_lawBy_4 ?_
  refine mh_iload2 (pc := 5) F dX12_lawBy_5 ?_
  refine mh_iastore (pc := 6) F sh_86 (by decide) (by omega) dX12_lawBy_6 ?_
  refine mh_nmh (fun h1 e1 => ?_)
  have F1 : mh_FX h1 := by rw [e1]; exact hF.upa rfl
  have r82_1 : h1 82 = s := by rw [e1, mh_up_row (by decide)]; exact r82
  have r86_1 : h1 86 = mh_ur nm 0 a := by rw [e1, mh_up_rs, r86]
  have r87_1 : h1 87 = fz := by rw [e1, mh_up_row (by decide)]; exact r87
  have fr1 : mh_fr [86] h h1 := mh_fr.up mh_fr.rf e1
  refine mh_aload0 (pc := 7) F dX12_lawBy_7 ?_
  refine mh_getr (b := 86) (pc := 8) F sh_81 (by decide) fw_RX12_22_12 dX12_lawBy_8 rfl (fx_81_6 F1) ?_
  refine mh_iconst (pc := 11) F dX12_lawBy_11 ?_
  refine mh_iload3 (pc := 12) F dX12_lawBy_12 ?_
  refine mh_iastore (pc := 13) F sh_86 (by decide) (by omega) dX12_lawBy_13 ?_
  refine mh_nmh (fun h2 e2 => ?_)
  have F2 : mh_FX h2 := by rw [e2]; exact F1.upa rfl
  have r82_2 : h2 82 = s := by rw [e2, mh_up_row (by decide)]; exact r82_1
  have r86_2 : h2 86 = mh_ur (mh_ur nm 0 a) 1 b := by rw [e2, mh_up_rs, r86_1]
  have r87_2 : h2 87 = fz := by rw [e2, mh_up_row (by decide)]; exact r87_1
  have fr2 : mh_fr [86] h h2 := mh_fr.upi fr1 e2 (by simp)
  refine mh_aload0 (pc := 14) F dX12_lawBy_14 ?_
  refine mh_getr (b := 86) (pc := 15) F sh_81 (by decide) fw_RX12_22_12 dX12_lawBy_15 rfl (fx_81_6 F2) ?_
  refine mh_iconst (pc := 18) F dX12_lawBy_18 ?_
  refine mh_iload4 (pc := 19) F dX12_lawBy_19 ?_
  refine mh_iastore (pc := 21) F sh_86 (by decide) (by omega) dX12_lawBy_21 ?_
  refine mh_nmh (fun h3 e3 => ?_)
  have F3 : mh_FX h3 := by rw [e3]; exact F2.upa rfl
  have r82_3 : h3 82 = s := by rw [e3, mh_up_row (by decide)]; exact r82_2
  have r86_3 : h3 86 = mh_ur (mh_ur (mh_ur nm 0 a) 1 b) 2 c := by rw [e3, mh_up_rs, r86_2]
  have r87_3 : h3 87 = fz := by rw [e3, mh_up_row (by decide)]; exact r87_2
  have fr3 : mh_fr [86] h h3 := mh_fr.upi fr2 e3 (by simp)
  refine mh_aload0 (pc := 22) F dX12_lawBy_22 ?_
  refine mh_getr (b := 82) (pc := 23) F sh_81 (by decide) fw_RX12_9_12 dX12_lawBy_23 rfl (fx_81_0 F3) ?_
  refine mh_bipush (pc := 26) F dX12_lawBy_26 rfl ?_
  refine mh_iload1 (pc := 28) F dX12_lawBy_28 ?_
  refine mh_iadd (pc := 29) F dX12_lawBy_29 ?_
  refine mh_top (y := 96) rfl ?_
  refine mh_ialoadr (pc := 30) F sh_82 (by decide) (by omega) dX12_lawBy_30 r82_3 ?_
  refine mh_if_le (pc := 31) (tgt := 38) F dX12_lawBy_31 rfl (by omega) (fun c_31 => ?_) (fun c_31 => ?_)
  · refine mh_iconst (pc := 38) F dX12_lawBy_38 ?_
    refine mh_istore5 (pc := 39) F dX12_lawBy_39 rfl (by decide) ?_
    refine mh_iload1 (pc := 41) F dX12_lawBy_41 ?_
    refine mh_if_ne (pc := 42) (tgt := 68) F dX12_lawBy_42 rfl (by omega) (fun c_42 => ?_) (fun c_42 => ?_)
    · refine mh_iload5 (pc := 68) F dX12_lawBy_68 ?_
      refine mh_if_eq (pc := 70) (tgt := 81) F dX12_lawBy_70 rfl (by omega) (fun c_70 => ?_) (fun c_70 => ?_)
      · refine mh_iload2 (pc := 81) F dX12_lawBy_81 ?_
        refine mh_if_ne (pc := 82) (tgt := 90) F dX12_lawBy_82 rfl (by omega) (fun c_82 => ?_) (fun c_82 => ?_)
        · refine mh_iload2 (pc := 90) F dX12_lawBy_90 ?_
          refine mh_iconst (pc := 91) F dX12_lawBy_91 ?_
          refine mh_icmp_ne (pc := 92) (tgt := 100) F dX12_lawBy_92 rfl (by omega) (by omega) (fun c_92 => ?_) (fun c_92 => ?_)
          · refine mh_iconst (pc := 100) F dX12_lawBy_100 ?_
            refine mh_iconst (pc := 101) F dX12_lawBy_101 ?_
            refine mh_sipush (pc := 102) F dX12_lawBy_102 rfl ?_
            refine mh_callSp (pc := 105) (As := [.int (Int32.ofInt (0)), .int (Int32.ofInt (0)), .int (Int32.ofInt (999))]) (st := []) F (by omega) (k_held (by omega) (by omega) (by omega) (by omega)) ws_RX12_95 dX12_lawBy_105 rfl rfl (Nat.le_of_ble_eq_true rfl) ⟨Nat.zero_le _, Nat.zero_le _⟩ ?_
            exact mh_ireturn F Z dX12_lawBy_108 ⟨mh_sv (by unfold sp_law; rw [if_neg (by decide)]; congr 1; first | (rw [if_pos (by omega)]; done) | (rw [if_neg (by omega)]; grind)), F3, fr3.mono (by simp)⟩
          · refine mh_bipush (pc := 95) F dX12_lawBy_95 rfl ?_
            refine mh_goto (pc := 97) (tgt := 101) F dX12_lawBy_97 rfl ?_
            refine mh_iconst (pc := 101) F dX12_lawBy_101 ?_
            refine mh_sipush (pc := 102) F dX12_lawBy_102 rfl ?_
            refine mh_callSp (pc := 105) (As := [.int (Int32.ofInt (30)), .int (Int32.ofInt (0)), .int (Int32.ofInt (999))]) (st := []) F (by omega) (k_held (by omega) (by omega) (by omega) (by omega)) ws_RX12_95 dX12_lawBy_105 rfl rfl (Nat.le_of_ble_eq_true rfl) ⟨Nat.zero_le _, Nat.zero_le _⟩ ?_
            exact mh_ireturn F Z dX12_lawBy_108 ⟨mh_sv (by unfold sp_law; rw [if_neg (by decide)]; congr 1; first | (rw [if_pos (by omega)]; done) | (rw [if_neg (by omega)]; grind)), F3, fr3.mono (by simp)⟩
        · refine mh_bipush (pc := 85) F dX12_lawBy_85 rfl ?_
          refine mh_goto (pc := 87) (tgt := 101) F dX12_lawBy_87 rfl ?_
          refine mh_iconst (pc := 101) F dX12_lawBy_101 ?_
          refine mh_sipush (pc := 102) F dX12_lawBy_102 rfl ?_
          refine mh_callSp (pc := 105) (As := [.int (Int32.ofInt (50)), .int (Int32.ofInt (0)), .int (Int32.ofInt (999))]) (st := []) F (by omega) (k_held (by omega) (by omega) (by omega) (by omega)) ws_RX12_95 dX12_lawBy_105 rfl rfl (Nat.le_of_ble_eq_true rfl) ⟨Nat.zero_le _, Nat.zero_le _⟩ ?_
          exact mh_ireturn F Z dX12_lawBy_108 ⟨mh_sv (by unfold sp_law; rw [if_neg (by decide)]; congr 1; first | (rw [if_pos (by omega)]; done) | (rw [if_neg (by omega)]; grind)), F3, fr3.mono (by simp)⟩
      · exact absurd c_70 (by decide)
    · exact absurd c_42 (by decide)
  · refine mh_iconst (pc := 34) F dX12_lawBy_34 ?_
    refine mh_goto (pc := 35) (tgt := 39) F dX12_lawBy_35 rfl ?_
    refine mh_istore5 (pc := 39) F dX12_lawBy_39 rfl (by decide) ?_
    refine mh_iload1 (pc := 41) F dX12_lawBy_41 ?_
    refine mh_if_ne (pc := 42) (tgt := 68) F dX12_lawBy_42 rfl (by omega) (fun c_42 => ?_) (fun c_42 => ?_)
    · refine mh_iload5 (pc := 68) F dX12_lawBy_68 ?_
      refine mh_if_eq (pc := 70) (tgt := 81) F dX12_lawBy_70 rfl (by omega) (fun c_70 => ?_) (fun c_70 => ?_)
      · exact absurd c_70 (by decide)
      · refine mh_aload0 (pc := 73) F dX12_lawBy_73 ?_
        refine mh_iconst (pc := 74) F dX12_lawBy_74 ?_
        have hn4 : ∀ i, 0 ≤ i → i < 3 → (mh_ur (mh_ur (mh_ur nm 0 a) 1 b) 2 c) i = sp_nm a b c i := by
          intro i i0 i1; unfold mh_ur sp_nm; grind
        have hr4 : ∀ i, 0 ≤ i → i < 3 → -2147483648 ≤ (mh_ur (mh_ur (mh_ur nm 0 a) 1 b) 2 c) i ∧ (mh_ur (mh_ur (mh_ur nm 0 a) 1 b) 2 c) i < 2147483648 := by
          intro i i0 i1; rw [hn4 i i0 i1]; unfold sp_nm; grind
        refine mh_callV0 (pc := 75) (As := [.int (Int32.ofInt (1))]) (st := []) F (by omega) (k_worked (by omega) F3 r82_3 r86_3 r87_3 (by omega) hw.2 hr4) wv_RX12_92_yX12_worked dX12_lawBy_75 sh_81 rfl (by decide) rfl rfl (Nat.le_of_ble_eq_true rfl) ⟨Nat.zero_le _, Nat.zero_le _⟩ (fun r5 h5 q5 => ?_)
        obtain ⟨rfl, F5, fr5⟩ := q5
        have hv5 := sp_val_eq (fz := fz) hw.2 (by omega) hn4 hr4
        refine mh_top (st := []) (mh_eqI hv5.1) ?_
        have r82_6 : h5 82 = s := (fr5 _ (by decide)).trans r82_3
        have r86_6 : h5 86 = mh_ur (mh_ur (mh_ur nm 0 a) 1 b) 2 c := (fr5 _ (by decide)).trans r86_3
        have fr6 : mh_fr [87, 86] h h5 := (mh_fr.tr fr3 fr5).mono (by simp)
        have hvr := hv5.2
        refine mh_goto (pc := 78) (tgt := 101) F dX12_lawBy_78 rfl ?_
        refine mh_iconst (pc := 101) F dX12_lawBy_101 ?_
        refine mh_sipush (pc := 102) F dX12_lawBy_102 rfl ?_
        refine mh_callSp (pc := 105) (As := [.int (Int32.ofInt (sp_val (sp_code s 1) (s 96) a b c)), .int (Int32.ofInt (0)), .int (Int32.ofInt (999))]) (st := []) F (by omega) (k_held (by omega) (by omega) (by omega) (by omega)) ws_RX12_95 dX12_lawBy_105 rfl rfl (Nat.le_of_ble_eq_true rfl) ⟨Nat.zero_le _, Nat.zero_le _⟩ ?_
        exact mh_ireturn F Z dX12_lawBy_108 ⟨mh_sv (by unfold sp_law; rw [if_neg (by decide)]; congr 1; first | (rw [if_pos (by omega)]; done) | (rw [if_neg (by omega)]; grind)), F5, fr6.mono (by simp)⟩
    · exact absurd c_42 (by decide)

