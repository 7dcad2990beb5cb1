/-! the class's texts: what they give -/
def sc_de (x : Int) : Int := if x < 3 then -1 - x else if 1000 ≤ x then x - 1000 else -100 - x
def sc_dc (cd : Int → Int) : Nat → Int := fun k => sc_de (cd (k : Int))
def sc_cv (cd : Int → Int) (len : Int) : Prop := ∀ k, 0 ≤ k → k < len → (0 ≤ cd k ∧ cd k ≤ 2) ∨ (1000 ≤ cd k ∧ cd k ≤ 10999) ∨ (33 ≤ cd k ∧ cd k ≤ 124)
theorem sc_de1 {x : Int} (h : 1000 ≤ x) : sc_de x = x - 1000 := by unfold sc_de; rw [if_neg (by omega), if_pos h]
theorem sc_de2 {x : Int} (h : x < 3) : sc_de x = -1 - x := if_pos h
theorem sc_de3 {x : Int} (h : 3 ≤ x) (h2 : x < 1000) : sc_de x = -100 - x := by unfold sc_de; rw [if_neg (by omega), if_neg (by omega)]
theorem sc_s1 {nm : Int → Int} {x n : Int} {f : Int → Int} (h : 1000 ≤ x) : (n + 1, mh_ur f n (x - 1000)) = sp_stp nm (sc_de x) (n, f) := by rw [sc_de1 h]; exact sp_stp1 (by omega) (by omega)
theorem sc_s2 {nm : Int → Int} {x n v : Int} {f : Int → Int} (h : 0 ≤ x ∧ x ≤ 2) (hv : v = nm x) : (n + 1, mh_ur f n v) = sp_stp nm (sc_de x) (n, f) := by
  rw [sc_de2 (by omega), ← sp_stp2 (by omega) (by omega), show -1 - (-1 - x) = x by omega, hv]
theorem sc_s3 {nm : Int → Int} {x n : Int} {f : Int → Int} (h : x = 33) (h0 : f (n - 1) = 0) : (n, mh_ur f (n - 1) 1) = sp_stp nm (sc_de x) (n, f) := by rw [sc_de3 (by omega) (by omega)]; exact sp_stp3 (by omega) h0
theorem sc_s4 {nm : Int → Int} {x n : Int} {f : Int → Int} (h : x = 33) (h0 : ¬ f (n - 1) = 0) : (n, mh_ur f (n - 1) 0) = sp_stp nm (sc_de x) (n, f) := by rw [sc_de3 (by omega) (by omega)]; exact sp_stp4 (by omega) h0
theorem sc_s5 {nm : Int → Int} {x n : Int} {f : Int → Int} (h : 3 ≤ x ∧ x < 1000) (h0 : x ≠ 33) : (n + -1, mh_ur f (n + -1 - 1) (sp_done x (f (n + -1 - 1)) (f (n + -1)))) = sp_stp nm (sc_de x) (n, f) := by
  rw [sc_de3 h.1 h.2, ← sp_stp5 (by omega) (by omega), show -100 - (-100 - x) = x by omega]
theorem sc_nmr {a b c : Int} (ha : -2147483648 ≤ a ∧ a < 2147483648) (hb : -2147483648 ≤ b ∧ b < 2147483648) (hc : -2147483648 ≤ c ∧ c < 2147483648) : ∀ i, 0 ≤ i → i < 3 → -2147483648 ≤ sp_nm a b c i ∧ sp_nm a b c i < 2147483648 := by
  intro i _ _; unfold sp_nm; (repeat' split) <;> assumption
set_option maxRecDepth 100000 in
set_option maxHeartbeats 1500000 in
theorem k3_bit {g : mh_G} {d : Nat} (hd : 1 ≤ d) {h : Nat → Int → Int} {x : Int} (hx : 0 ≤ x ∧ x ≤ 1) : mh_MP g d yX9_bit cX9_bit 1 (some .int) 96 [.int (Int32.ofInt (x))] h (some (.int (Int32.ofInt (x)))) := by
  refine mh_M_of RX9 rfl (by decide +kernel) [some (.int (Int32.ofInt (x)))] rfl (Nat.le_of_ble_eq_true rfl) (fun f F Z hn0 hR => ?_)
  refine mh_iload0 (pc := 0) F dX9_bit_0 ?_
  refine mh_if_eq (pc := 1) (tgt := 8) F dX9_bit_1 rfl (by omega) (fun c_1 => ?_) (fun c_1 => ?_)
  · refine mh_iconst (pc := 8) F dX9_bit_8 ?_
    exact mh_ireturnp F Z dX9_bit_9 (by omega) rfl
  · refine mh_iconst (pc := 4) F dX9_bit_4 ?_
    refine mh_goto (pc := 5) (tgt := 9) F dX9_bit_5 rfl ?_
    exact mh_ireturnp F Z dX9_bit_9 (by omega) rfl

set_option maxRecDepth 100000 in
set_option maxHeartbeats 1500000 in
theorem k3_joined {g : mh_G} {d : Nat} (hd : 3 ≤ d) {h : Nat → Int → Int} {q x y : Int} (hq : -2147483648 ≤ q ∧ q < 2147483648) (hx : -2147483648 ≤ x ∧ x < 2147483648) (hy : -2147483648 ≤ y ∧ y < 2147483648) : mh_MP g d yX9_joined cX9_joined 3 (some .int) 96 [.int (Int32.ofInt (q)), .int (Int32.ofInt (x)), .int (Int32.ofInt (y))] h (some (.int (Int32.ofInt (sp_done q x y)))) := by
  refine mh_M_of RX9 rfl (by decide +kernel) [some (.int (Int32.ofInt (q))), some (.int (Int32.ofInt (x))), some (.int (Int32.ofInt (y)))] rfl (Nat.le_of_ble_eq_true rfl) (fun f F Z hn0 hR => ?_)
  refine mh_iload0 (pc := 0) F dX9_joined_0 ?_
  by_cases c_1_38 : q = 38
  · refine mh_lookup (pc := 1) (off := 100) (tgt := 101) F dX9_joined_1 (by omega) rfl (by rw [c_1_38]; rfl) rfl ?_
    refine mh_iload1 (pc := 101) F dX9_joined_101 ?_
    refine mh_if_eq (pc := 102) (tgt := 113) F dX9_joined_102 rfl (by omega) (fun c_102 => ?_) (fun c_102 => ?_)
    · refine mh_iconst (pc := 113) F dX9_joined_113 ?_
      refine mh_callSp (pc := 114) (As := [.int (Int32.ofInt (0))]) (st := []) F (by omega) (k3_bit (by omega) (by decide)) ws_RX9_77 dX9_joined_114 rfl rfl (Nat.le_of_ble_eq_true rfl) ⟨Nat.zero_le _, Nat.zero_le _⟩ ?_
      exact mh_ireturnw F Z dX9_joined_117 (mh_eqI (by unfold sp_done mh_B; grind)) rfl
    · refine mh_iload2 (pc := 105) F dX9_joined_105 ?_
      refine mh_if_eq (pc := 106) (tgt := 113) F dX9_joined_106 rfl (by omega) (fun c_106 => ?_) (fun c_106 => ?_)
      · refine mh_iconst (pc := 113) F dX9_joined_113 ?_
        refine mh_callSp (pc := 114) (As := [.int (Int32.ofInt (0))]) (st := []) F (by omega) (k3_bit (by omega) (by decide)) ws_RX9_77 dX9_joined_114 rfl rfl (Nat.le_of_ble_eq_true rfl) ⟨Nat.zero_le _, Nat.zero_le _⟩ ?_
        exact mh_ireturnw F Z dX9_joined_117 (mh_eqI (by unfold sp_done mh_B; grind)) rfl
      · refine mh_iconst (pc := 109) F dX9_joined_109 ?_
        refine mh_goto (pc := 110) (tgt := 114) F dX9_joined_110 rfl ?_
        refine mh_callSp (pc := 114) (As := [.int (Int32.ofInt (1))]) (st := []) F (by omega) (k3_bit (by omega) (by decide)) ws_RX9_77 dX9_joined_114 rfl rfl (Nat.le_of_ble_eq_true rfl) ⟨Nat.zero_le _, Nat.zero_le _⟩ ?_
        exact mh_ireturnw F Z dX9_joined_117 (mh_eqI (by unfold sp_done mh_B; grind)) rfl
  by_cases c_1_42 : q = 42
  · refine mh_lookup (pc := 1) (off := 167) (tgt := 168) F dX9_joined_1 (by omega) rfl (by rw [c_1_42]; rfl) rfl ?_
    refine mh_iload1 (pc := 168) F dX9_joined_168 ?_
    refine mh_iload2 (pc := 169) F dX9_joined_169 ?_
    refine mh_imul (pc := 170) F dX9_joined_170 ?_
    exact mh_ireturnw F Z dX9_joined_171 (by rw [show sp_done q x y = sp_wr (x * y) from by unfold sp_done; grind]; exact (sp_wrI _).symm) rfl
  by_cases c_1_43 : q = 43
  · refine mh_lookup (pc := 1) (off := 159) (tgt := 160) F dX9_joined_1 (by omega) rfl (by rw [c_1_43]; rfl) rfl ?_
    refine mh_iload1 (pc := 160) F dX9_joined_160 ?_
    refine mh_iload2 (pc := 161) F dX9_joined_161 ?_
    refine mh_iadd (pc := 162) F dX9_joined_162 ?_
    exact mh_ireturnw F Z dX9_joined_163 (by rw [show sp_done q x y = sp_wr (x + y) from by unfold sp_done; grind]; exact (sp_wrI _).symm) rfl
  by_cases c_1_45 : q = 45
  · refine mh_lookup (pc := 1) (off := 163) (tgt := 164) F dX9_joined_1 (by omega) rfl (by rw [c_1_45]; rfl) rfl ?_
    refine mh_iload1 (pc := 164) F dX9_joined_164 ?_
    refine mh_iload2 (pc := 165) F dX9_joined_165 ?_
    refine mh_isub (pc := 166) F dX9_joined_166 ?_
    exact mh_ireturnw F Z dX9_joined_167 (by rw [show sp_done q x y = sp_wr (x - y) from by unfold sp_done; grind]; exact (sp_wrI _).symm) rfl
  by_cases c_1_47 : q = 47
  · refine mh_lookup (pc := 1) (off := 171) (tgt := 172) F dX9_joined_1 (by omega) rfl (by rw [c_1_47]; rfl) rfl ?_
    refine mh_iload2 (pc := 172) F dX9_joined_172 ?_
    refine mh_if_ne (pc := 173) (tgt := 180) F dX9_joined_173 rfl (by omega) (fun c_173 => ?_) (fun c_173 => ?_)
    · refine mh_iload1 (pc := 180) F dX9_joined_180 ?_
      refine mh_iload2 (pc := 181) F dX9_joined_181 ?_
      refine mh_idiv (pc := 182) F dX9_joined_182 (by omega) (by omega) (by omega) ?_
      exact mh_ireturnw F Z dX9_joined_183 (by rw [show sp_done q x y = (if y = 0 then 0 else sp_wr (x.tdiv y)) from by unfold sp_done; grind]; first | (rw [if_pos (by omega)]) | (rw [if_neg (by omega)]; exact (sp_wrI _).symm)) rfl
    · refine mh_iconst (pc := 176) F dX9_joined_176 ?_
      refine mh_goto (pc := 177) (tgt := 183) F dX9_joined_177 rfl ?_
      exact mh_ireturnw F Z dX9_joined_183 (by rw [show sp_done q x y = (if y = 0 then 0 else sp_wr (x.tdiv y)) from by unfold sp_done; grind]; first | (rw [if_pos (by omega)]) | (rw [if_neg (by omega)]; exact (sp_wrI _).symm)) rfl
  by_cases c_1_60 : q = 60
  · refine mh_lookup (pc := 1) (off := 117) (tgt := 118) F dX9_joined_1 (by omega) rfl (by rw [c_1_60]; rfl) rfl ?_
    refine mh_iload1 (pc := 118) F dX9_joined_118 ?_
    refine mh_iload2 (pc := 119) F dX9_joined_119 ?_
    refine mh_icmp_ge (pc := 120) (tgt := 127) F dX9_joined_120 rfl (by omega) (by omega) (fun c_120 => ?_) (fun c_120 => ?_)
    · refine mh_iconst (pc := 127) F dX9_joined_127 ?_
      refine mh_callSp (pc := 128) (As := [.int (Int32.ofInt (0))]) (st := []) F (by omega) (k3_bit (by omega) (by decide)) ws_RX9_77 dX9_joined_128 rfl rfl (Nat.le_of_ble_eq_true rfl) ⟨Nat.zero_le _, Nat.zero_le _⟩ ?_
      exact mh_ireturnw F Z dX9_joined_131 (mh_eqI (by unfold sp_done mh_B; grind)) rfl
    · refine mh_iconst (pc := 123) F dX9_joined_123 ?_
      refine mh_goto (pc := 124) (tgt := 128) F dX9_joined_124 rfl ?_
      refine mh_callSp (pc := 128) (As := [.int (Int32.ofInt (1))]) (st := []) F (by omega) (k3_bit (by omega) (by decide)) ws_RX9_77 dX9_joined_128 rfl rfl (Nat.le_of_ble_eq_true rfl) ⟨Nat.zero_le _, Nat.zero_le _⟩ ?_
      exact mh_ireturnw F Z dX9_joined_131 (mh_eqI (by unfold sp_done mh_B; grind)) rfl
  by_cases c_1_61 : q = 61
  · refine mh_lookup (pc := 1) (off := 131) (tgt := 132) F dX9_joined_1 (by omega) rfl (by rw [c_1_61]; rfl) rfl ?_
    refine mh_iload1 (pc := 132) F dX9_joined_132 ?_
    refine mh_iload2 (pc := 133) F dX9_joined_133 ?_
    refine mh_icmp_ne (pc := 134) (tgt := 141) F dX9_joined_134 rfl (by omega) (by omega) (fun c_134 => ?_) (fun c_134 => ?_)
    · refine mh_iconst (pc := 141) F dX9_joined_141 ?_
      refine mh_callSp (pc := 142) (As := [.int (Int32.ofInt (0))]) (st := []) F (by omega) (k3_bit (by omega) (by decide)) ws_RX9_77 dX9_joined_142 rfl rfl (Nat.le_of_ble_eq_true rfl) ⟨Nat.zero_le _, Nat.zero_le _⟩ ?_
      exact mh_ireturnw F Z dX9_joined_145 (mh_eqI (by unfold sp_done mh_B; grind)) rfl
    · refine mh_iconst (pc := 137) F dX9_joined_137 ?_
      refine mh_goto (pc := 138) (tgt := 142) F dX9_joined_138 rfl ?_
      refine mh_callSp (pc := 142) (As := [.int (Int32.ofInt (1))]) (st := []) F (by omega) (k3_bit (by omega) (by decide)) ws_RX9_77 dX9_joined_142 rfl rfl (Nat.le_of_ble_eq_true rfl) ⟨Nat.zero_le _, Nat.zero_le _⟩ ?_
      exact mh_ireturnw F Z dX9_joined_145 (mh_eqI (by unfold sp_done mh_B; grind)) rfl
  by_cases c_1_62 : q = 62
  · refine mh_lookup (pc := 1) (off := 145) (tgt := 146) F dX9_joined_1 (by omega) rfl (by rw [c_1_62]; rfl) rfl ?_
    refine mh_iload1 (pc := 146) F dX9_joined_146 ?_
    refine mh_iload2 (pc := 147) F dX9_joined_147 ?_
    refine mh_icmp_le (pc := 148) (tgt := 155) F dX9_joined_148 rfl (by omega) (by omega) (fun c_148 => ?_) (fun c_148 => ?_)
    · refine mh_iconst (pc := 155) F dX9_joined_155 ?_
      refine mh_callSp (pc := 156) (As := [.int (Int32.ofInt (0))]) (st := []) F (by omega) (k3_bit (by omega) (by decide)) ws_RX9_77 dX9_joined_156 rfl rfl (Nat.le_of_ble_eq_true rfl) ⟨Nat.zero_le _, Nat.zero_le _⟩ ?_
      exact mh_ireturnw F Z dX9_joined_159 (mh_eqI (by unfold sp_done mh_B; grind)) rfl
    · refine mh_iconst (pc := 151) F dX9_joined_151 ?_
      refine mh_goto (pc := 152) (tgt := 156) F dX9_joined_152 rfl ?_
      refine mh_callSp (pc := 156) (As := [.int (Int32.ofInt (1))]) (st := []) F (by omega) (k3_bit (by omega) (by decide)) ws_RX9_77 dX9_joined_156 rfl rfl (Nat.le_of_ble_eq_true rfl) ⟨Nat.zero_le _, Nat.zero_le _⟩ ?_
      exact mh_ireturnw F Z dX9_joined_159 (mh_eqI (by unfold sp_done mh_B; grind)) rfl
  by_cases c_1_124 : q = 124
  · refine mh_lookup (pc := 1) (off := 83) (tgt := 84) F dX9_joined_1 (by omega) rfl (by rw [c_1_124]; rfl) rfl ?_
    refine mh_iload1 (pc := 84) F dX9_joined_84 ?_
    refine mh_if_ne (pc := 85) (tgt := 92) F dX9_joined_85 rfl (by omega) (fun c_85 => ?_) (fun c_85 => ?_)
    · refine mh_iconst (pc := 92) F dX9_joined_92 ?_
      refine mh_goto (pc := 93) (tgt := 97) F dX9_joined_93 rfl ?_
      refine mh_callSp (pc := 97) (As := [.int (Int32.ofInt (1))]) (st := []) F (by omega) (k3_bit (by omega) (by decide)) ws_RX9_77 dX9_joined_97 rfl rfl (Nat.le_of_ble_eq_true rfl) ⟨Nat.zero_le _, Nat.zero_le _⟩ ?_
      exact mh_ireturnw F Z dX9_joined_100 (mh_eqI (by unfold sp_done mh_B; grind)) rfl
    · refine mh_iload2 (pc := 88) F dX9_joined_88 ?_
      refine mh_if_eq (pc := 89) (tgt := 96) F dX9_joined_89 rfl (by omega) (fun c_89 => ?_) (fun c_89 => ?_)
      · refine mh_iconst (pc := 96) F dX9_joined_96 ?_
        refine mh_callSp (pc := 97) (As := [.int (Int32.ofInt (0))]) (st := []) F (by omega) (k3_bit (by omega) (by decide)) ws_RX9_77 dX9_joined_97 rfl rfl (Nat.le_of_ble_eq_true rfl) ⟨Nat.zero_le _, Nat.zero_le _⟩ ?_
        exact mh_ireturnw F Z dX9_joined_100 (mh_eqI (by unfold sp_done mh_B; grind)) rfl
      · refine mh_iconst (pc := 92) F dX9_joined_92 ?_
        refine mh_goto (pc := 93) (tgt := 97) F dX9_joined_93 rfl ?_
        refine mh_callSp (pc := 97) (As := [.int (Int32.ofInt (1))]) (st := []) F (by omega) (k3_bit (by omega) (by decide)) ws_RX9_77 dX9_joined_97 rfl rfl (Nat.le_of_ble_eq_true rfl) ⟨Nat.zero_le _, Nat.zero_le _⟩ ?_
        exact mh_ireturnw F Z dX9_joined_100 (mh_eqI (by unfold sp_done mh_B; grind)) rfl
  refine mh_lookup (pc := 1) (off := 183) (tgt := 184) F dX9_joined_1 (by omega) rfl (mh_lkd (by simp [c_1_38, c_1_42, c_1_43, c_1_45, c_1_47, c_1_60, c_1_61, c_1_62, c_1_124])) rfl ?_
  refine mh_iload2 (pc := 184) F dX9_joined_184 ?_
  refine mh_if_ne (pc := 185) (tgt := 192) F dX9_joined_185 rfl (by omega) (fun c_185 => ?_) (fun c_185 => ?_)
  · refine mh_iload1 (pc := 192) F dX9_joined_192 ?_
    refine mh_iload2 (pc := 193) F dX9_joined_193 ?_
    refine mh_irem (pc := 194) F dX9_joined_194 (by omega) (by omega) (by omega) ?_
    exact mh_ireturnw F Z dX9_joined_195 (by rw [show sp_done q x y = (if y = 0 then 0 else sp_wr (x.tmod y)) from by unfold sp_done; grind]; first | (rw [if_pos (by omega)]) | (rw [if_neg (by omega)]; exact (sp_wrI _).symm)) rfl
  · refine mh_iconst (pc := 188) F dX9_joined_188 ?_
    refine mh_goto (pc := 189) (tgt := 195) F dX9_joined_189 rfl ?_
    exact mh_ireturnw F Z dX9_joined_195 (by rw [show sp_done q x y = (if y = 0 then 0 else sp_wr (x.tmod y)) from by unfold sp_done; grind]; first | (rw [if_pos (by omega)]) | (rw [if_neg (by omega)]; exact (sp_wrI _).symm)) rfl

set_option maxRecDepth 100000 in
set_option maxHeartbeats 1500000 in
theorem k3_value_33 {g : mh_G} {d : Nat} (hd : 5 ≤ d) {h : Nat → Int → Int} (hF : mh_FX h) {tx : Int → Int} (r33 : h 33 = tx) {cd : Int → Int} (r34 : h 34 = cd) {f0 : Int → Int} (r36 : h 36 = f0) {a b c : Int} (ha : -2147483648 ≤ a ∧ a < 2147483648) (hb : -2147483648 ≤ b ∧ b < 2147483648) (hc : -2147483648 ≤ c ∧ c < 2147483648) (hw : sp_wf (sc_dc cd) (tx 3)) (hl0 : 0 < tx 3) (hv : sc_cv cd (tx 3)) (hmo : 0 ≤ tx 1 ∧ tx 1 ≤ 999) : mh_M g d yX9_value cX9_value 7 (some .int) 96 0 0 [.ref 33, .int (Int32.ofInt (a)), .int (Int32.ofInt (b)), .int (Int32.ofInt (c))] h (fun r h2 => r = some (.int (Int32.ofInt ((sp_held (sp_val (sc_dc cd) (tx 3) a b c) 0 (tx 1))))) ∧ mh_FX h2 ∧ mh_fr [36] h h2) := by
  refine mh_M_of RX9 rfl (by decide +kernel) [some (.ref 33), some (.int (Int32.ofInt (a))), some (.int (Int32.ofInt (b))), some (.int (Int32.ofInt (c))), none, none, none] rfl (Nat.le_of_ble_eq_true rfl) (fun f F Z hn0 hR => ?_)
  have hl50 := hw.2.1
  have hnr := sc_nmr ha hb hc
  refine mh_iconst (pc := 0) F dX9_value_0 ?_
  refine mh_istore4 (pc := 1) F dX9_value_1 rfl (by decide) ?_
  refine mh_iconst (pc := 3) F dX9_value_3 ?_
  refine mh_istore5 (pc := 4) F dX9_value_4 rfl (by decide) ?_
  have L6 : ∀ (m : Nat) (n : Int) (k : Int) (hh : Nat → Int → Int) (fz : Int → Int), (mh_FX hh) → (mh_fr [36] h hh) → (hh 33 = tx) → (hh 34 = cd) → (hh 36 = fz) → (0 ≤ k ∧ k ≤ tx 3) → ((n, fz) = sp_run (sp_nm a b c) (sc_dc cd) k.toNat (0, f0)) → (tx 3 - k).toNat = m → mh_V g f 7 96 0 0 6 [some (.ref 33), some (.int (Int32.ofInt (a))), some (.int (Int32.ofInt (b))), some (.int (Int32.ofInt (c))), some (.int (Int32.ofInt (n))), some (.int (Int32.ofInt (k))), none] [] hh := by
    intro m
    induction m using Nat.strongRecOn with
    | _ m ihL6 =>
    intro n k hh fz Fhh frhh q33hh q34hh q36hh hk hr hmz
    refine mh_iload5 (pc := 6) F dX9_value_6 ?_
    refine mh_aload0 (pc := 8) F dX9_value_8 ?_
    refine mh_getir (pc := 9) F sh_33 (by decide) fw_RX9_49_9 dX9_value_9 rfl q33hh ?_
    refine mh_icmp_ge (pc := 12) (tgt := 191) F dX9_value_12 rfl (by omega) (by omega) (fun c_12 => ?_) (fun c_12 => ?_)
    · have hva := sp_val_eq (fz := f0) hw hl0 (fun _ _ _ => rfl) hnr
      have hf0 : fz 0 = sp_val (sc_dc cd) (tx 3) a b c := by rw [show fz = (sp_run (sp_nm a b c) (sc_dc cd) k.toNat (0, f0)).2 from congrArg Prod.snd hr, show k = tx 3 by omega]; exact hva.1
      have hf1 := hva.2
      rw [← hf0] at hf1
      refine mh_iconst (pc := 191) F dX9_value_191 ?_
      refine mh_aload0 (pc := 192) F dX9_value_192 ?_
      refine mh_getir (pc := 193) F sh_33 (by decide) fw_RX9_25_9 dX9_value_193 rfl q33hh ?_
      refine mh_aload0 (pc := 196) F dX9_value_196 ?_
      refine mh_getr (b := 36) (pc := 197) F sh_33 (by decide) fw_RX9_18_9 dX9_value_197 rfl (fx_33_6 Fhh) ?_
      refine mh_iconst (pc := 200) F dX9_value_200 ?_
      refine mh_ialoadr (pc := 201) F sh_36 (by decide) (by omega) dX9_value_201 q36hh ?_
      refine mh_callSp (pc := 202) (As := [.int (Int32.ofInt (tx 1)), .int (Int32.ofInt (fz 0))]) (st := [.int (Int32.ofInt (0))]) F (by omega) (k_min (by omega) (by omega) (by omega)) ws_RX9_55 dX9_value_202 rfl rfl (Nat.le_of_ble_eq_true rfl) ⟨Nat.zero_le _, Nat.zero_le _⟩ ?_
      refine mh_callSp (pc := 205) (As := [.int (Int32.ofInt (0)), .int (Int32.ofInt (min (tx 1) (fz 0)))]) (st := []) F (by omega) (k_max (by omega) (by omega) (by omega)) ws_RX9_61 dX9_value_205 rfl rfl (Nat.le_of_ble_eq_true rfl) ⟨Nat.zero_le _, Nat.zero_le _⟩ ?_
      exact mh_ireturn F Z dX9_value_208 ⟨(mh_sv (by rw [hf0]; rfl)), Fhh, (frhh.mono (by simp))⟩
    · have hw1 := hw.2.2.1 k.toNat (by rw [Int.toNat_of_nonneg hk.1]; omega)
      have hcd : sc_dc cd k.toNat = sc_de (cd k) := by unfold sc_dc; rw [Int.toNat_of_nonneg hk.1]
      rw [hcd] at hw1
      have hd1 := sp_dep_nn hw k.toNat (by rw [Int.toNat_of_nonneg hk.1]; omega)
      have hd2 := sp_dep_le (sc_dc cd) k.toNat
      have hnd : n = sp_dep (sc_dc cd) k.toNat := by have := congrArg Prod.fst hr; rw [sp_run_dep] at this; exact this
      rw [← hnd] at hw1 hd1 hd2
      have hsr : ∀ i, 0 ≤ i → i < n → -2147483648 ≤ fz i ∧ fz i < 2147483648 := fun i i0 i1 => by
        have := (sp_run_same hw (nm2 := (sp_nm a b c)) (fun _ _ _ => rfl) hnr f0 f0 k.toNat (by rw [Int.toNat_of_nonneg hk.1]; omega) i i0 (by rw [← hnd]; exact i1)).2
        rw [← hr] at this; exact this
      have hvk := hv k hk.1 (by omega)
      obtain ⟨hw11, hw12, hw13, hw14, hw15⟩ := hw1
      refine mh_iload5 (pc := 15) F dX9_value_15 ?_
      refine mh_bipush (pc := 17) F dX9_value_17 rfl ?_
      refine mh_icmp_ge (pc := 19) (tgt := 191) F dX9_value_19 rfl (by omega) (by omega) (fun c_19 => ?_) (fun c_19 => ?_)
      · exfalso; omega
      · refine mh_aload0 (pc := 22) F dX9_value_22 ?_
        refine mh_getr (b := 34) (pc := 23) F sh_33 (by decide) fw_RX9_9_9 dX9_value_23 rfl (fx_33_2 Fhh) ?_
        refine mh_iload5 (pc := 26) F dX9_value_26 ?_
        refine mh_ialoadr (pc := 28) F sh_34 (by decide) (by omega) dX9_value_28 q34hh ?_
        refine mh_istore6 (pc := 29) F dX9_value_29 rfl (by decide) ?_
        refine mh_iload6 (pc := 31) F dX9_value_31 ?_
        refine mh_iconst (pc := 33) F dX9_value_33 ?_
        refine mh_icmp_lt (pc := 34) (tgt := 45) F dX9_value_34 rfl (by omega) (by omega) (fun c_34 => ?_) (fun c_34 => ?_)
        · refine mh_iload4 (pc := 45) F dX9_value_45 ?_
          refine mh_bipush (pc := 47) F dX9_value_47 rfl ?_
          refine mh_icmp_ge (pc := 49) (tgt := 185) F dX9_value_49 rfl (by omega) (by omega) (fun c_49 => ?_) (fun c_49 => ?_)
          · exfalso; have hw14x := sp_dep_le (sc_dc cd) k.toNat; omega
          · refine mh_aload0 (pc := 52) F dX9_value_52 ?_
            refine mh_getr (b := 36) (pc := 53) F sh_33 (by decide) fw_RX9_18_9 dX9_value_53 rfl (fx_33_6 Fhh) ?_
            refine mh_iload4 (pc := 56) F dX9_value_56 ?_
            refine mh_iload6 (pc := 58) F dX9_value_58 ?_
            refine mh_sipush (pc := 60) F dX9_value_60 rfl ?_
            refine mh_icmp_lt (pc := 63) (tgt := 75) F dX9_value_63 rfl (by omega) (by omega) (fun c_63 => ?_) (fun c_63 => ?_)
            · refine mh_iload6 (pc := 75) F dX9_value_75 ?_
              refine mh_if_ne (pc := 77) (tgt := 84) F dX9_value_77 rfl (by omega) (fun c_77 => ?_) (fun c_77 => ?_)
              · refine mh_iload6 (pc := 84) F dX9_value_84 ?_
                refine mh_iconst (pc := 86) F dX9_value_86 ?_
                refine mh_icmp_ne (pc := 87) (tgt := 94) F dX9_value_87 rfl (by omega) (by omega) (fun c_87 => ?_) (fun c_87 => ?_)
                · refine mh_iload3 (pc := 94) F dX9_value_94 ?_
                  refine mh_iastore (pc := 95) F sh_36 (by decide) (by omega) dX9_value_95 ?_
                  refine mh_nmh (fun h1 e1 => ?_)
                  have F1 : mh_FX h1 := by rw [e1]; exact Fhh.upa rfl
                  have r33_1 : h1 33 = tx := by rw [e1, mh_up_row (by decide)]; exact q33hh
                  have r34_1 : h1 34 = cd := by rw [e1, mh_up_row (by decide)]; exact q34hh
                  have r36_1 : h1 36 = mh_ur fz n c := by rw [e1, mh_up_rs, q36hh]
                  have fr1 : mh_fr [36] h h1 := mh_fr.upi frhh e1 (by simp)
                  refine mh_iinc4 (pc := 96) F dX9_value_96 rfl (by decide) ?_
                  refine mh_goto (pc := 99) (tgt := 185) F dX9_value_99 rfl ?_
                  refine mh_iinc5 (pc := 185) F dX9_value_185 rfl (by decide) ?_
                  refine mh_goto (pc := 188) (tgt := 6) F dX9_value_188 rfl ?_
                  refine mh_drop6 ?_
                  exact ihL6 _ (by omega) (n + 1) (k + 1) h1 (mh_ur fz n c) F1 (fr1.mono (by simp)) r33_1 r34_1 r36_1 (by omega) (by rw [sp_run_at _ _ _ hk.1, ← hr]; show _ = sp_stp (sp_nm a b c) (sc_de (cd ((k.toNat : Nat) : Int))) _; rw [Int.toNat_of_nonneg hk.1]; exact (sc_s2 (by omega) (by unfold sp_nm; (repeat' split) <;> first | rfl | (exfalso; omega)))) rfl
                · refine mh_iload2 (pc := 90) F dX9_value_90 ?_
                  refine mh_goto (pc := 91) (tgt := 95) F dX9_value_91 rfl ?_
                  refine mh_iastore (pc := 95) F sh_36 (by decide) (by omega) dX9_value_95 ?_
                  refine mh_nmh (fun h2 e2 => ?_)
                  have F2 : mh_FX h2 := by rw [e2]; exact Fhh.upa rfl
                  have r33_2 : h2 33 = tx := by rw [e2, mh_up_row (by decide)]; exact q33hh
                  have r34_2 : h2 34 = cd := by rw [e2, mh_up_row (by decide)]; exact q34hh
                  have r36_2 : h2 36 = mh_ur fz n b := by rw [e2, mh_up_rs, q36hh]
                  have fr2 : mh_fr [36] h h2 := mh_fr.upi frhh e2 (by simp)
                  refine mh_iinc4 (pc := 96) F dX9_value_96 rfl (by decide) ?_
                  refine mh_goto (pc := 99) (tgt := 185) F dX9_value_99 rfl ?_
                  refine mh_iinc5 (pc := 185) F dX9_value_185 rfl (by decide) ?_
                  refine mh_goto (pc := 188) (tgt := 6) F dX9_value_188 rfl ?_
                  refine mh_drop6 ?_
                  exact ihL6 _ (by omega) (n + 1) (k + 1) h2 (mh_ur fz n b) F2 (fr2.mono (by simp)) r33_2 r34_2 r36_2 (by omega) (by rw [sp_run_at _ _ _ hk.1, ← hr]; show _ = sp_stp (sp_nm a b c) (sc_de (cd ((k.toNat : Nat) : Int))) _; rw [Int.toNat_of_nonneg hk.1]; exact (sc_s2 (by omega) (by unfold sp_nm; (repeat' split) <;> first | rfl | (exfalso; omega)))) rfl
              · refine mh_iload1 (pc := 80) F dX9_value_80 ?_
                refine mh_goto (pc := 81) (tgt := 95) F dX9_value_81 rfl ?_
                refine mh_iastore (pc := 95) F sh_36 (by decide) (by omega) dX9_value_95 ?_
                refine mh_nmh (fun h3 e3 => ?_)
                have F3 : mh_FX h3 := by rw [e3]; exact Fhh.upa rfl
                have r33_3 : h3 33 = tx := by rw [e3, mh_up_row (by decide)]; exact q33hh
                have r34_3 : h3 34 = cd := by rw [e3, mh_up_row (by decide)]; exact q34hh
                have r36_3 : h3 36 = mh_ur fz n a := by rw [e3, mh_up_rs, q36hh]
                have fr3 : mh_fr [36] h h3 := mh_fr.upi frhh e3 (by simp)
                refine mh_iinc4 (pc := 96) F dX9_value_96 rfl (by decide) ?_
                refine mh_goto (pc := 99) (tgt := 185) F dX9_value_99 rfl ?_
                refine mh_iinc5 (pc := 185) F dX9_value_185 rfl (by decide) ?_
                refine mh_goto (pc := 188) (tgt := 6) F dX9_value_188 rfl ?_
                refine mh_drop6 ?_
                exact ihL6 _ (by omega) (n + 1) (k + 1) h3 (mh_ur fz n a) F3 (fr3.mono (by simp)) r33_3 r34_3 r36_3 (by omega) (by rw [sp_run_at _ _ _ hk.1, ← hr]; show _ = sp_stp (sp_nm a b c) (sc_de (cd ((k.toNat : Nat) : Int))) _; rw [Int.toNat_of_nonneg hk.1]; exact (sc_s2 (by omega) (by unfold sp_nm; (repeat' split) <;> first | rfl | (exfalso; omega)))) rfl
            · refine mh_iload6 (pc := 66) F dX9_value_66 ?_
              refine mh_sipush (pc := 68) F dX9_value_68 rfl ?_
              refine mh_isub (pc := 71) F dX9_value_71 ?_
              refine mh_goto (pc := 72) (tgt := 95) F dX9_value_72 rfl ?_
              refine mh_iastore (pc := 95) F sh_36 (by decide) (by omega) dX9_value_95 ?_
              refine mh_nmh (fun h4 e4 => ?_)
              have F4 : mh_FX h4 := by rw [e4]; exact Fhh.upa rfl
              have r33_4 : h4 33 = tx := by rw [e4, mh_up_row (by decide)]; exact q33hh
              have r34_4 : h4 34 = cd := by rw [e4, mh_up_row (by decide)]; exact q34hh
              have r36_4 : h4 36 = mh_ur fz n ((cd k) - 1000) := by rw [e4, mh_up_rs, q36hh]
              have fr4 : mh_fr [36] h h4 := mh_fr.upi frhh e4 (by simp)
              refine mh_iinc4 (pc := 96) F dX9_value_96 rfl (by decide) ?_
              refine mh_goto (pc := 99) (tgt := 185) F dX9_value_99 rfl ?_
              refine mh_iinc5 (pc := 185) F dX9_value_185 rfl (by decide) ?_
              refine mh_goto (pc := 188) (tgt := 6) F dX9_value_188 rfl ?_
              refine mh_drop6 ?_
              exact ihL6 _ (by omega) (n + 1) (k + 1) h4 (mh_ur fz n ((cd k) - 1000)) F4 (fr4.mono (by simp)) r33_4 r34_4 r36_4 (by omega) (by rw [sp_run_at _ _ _ hk.1, ← hr]; show _ = sp_stp (sp_nm a b c) (sc_de (cd ((k.toNat : Nat) : Int))) _; rw [Int.toNat_of_nonneg hk.1]; exact (sc_s1 (by omega))) rfl
        · refine mh_iload6 (pc := 37) F dX9_value_37 ?_
          refine mh_sipush (pc := 39) F dX9_value_39 rfl ?_
          refine mh_icmp_lt (pc := 42) (tgt := 102) F dX9_value_42 rfl (by omega) (by omega) (fun c_42 => ?_) (fun c_42 => ?_)
          · have hde : sc_de (cd k) = -100 - cd k := sc_de3 (by omega) (by omega)
            have hw14 := hw14 (by omega)
            refine mh_iload6 (pc := 102) F dX9_value_102 ?_
            refine mh_bipush (pc := 104) F dX9_value_104 rfl ?_
            refine mh_icmp_ne (pc := 106) (tgt := 146) F dX9_value_106 rfl (by omega) (by omega) (fun c_106 => ?_) (fun c_106 => ?_)
            · have hw15 := hw15 (by omega) (by omega)
              refine mh_iload4 (pc := 146) F dX9_value_146 ?_
              refine mh_iconst (pc := 148) F dX9_value_148 ?_
              refine mh_icmp_le (pc := 149) (tgt := 185) F dX9_value_149 rfl (by omega) (by omega) (fun c_149 => ?_) (fun c_149 => ?_)
              · exfalso; omega
              · refine mh_iinc4 (pc := 152) F dX9_value_152 rfl (by decide) ?_
                refine mh_aload0 (pc := 155) F dX9_value_155 ?_
                refine mh_getr (b := 36) (pc := 156) F sh_33 (by decide) fw_RX9_18_9 dX9_value_156 rfl (fx_33_6 Fhh) ?_
                refine mh_iload4 (pc := 159) F dX9_value_159 ?_
                refine mh_iconst (pc := 161) F dX9_value_161 ?_
                refine mh_isub (pc := 162) F dX9_value_162 ?_
                refine mh_iload6 (pc := 163) F dX9_value_163 ?_
                refine mh_aload0 (pc := 165) F dX9_value_165 ?_
                refine mh_getr (b := 36) (pc := 166) F sh_33 (by decide) fw_RX9_18_9 dX9_value_166 rfl (fx_33_6 Fhh) ?_
                refine mh_iload4 (pc := 169) F dX9_value_169 ?_
                refine mh_iconst (pc := 171) F dX9_value_171 ?_
                refine mh_isub (pc := 172) F dX9_value_172 ?_
                refine mh_ialoadr (pc := 173) F sh_36 (by decide) (by omega) dX9_value_173 q36hh ?_
                refine mh_aload0 (pc := 174) F dX9_value_174 ?_
                refine mh_getr (b := 36) (pc := 175) F sh_33 (by decide) fw_RX9_18_9 dX9_value_175 rfl (fx_33_6 Fhh) ?_
                refine mh_iload4 (pc := 178) F dX9_value_178 ?_
                refine mh_ialoadr (pc := 180) F sh_36 (by decide) (by omega) dX9_value_180 q36hh ?_
                refine mh_callSp (pc := 181) (As := [.int (Int32.ofInt (cd k)), .int (Int32.ofInt (fz ((n + (-1)) - 1))), .int (Int32.ofInt (fz (n + (-1))))]) (st := [.int (Int32.ofInt ((n + (-1)) - 1)), .ref 36]) F (by omega) (k3_joined (by omega) (by omega) (hsr _ (by omega) (by omega)) (hsr _ (by omega) (by omega))) ws_RX9_81 dX9_value_181 rfl rfl (Nat.le_of_ble_eq_true rfl) ⟨Nat.zero_le _, Nat.zero_le _⟩ ?_
                refine mh_iastore (pc := 184) F sh_36 (by decide) (by omega) dX9_value_184 ?_
                refine mh_nmh (fun h5 e5 => ?_)
                have F5 : mh_FX h5 := by rw [e5]; exact Fhh.upa rfl
                have r33_5 : h5 33 = tx := by rw [e5, mh_up_row (by decide)]; exact q33hh
                have r34_5 : h5 34 = cd := by rw [e5, mh_up_row (by decide)]; exact q34hh
                have r36_5 : h5 36 = mh_ur fz ((n + (-1)) - 1) (sp_done (cd k) (fz ((n + (-1)) - 1)) (fz (n + (-1)))) := by rw [e5, mh_up_rs, q36hh]
                have fr5 : mh_fr [36] h h5 := mh_fr.upi frhh e5 (by simp)
                refine mh_iinc5 (pc := 185) F dX9_value_185 rfl (by decide) ?_
                refine mh_goto (pc := 188) (tgt := 6) F dX9_value_188 rfl ?_
                refine mh_drop6 ?_
                exact ihL6 _ (by omega) (n + (-1)) (k + 1) h5 (mh_ur fz ((n + (-1)) - 1) (sp_done (cd k) (fz ((n + (-1)) - 1)) (fz (n + (-1))))) F5 (fr5.mono (by simp)) r33_5 r34_5 r36_5 (by omega) (by rw [sp_run_at _ _ _ hk.1, ← hr]; show _ = sp_stp (sp_nm a b c) (sc_de (cd ((k.toNat : Nat) : Int))) _; rw [Int.toNat_of_nonneg hk.1]; exact (sc_s5 (by omega) (by omega))) rfl
            · refine mh_iload4 (pc := 109) F dX9_value_109 ?_
              refine mh_if_le (pc := 111) (tgt := 146) F dX9_value_111 rfl (by omega) (fun c_111 => ?_) (fun c_111 => ?_)
              · exfalso; omega
              · refine mh_aload0 (pc := 114) F dX9_value_114 ?_
                refine mh_getr (b := 36) (pc := 115) F sh_33 (by decide) fw_RX9_18_9 dX9_value_115 rfl (fx_33_6 Fhh) ?_
                refine mh_iload4 (pc := 118) F dX9_value_118 ?_
                refine mh_iconst (pc := 120) F dX9_value_120 ?_
                refine mh_isub (pc := 121) F dX9_value_121 ?_
                refine mh_aload0 (pc := 122) F dX9_value_122 ?_
                refine mh_getr (b := 36) (pc := 123) F sh_33 (by decide) fw_RX9_18_9 dX9_value_123 rfl (fx_33_6 Fhh) ?_
                refine mh_iload4 (pc := 126) F dX9_value_126 ?_
                refine mh_iconst (pc := 128) F dX9_value_128 ?_
                refine mh_isub (pc := 129) F dX9_value_129 ?_
                refine mh_ialoadr (pc := 130) F sh_36 (by decide) (by omega) dX9_value_130 q36hh ?_
                refine mh_if_ne (pc := 131) (tgt := 138) F dX9_value_131 rfl (hsr _ (by omega) (by omega)) (fun c_131 => ?_) (fun c_131 => ?_)
                · refine mh_iconst (pc := 138) F dX9_value_138 ?_
                  refine mh_callSp (pc := 139) (As := [.int (Int32.ofInt (0))]) (st := [.int (Int32.ofInt (n - 1)), .ref 36]) F (by omega) (k3_bit (by omega) (by decide)) ws_RX9_77 dX9_value_139 rfl rfl (Nat.le_of_ble_eq_true rfl) ⟨Nat.zero_le _, Nat.zero_le _⟩ ?_
                  refine mh_iastore (pc := 142) F sh_36 (by decide) (by omega) dX9_value_142 ?_
                  refine mh_nmh (fun h6 e6 => ?_)
                  have F6 : mh_FX h6 := by rw [e6]; exact Fhh.upa rfl
                  have r33_6 : h6 33 = tx := by rw [e6, mh_up_row (by decide)]; exact q33hh
                  have r34_6 : h6 34 = cd := by rw [e6, mh_up_row (by decide)]; exact q34hh
                  have r36_6 : h6 36 = mh_ur fz (n - 1) 0 := by rw [e6, mh_up_rs, q36hh]
                  have fr6 : mh_fr [36] h h6 := mh_fr.upi frhh e6 (by simp)
                  refine mh_goto (pc := 143) (tgt := 185) F dX9_value_143 rfl ?_
                  refine mh_iinc5 (pc := 185) F dX9_value_185 rfl (by decide) ?_
                  refine mh_goto (pc := 188) (tgt := 6) F dX9_value_188 rfl ?_
                  refine mh_drop6 ?_
                  exact ihL6 _ (by omega) n (k + 1) h6 (mh_ur fz (n - 1) 0) F6 (fr6.mono (by simp)) r33_6 r34_6 r36_6 (by omega) (by rw [sp_run_at _ _ _ hk.1, ← hr]; show _ = sp_stp (sp_nm a b c) (sc_de (cd ((k.toNat : Nat) : Int))) _; rw [Int.toNat_of_nonneg hk.1]; exact (sc_s4 (by omega) (by omega))) rfl
                · refine mh_iconst (pc := 134) F dX9_value_134 ?_
                  refine mh_goto (pc := 135) (tgt := 139) F dX9_value_135 rfl ?_
                  refine mh_callSp (pc := 139) (As := [.int (Int32.ofInt (1))]) (st := [.int (Int32.ofInt (n - 1)), .ref 36]) F (by omega) (k3_bit (by omega) (by decide)) ws_RX9_77 dX9_value_139 rfl rfl (Nat.le_of_ble_eq_true rfl) ⟨Nat.zero_le _, Nat.zero_le _⟩ ?_
                  refine mh_iastore (pc := 142) F sh_36 (by decide) (by omega) dX9_value_142 ?_
                  refine mh_nmh (fun h7 e7 => ?_)
                  have F7 : mh_FX h7 := by rw [e7]; exact Fhh.upa rfl
                  have r33_7 : h7 33 = tx := by rw [e7, mh_up_row (by decide)]; exact q33hh
                  have r34_7 : h7 34 = cd := by rw [e7, mh_up_row (by decide)]; exact q34hh
                  have r36_7 : h7 36 = mh_ur fz (n - 1) 1 := by rw [e7, mh_up_rs, q36hh]
                  have fr7 : mh_fr [36] h h7 := mh_fr.upi frhh e7 (by simp)
                  refine mh_goto (pc := 143) (tgt := 185) F dX9_value_143 rfl ?_
                  refine mh_iinc5 (pc := 185) F dX9_value_185 rfl (by decide) ?_
                  refine mh_goto (pc := 188) (tgt := 6) F dX9_value_188 rfl ?_
                  refine mh_drop6 ?_
                  exact ihL6 _ (by omega) n (k + 1) h7 (mh_ur fz (n - 1) 1) F7 (fr7.mono (by simp)) r33_7 r34_7 r36_7 (by omega) (by rw [sp_run_at _ _ _ hk.1, ← hr]; show _ = sp_stp (sp_nm a b c) (sc_de (cd ((k.toNat : Nat) : Int))) _; rw [Int.toNat_of_nonneg hk.1]; exact (sc_s3 (by omega) (by omega))) rfl
          · refine mh_iload4 (pc := 45) F dX9_value_45 ?_
            refine mh_bipush (pc := 47) F dX9_value_47 rfl ?_
            refine mh_icmp_ge (pc := 49) (tgt := 185) F dX9_value_49 rfl (by omega) (by omega) (fun c_49 => ?_) (fun c_49 => ?_)
            · exfalso; have hw14x := sp_dep_le (sc_dc cd) k.toNat; omega
            · refine mh_aload0 (pc := 52) F dX9_value_52 ?_
              refine mh_getr (b := 36) (pc := 53) F sh_33 (by decide) fw_RX9_18_9 dX9_value_53 rfl (fx_33_6 Fhh) ?_
              refine mh_iload4 (pc := 56) F dX9_value_56 ?_
              refine mh_iload6 (pc := 58) F dX9_value_58 ?_
              refine mh_sipush (pc := 60) F dX9_value_60 rfl ?_
              refine mh_icmp_lt (pc := 63) (tgt := 75) F dX9_value_63 rfl (by omega) (by omega) (fun c_63 => ?_) (fun c_63 => ?_)
              · refine mh_iload6 (pc := 75) F dX9_value_75 ?_
                refine mh_if_ne (pc := 77) (tgt := 84) F dX9_value_77 rfl (by omega) (fun c_77 => ?_) (fun c_77 => ?_)
                · refine mh_iload6 (pc := 84) F dX9_value_84 ?_
                  refine mh_iconst (pc := 86) F dX9_value_86 ?_
                  refine mh_icmp_ne (pc := 87) (tgt := 94) F dX9_value_87 rfl (by omega) (by omega) (fun c_87 => ?_) (fun c_87 => ?_)
                  · refine mh_iload3 (pc := 94) F dX9_value_94 ?_
                    refine mh_iastore (pc := 95) F sh_36 (by decide) (by omega) dX9_value_95 ?_
                    refine mh_nmh (fun h8 e8 => ?_)
                    have F8 : mh_FX h8 := by rw [e8]; exact Fhh.upa rfl
                    have r33_8 : h8 33 = tx := by rw [e8, mh_up_row (by decide)]; exact q33hh
                    have r34_8 : h8 34 = cd := by rw [e8, mh_up_row (by decide)]; exact q34hh
                    have r36_8 : h8 36 = mh_ur fz n c := by rw [e8, mh_up_rs, q36hh]
                    have fr8 : mh_fr [36] h h8 := mh_fr.upi frhh e8 (by simp)
                    refine mh_iinc4 (pc := 96) F dX9_value_96 rfl (by decide) ?_
                    refine mh_goto (pc := 99) (tgt := 185) F dX9_value_99 rfl ?_
                    refine mh_iinc5 (pc := 185) F dX9_value_185 rfl (by decide) ?_
                    refine mh_goto (pc := 188) (tgt := 6) F dX9_value_188 rfl ?_
                    refine mh_drop6 ?_
                    exact ihL6 _ (by omega) (n + 1) (k + 1) h8 (mh_ur fz n c) F8 (fr8.mono (by simp)) r33_8 r34_8 r36_8 (by omega) (by rw [sp_run_at _ _ _ hk.1, ← hr]; show _ = sp_stp (sp_nm a b c) (sc_de (cd ((k.toNat : Nat) : Int))) _; rw [Int.toNat_of_nonneg hk.1]; exact (sc_s2 (by omega) (by unfold sp_nm; (repeat' split) <;> first | rfl | (exfalso; omega)))) rfl
                  · refine mh_iload2 (pc := 90) F dX9_value_90 ?_
                    refine mh_goto (pc := 91) (tgt := 95) F dX9_value_91 rfl ?_
                    refine mh_iastore (pc := 95) F sh_36 (by decide) (by omega) dX9_value_95 ?_
                    refine mh_nmh (fun h9 e9 => ?_)
                    have F9 : mh_FX h9 := by rw [e9]; exact Fhh.upa rfl
                    have r33_9 : h9 33 = tx := by rw [e9, mh_up_row (by decide)]; exact q33hh
                    have r34_9 : h9 34 = cd := by rw [e9, mh_up_row (by decide)]; exact q34hh
                    have r36_9 : h9 36 = mh_ur fz n b := by rw [e9, mh_up_rs, q36hh]
                    have fr9 : mh_fr [36] h h9 := mh_fr.upi frhh e9 (by simp)
                    refine mh_iinc4 (pc := 96) F dX9_value_96 rfl (by decide) ?_
                    refine mh_goto (pc := 99) (tgt := 185) F dX9_value_99 rfl ?_
                    refine mh_iinc5 (pc := 185) F dX9_value_185 rfl (by decide) ?_
                    refine mh_goto (pc := 188) (tgt := 6) F dX9_value_188 rfl ?_
                    refine mh_drop6 ?_
                    exact ihL6 _ (by omega) (n + 1) (k + 1) h9 (mh_ur fz n b) F9 (fr9.mono (by simp)) r33_9 r34_9 r36_9 (by omega) (by rw [sp_run_at _ _ _ hk.1, ← hr]; show _ = sp_stp (sp_nm a b c) (sc_de (cd ((k.toNat : Nat) : Int))) _; rw [Int.toNat_of_nonneg hk.1]; exact (sc_s2 (by omega) (by unfold sp_nm; (repeat' split) <;> first | rfl | (exfalso; omega)))) rfl
                · refine mh_iload1 (pc := 80) F dX9_value_80 ?_
                  refine mh_goto (pc := 81) (tgt := 95) F dX9_value_81 rfl ?_
                  refine mh_iastore (pc := 95) F sh_36 (by decide) (by omega) dX9_value_95 ?_
                  refine mh_nmh (fun h10 e10 => ?_)
                  have F10 : mh_FX h10 := by rw [e10]; exact Fhh.upa rfl
                  have r33_10 : h10 33 = tx := by rw [e10, mh_up_row (by decide)]; exact q33hh
                  have r34_10 : h10 34 = cd := by rw [e10, mh_up_row (by decide)]; exact q34hh
                  have r36_10 : h10 36 = mh_ur fz n a := by rw [e10, mh_up_rs, q36hh]
                  have fr10 : mh_fr [36] h h10 := mh_fr.upi frhh e10 (by simp)
                  refine mh_iinc4 (pc := 96) F dX9_value_96 rfl (by decide) ?_
                  refine mh_goto (pc := 99) (tgt := 185) F dX9_value_99 rfl ?_
                  refine mh_iinc5 (pc := 185) F dX9_value_185 rfl (by decide) ?_
                  refine mh_goto (pc := 188) (tgt := 6) F dX9_value_188 rfl ?_
                  refine mh_drop6 ?_
                  exact ihL6 _ (by omega) (n + 1) (k + 1) h10 (mh_ur fz n a) F10 (fr10.mono (by simp)) r33_10 r34_10 r36_10 (by omega) (by rw [sp_run_at _ _ _ hk.1, ← hr]; show _ = sp_stp (sp_nm a b c) (sc_de (cd ((k.toNat : Nat) : Int))) _; rw [Int.toNat_of_nonneg hk.1]; exact (sc_s2 (by omega) (by unfold sp_nm; (repeat' split) <;> first | rfl | (exfalso; omega)))) rfl
              · refine mh_iload6 (pc := 66) F dX9_value_66 ?_
                refine mh_sipush (pc := 68) F dX9_value_68 rfl ?_
                refine mh_isub (pc := 71) F dX9_value_71 ?_
                refine mh_goto (pc := 72) (tgt := 95) F dX9_value_72 rfl ?_
                refine mh_iastore (pc := 95) F sh_36 (by decide) (by omega) dX9_value_95 ?_
                refine mh_nmh (fun h11 e11 => ?_)
                have F11 : mh_FX h11 := by rw [e11]; exact Fhh.upa rfl
                have r33_11 : h11 33 = tx := by rw [e11, mh_up_row (by decide)]; exact q33hh
                have r34_11 : h11 34 = cd := by rw [e11, mh_up_row (by decide)]; exact q34hh
                have r36_11 : h11 36 = mh_ur fz n ((cd k) - 1000) := by rw [e11, mh_up_rs, q36hh]
                have fr11 : mh_fr [36] h h11 := mh_fr.upi frhh e11 (by simp)
                refine mh_iinc4 (pc := 96) F dX9_value_96 rfl (by decide) ?_
                refine mh_goto (pc := 99) (tgt := 185) F dX9_value_99 rfl ?_
                refine mh_iinc5 (pc := 185) F dX9_value_185 rfl (by decide) ?_
                refine mh_goto (pc := 188) (tgt := 6) F dX9_value_188 rfl ?_
                refine mh_drop6 ?_
                exact ihL6 _ (by omega) (n + 1) (k + 1) h11 (mh_ur fz n ((cd k) - 1000)) F11 (fr11.mono (by simp)) r33_11 r34_11 r36_11 (by omega) (by rw [sp_run_at _ _ _ hk.1, ← hr]; show _ = sp_stp (sp_nm a b c) (sc_de (cd ((k.toNat : Nat) : Int))) _; rw [Int.toNat_of_nonneg hk.1]; exact (sc_s1 (by omega))) rfl
  exact L6 _ 0 0 h f0 hF (mh_fr.rf.mono (by simp)) r33 r34 r36 (by omega) rfl rfl

set_option maxRecDepth 100000 in
set_option maxHeartbeats 1500000 in
theorem k3_value_38 {g : mh_G} {d : Nat} (hd : 5 ≤ d) {h : Nat → Int → Int} (hF : mh_FX h) {tx : Int → Int} (r38 : h 38 = tx) {cd : Int → Int} (r39 : h 39 = cd) {f0 : Int → Int} (r41 : h 41 = f0) {a b c : Int} (ha : -2147483648 ≤ a ∧ a < 2147483648) (hb : -2147483648 ≤ b ∧ b < 2147483648) (hc : -2147483648 ≤ c ∧ c < 2147483648) (hw : sp_wf (sc_dc cd) (tx 3)) (hl0 : 0 < tx 3) (hv : sc_cv cd (tx 3)) (hmo : 0 ≤ tx 1 ∧ tx 1 ≤ 999) : mh_M g d yX9_value cX9_value 7 (some .int) 96 0 0 [.ref 38, .int (Int32.ofInt (a)), .int (Int32.ofInt (b)), .int (Int32.ofInt (c))] h (fun r h2 => r = some (.int (Int32.ofInt ((sp_held (sp_val (sc_dc cd) (tx 3) a b c) 0 (tx 1))))) ∧ mh_FX h2 ∧ mh_fr [41] h h2) := by
  refine mh_M_of RX9 rfl (by decide +kernel) [some (.ref 38), some (.int (Int32.ofInt (a))), some (.int (Int32.ofInt (b))), some (.int (Int32.ofInt (c))), none, none, none] rfl (Nat.le_of_ble_eq_true rfl) (fun f F Z hn0 hR => ?_)
  have hl50 := hw.2.1
  have hnr := sc_nmr ha hb hc
  refine mh_iconst (pc := 0) F dX9_value_0 ?_
  refine mh_istore4 (pc := 1) F dX9_value_1 rfl (by decide) ?_
  refine mh_iconst (pc := 3) F dX9_value_3 ?_
  refine mh_istore5 (pc := 4) F dX9_value_4 rfl (by decide) ?_
  have L6 : ∀ (m : Nat) (n : Int) (k : Int) (hh : Nat → Int → Int) (fz : Int → Int), (mh_FX hh) → (mh_fr [41] h hh) → (hh 38 = tx) → (hh 39 = cd) → (hh 41 = fz) → (0 ≤ k ∧ k ≤ tx 3) → ((n, fz) = sp_run (sp_nm a b c) (sc_dc cd) k.toNat (0, f0)) → (tx 3 - k).toNat = m → mh_V g f 7 96 0 0 6 [some (.ref 38), some (.int (Int32.ofInt (a))), some (.int (Int32.ofInt (b))), some (.int (Int32.ofInt (c))), some (.int (Int32.ofInt (n))), some (.int (Int32.ofInt (k))), none] [] hh := by
    intro m
    induction m using Nat.strongRecOn with
    | _ m ihL6 =>
    intro n k hh fz Fhh frhh q38hh q39hh q41hh hk hr hmz
    refine mh_iload5 (pc := 6) F dX9_value_6 ?_
    refine mh_aload0 (pc := 8) F dX9_value_8 ?_
    refine mh_getir (pc := 9) F sh_38 (by decide) fw_RX9_49_9 dX9_value_9 rfl q38hh ?_
    refine mh_icmp_ge (pc := 12) (tgt := 191) F dX9_value_12 rfl (by omega) (by omega) (fun c_12 => ?_) (fun c_12 => ?_)
    · have hva := sp_val_eq (fz := f0) hw hl0 (fun _ _ _ => rfl) hnr
      have hf0 : fz 0 = sp_val (sc_dc cd) (tx 3) a b c := by rw [show fz = (sp_run (sp_nm a b c) (sc_dc cd) k.toNat (0, f0)).2 from congrArg Prod.snd hr, show k = tx 3 by omega]; exact hva.1
      have hf1 := hva.2
      rw [← hf0] at hf1
      refine mh_iconst (pc := 191) F dX9_value_191 ?_
      refine mh_aload0 (pc := 192) F dX9_value_192 ?_
      refine mh_getir (pc := 193) F sh_38 (by decide) fw_RX9_25_9 dX9_value_193 rfl q38hh ?_
      refine mh_aload0 (pc := 196) F dX9_value_196 ?_
      refine mh_getr (b := 41) (pc := 197) F sh_38 (by decide) fw_RX9_18_9 dX9_value_197 rfl (fx_38_6 Fhh) ?_
      refine mh_iconst (pc := 200) F dX9_value_200 ?_
      refine mh_ialoadr (pc := 201) F sh_41 (by decide) (by omega) dX9_value_201 q41hh ?_
      refine mh_callSp (pc := 202) (As := [.int (Int32.ofInt (tx 1)), .int (Int32.ofInt (fz 0))]) (st := [.int (Int32.ofInt (0))]) F (by omega) (k_min (by omega) (by omega) (by omega)) ws_RX9_55 dX9_value_202 rfl rfl (Nat.le_of_ble_eq_true rfl) ⟨Nat.zero_le _, Nat.zero_le _⟩ ?_
      refine mh_callSp (pc := 205) (As := [.int (Int32.ofInt (0)), .int (Int32.ofInt (min (tx 1) (fz 0)))]) (st := []) F (by omega) (k_max (by omega) (by omega) (by omega)) ws_RX9_61 dX9_value_205 rfl rfl (Nat.le_of_ble_eq_true rfl) ⟨Nat.zero_le _, Nat.zero_le _⟩ ?_
      exact mh_ireturn F Z dX9_value_208 ⟨(mh_sv (by rw [hf0]; rfl)), Fhh, (frhh.mono (by simp))⟩
    · have hw1 := hw.2.2.1 k.toNat (by rw [Int.toNat_of_nonneg hk.1]; omega)
      have hcd : sc_dc cd k.toNat = sc_de (cd k) := by unfold sc_dc; rw [Int.toNat_of_nonneg hk.1]
      rw [hcd] at hw1
      have hd1 := sp_dep_nn hw k.toNat (by rw [Int.toNat_of_nonneg hk.1]; omega)
      have hd2 := sp_dep_le (sc_dc cd) k.toNat
      have hnd : n = sp_dep (sc_dc cd) k.toNat := by have := congrArg Prod.fst hr; rw [sp_run_dep] at this; exact this
      rw [← hnd] at hw1 hd1 hd2
      have hsr : ∀ i, 0 ≤ i → i < n → -2147483648 ≤ fz i ∧ fz i < 2147483648 := fun i i0 i1 => by
        have := (sp_run_same hw (nm2 := (sp_nm a b c)) (fun _ _ _ => rfl) hnr f0 f0 k.toNat (by rw [Int.toNat_of_nonneg hk.1]; omega) i i0 (by rw [← hnd]; exact i1)).2
        rw [← hr] at this; exact this
      have hvk := hv k hk.1 (by omega)
      obtain ⟨hw11, hw12, hw13, hw14, hw15⟩ := hw1
      refine mh_iload5 (pc := 15) F dX9_value_15 ?_
      refine mh_bipush (pc := 17) F dX9_value_17 rfl ?_
      refine mh_icmp_ge (pc := 19) (tgt := 191) F dX9_value_19 rfl (by omega) (by omega) (fun c_19 => ?_) (fun c_19 => ?_)
      · exfalso; omega
      · refine mh_aload0 (pc := 22) F dX9_value_22 ?_
        refine mh_getr (b := 39) (pc := 23) F sh_38 (by decide) fw_RX9_9_9 dX9_value_23 rfl (fx_38_2 Fhh) ?_
        refine mh_iload5 (pc := 26) F dX9_value_26 ?_
        refine mh_ialoadr (pc := 28) F sh_39 (by decide) (by omega) dX9_value_28 q39hh ?_
        refine mh_istore6 (pc := 29) F dX9_value_29 rfl (by decide) ?_
        refine mh_iload6 (pc := 31) F dX9_value_31 ?_
        refine mh_iconst (pc := 33) F dX9_value_33 ?_
        refine mh_icmp_lt (pc := 34) (tgt := 45) F dX9_value_34 rfl (by omega) (by omega) (fun c_34 => ?_) (fun c_34 => ?_)
        · refine mh_iload4 (pc := 45) F dX9_value_45 ?_
          refine mh_bipush (pc := 47) F dX9_value_47 rfl ?_
          refine mh_icmp_ge (pc := 49) (tgt := 185) F dX9_value_49 rfl (by omega) (by omega) (fun c_49 => ?_) (fun c_49 => ?_)
          · exfalso; have hw14x := sp_dep_le (sc_dc cd) k.toNat; omega
          · refine mh_aload0 (pc := 52) F dX9_value_52 ?_
            refine mh_getr (b := 41) (pc := 53) F sh_38 (by decide) fw_RX9_18_9 dX9_value_53 rfl (fx_38_6 Fhh) ?_
            refine mh_iload4 (pc := 56) F dX9_value_56 ?_
            refine mh_iload6 (pc := 58) F dX9_value_58 ?_
            refine mh_sipush (pc := 60) F dX9_value_60 rfl ?_
            refine mh_icmp_lt (pc := 63) (tgt := 75) F dX9_value_63 rfl (by omega) (by omega) (fun c_63 => ?_) (fun c_63 => ?_)
            · refine mh_iload6 (pc := 75) F dX9_value_75 ?_
              refine mh_if_ne (pc := 77) (tgt := 84) F dX9_value_77 rfl (by omega) (fun c_77 => ?_) (fun c_77 => ?_)
              · refine mh_iload6 (pc := 84) F dX9_value_84 ?_
                refine mh_iconst (pc := 86) F dX9_value_86 ?_
                refine mh_icmp_ne (pc := 87) (tgt := 94) F dX9_value_87 rfl (by omega) (by omega) (fun c_87 => ?_) (fun c_87 => ?_)
                · refine mh_iload3 (pc := 94) F dX9_value_94 ?_
                  refine mh_iastore (pc := 95) F sh_41 (by decide) (by omega) dX9_value_95 ?_
                  refine mh_nmh (fun h1 e1 => ?_)
                  have F1 : mh_FX h1 := by rw [e1]; exact Fhh.upa rfl
                  have r38_1 : h1 38 = tx := by rw [e1, mh_up_row (by decide)]; exact q38hh
                  have r39_1 : h1 39 = cd := by rw [e1, mh_up_row (by decide)]; exact q39hh
                  have r41_1 : h1 41 = mh_ur fz n c := by rw [e1, mh_up_rs, q41hh]
                  have fr1 : mh_fr [41] h h1 := mh_fr.upi frhh e1 (by simp)
                  refine mh_iinc4 (pc := 96) F dX9_value_96 rfl (by decide) ?_
                  refine mh_goto (pc := 99) (tgt := 185) F dX9_value_99 rfl ?_
                  refine mh_iinc5 (pc := 185) F dX9_value_185 rfl (by decide) ?_
                  refine mh_goto (pc := 188) (tgt := 6) F dX9_value_188 rfl ?_
                  refine mh_drop6 ?_
                  exact ihL6 _ (by omega) (n + 1) (k + 1) h1 (mh_ur fz n c) F1 (fr1.mono (by simp)) r38_1 r39_1 r41_1 (by omega) (by rw [sp_run_at _ _ _ hk.1, ← hr]; show _ = sp_stp (sp_nm a b c) (sc_de (cd ((k.toNat : Nat) : Int))) _; rw [Int.toNat_of_nonneg hk.1]; exact (sc_s2 (by omega) (by unfold sp_nm; (repeat' split) <;> first | rfl | (exfalso; omega)))) rfl
                · refine mh_iload2 (pc := 90) F dX9_value_90 ?_
                  refine mh_goto (pc := 91) (tgt := 95) F dX9_value_91 rfl ?_
                  refine mh_iastore (pc := 95) F sh_41 (by decide) (by omega) dX9_value_95 ?_
                  refine mh_nmh (fun h2 e2 => ?_)
                  have F2 : mh_FX h2 := by rw [e2]; exact Fhh.upa rfl
                  have r38_2 : h2 38 = tx := by rw [e2, mh_up_row (by decide)]; exact q38hh
                  have r39_2 : h2 39 = cd := by rw [e2, mh_up_row (by decide)]; exact q39hh
                  have r41_2 : h2 41 = mh_ur fz n b := by rw [e2, mh_up_rs, q41hh]
                  have fr2 : mh_fr [41] h h2 := mh_fr.upi frhh e2 (by simp)
                  refine mh_iinc4 (pc := 96) F dX9_value_96 rfl (by decide) ?_
                  refine mh_goto (pc := 99) (tgt := 185) F dX9_value_99 rfl ?_
                  refine mh_iinc5 (pc := 185) F dX9_value_185 rfl (by decide) ?_
                  refine mh_goto (pc := 188) (tgt := 6) F dX9_value_188 rfl ?_
                  refine mh_drop6 ?_
                  exact ihL6 _ (by omega) (n + 1) (k + 1) h2 (mh_ur fz n b) F2 (fr2.mono (by simp)) r38_2 r39_2 r41_2 (by omega) (by rw [sp_run_at _ _ _ hk.1, ← hr]; show _ = sp_stp (sp_nm a b c) (sc_de (cd ((k.toNat : Nat) : Int))) _; rw [Int.toNat_of_nonneg hk.1]; exact (sc_s2 (by omega) (by unfold sp_nm; (repeat' split) <;> first | rfl | (exfalso; omega)))) rfl
              · refine mh_iload1 (pc := 80) F dX9_value_80 ?_
                refine mh_goto (pc := 81) (tgt := 95) F dX9_value_81 rfl ?_
                refine mh_iastore (pc := 95) F sh_41 (by decide) (by omega) dX9_value_95 ?_
                refine mh_nmh (fun h3 e3 => ?_)
                have F3 : mh_FX h3 := by rw [e3]; exact Fhh.upa rfl
                have r38_3 : h3 38 = tx := by rw [e3, mh_up_row (by decide)]; exact q38hh
                have r39_3 : h3 39 = cd := by rw [e3, mh_up_row (by decide)]; exact q39hh
                have r41_3 : h3 41 = mh_ur fz n a := by rw [e3, mh_up_rs, q41hh]
                have fr3 : mh_fr [41] h h3 := mh_fr.upi frhh e3 (by simp)
                refine mh_iinc4 (pc := 96) F dX9_value_96 rfl (by decide) ?_
                refine mh_goto (pc := 99) (tgt := 185) F dX9_value_99 rfl ?_
                refine mh_iinc5 (pc := 185) F dX9_value_185 rfl (by decide) ?_
                refine mh_goto (pc := 188) (tgt := 6) F dX9_value_188 rfl ?_
                refine mh_drop6 ?_
                exact ihL6 _ (by omega) (n + 1) (k + 1) h3 (mh_ur fz n a) F3 (fr3.mono (by simp)) r38_3 r39_3 r41_3 (by omega) (by rw [sp_run_at _ _ _ hk.1, ← hr]; show _ = sp_stp (sp_nm a b c) (sc_de (cd ((k.toNat : Nat) : Int))) _; rw [Int.toNat_of_nonneg hk.1]; exact (sc_s2 (by omega) (by unfold sp_nm; (repeat' split) <;> first | rfl | (exfalso; omega)))) rfl
            · refine mh_iload6 (pc := 66) F dX9_value_66 ?_
              refine mh_sipush (pc := 68) F dX9_value_68 rfl ?_
              refine mh_isub (pc := 71) F dX9_value_71 ?_
              refine mh_goto (pc := 72) (tgt := 95) F dX9_value_72 rfl ?_
              refine mh_iastore (pc := 95) F sh_41 (by decide) (by omega) dX9_value_95 ?_
              refine mh_nmh (fun h4 e4 => ?_)
              have F4 : mh_FX h4 := by rw [e4]; exact Fhh.upa rfl
              have r38_4 : h4 38 = tx := by rw [e4, mh_up_row (by decide)]; exact q38hh
              have r39_4 : h4 39 = cd := by rw [e4, mh_up_row (by decide)]; exact q39hh
              have r41_4 : h4 41 = mh_ur fz n ((cd k) - 1000) := by rw [e4, mh_up_rs, q41hh]
              have fr4 : mh_fr [41] h h4 := mh_fr.upi frhh e4 (by simp)
              refine mh_iinc4 (pc := 96) F dX9_value_96 rfl (by decide) ?_
              refine mh_goto (pc := 99) (tgt := 185) F dX9_value_99 rfl ?_
              refine mh_iinc5 (pc := 185) F dX9_value_185 rfl (by decide) ?_
              refine mh_goto (pc := 188) (tgt := 6) F dX9_value_188 rfl ?_
              refine mh_drop6 ?_
              exact ihL6 _ (by omega) (n + 1) (k + 1) h4 (mh_ur fz n ((cd k) - 1000)) F4 (fr4.mono (by simp)) r38_4 r39_4 r41_4 (by omega) (by rw [sp_run_at _ _ _ hk.1, ← hr]; show _ = sp_stp (sp_nm a b c) (sc_de (cd ((k.toNat : Nat) : Int))) _; rw [Int.toNat_of_nonneg hk.1]; exact (sc_s1 (by omega))) rfl
        · refine mh_iload6 (pc := 37) F dX9_value_37 ?_
          refine mh_sipush (pc := 39) F dX9_value_39 rfl ?_
          refine mh_icmp_lt (pc := 42) (tgt := 102) F dX9_value_42 rfl (by omega) (by omega) (fun c_42 => ?_) (fun c_42 => ?_)
          · have hde : sc_de (cd k) = -100 - cd k := sc_de3 (by omega) (by omega)
            have hw14 := hw14 (by omega)
            refine mh_iload6 (pc := 102) F dX9_value_102 ?_
            refine mh_bipush (pc := 104) F dX9_value_104 rfl ?_
            refine mh_icmp_ne (pc := 106) (tgt := 146) F dX9_value_106 rfl (by omega) (by omega) (fun c_106 => ?_) (fun c_106 => ?_)
            · have hw15 := hw15 (by omega) (by omega)
              refine mh_iload4 (pc := 146) F dX9_value_146 ?_
              refine mh_iconst (pc := 148) F dX9_value_148 ?_
              refine mh_icmp_le (pc := 149) (tgt := 185) F dX9_value_149 rfl (by omega) (by omega) (fun c_149 => ?_) (fun c_149 => ?_)
              · exfalso; omega
              · refine mh_iinc4 (pc := 152) F dX9_value_152 rfl (by decide) ?_
                refine mh_aload0 (pc := 155) F dX9_value_155 ?_
                refine mh_getr (b := 41) (pc := 156) F sh_38 (by decide) fw_RX9_18_9 dX9_value_156 rfl (fx_38_6 Fhh) ?_
                refine mh_iload4 (pc := 159) F dX9_value_159 ?_
                refine mh_iconst (pc := 161) F dX9_value_161 ?_
                refine mh_isub (pc := 162) F dX9_value_162 ?_
                refine mh_iload6 (pc := 163) F dX9_value_163 ?_
                refine mh_aload0 (pc := 165) F dX9_value_165 ?_
                refine mh_getr (b := 41) (pc := 166) F sh_38 (by decide) fw_RX9_18_9 dX9_value_166 rfl (fx_38_6 Fhh) ?_
                refine mh_iload4 (pc := 169) F dX9_value_169 ?_
                refine mh_iconst (pc := 171) F dX9_value_171 ?_
                refine mh_isub (pc := 172) F dX9_value_172 ?_
                refine mh_ialoadr (pc := 173) F sh_41 (by decide) (by omega) dX9_value_173 q41hh ?_
                refine mh_aload0 (pc := 174) F dX9_value_174 ?_
                refine mh_getr (b := 41) (pc := 175) F sh_38 (by decide) fw_RX9_18_9 dX9_value_175 rfl (fx_38_6 Fhh) ?_
                refine mh_iload4 (pc := 178) F dX9_value_178 ?_
                refine mh_ialoadr (pc := 180) F sh_41 (by decide) (by omega) dX9_value_180 q41hh ?_
                refine mh_callSp (pc := 181) (As := [.int (Int32.ofInt (cd k)), .int (Int32.ofInt (fz ((n + (-1)) - 1))), .int (Int32.ofInt (fz (n + (-1))))]) (st := [.int (Int32.ofInt ((n + (-1)) - 1)), .ref 41]) F (by omega) (k3_joined (by omega) (by omega) (hsr _ (by omega) (by omega)) (hsr _ (by omega) (by omega))) ws_RX9_81 dX9_value_181 rfl rfl (Nat.le_of_ble_eq_true rfl) ⟨Nat.zero_le _, Nat.zero_le _⟩ ?_
                refine mh_iastore (pc := 184) F sh_41 (by decide) (by omega) dX9_value_184 ?_
                refine mh_nmh (fun h5 e5 => ?_)
                have F5 : mh_FX h5 := by rw [e5]; exact Fhh.upa rfl
                have r38_5 : h5 38 = tx := by rw [e5, mh_up_row (by decide)]; exact q38hh
                have r39_5 : h5 39 = cd := by rw [e5, mh_up_row (by decide)]; exact q39hh
                have r41_5 : h5 41 = mh_ur fz ((n + (-1)) - 1) (sp_done (cd k) (fz ((n + (-1)) - 1)) (fz (n + (-1)))) := by rw [e5, mh_up_rs, q41hh]
                have fr5 : mh_fr [41] h h5 := mh_fr.upi frhh e5 (by simp)
                refine mh_iinc5 (pc := 185) F dX9_value_185 rfl (by decide) ?_
                refine mh_goto (pc := 188) (tgt := 6) F dX9_value_188 rfl ?_
                refine mh_drop6 ?_
                exact ihL6 _ (by omega) (n + (-1)) (k + 1) h5 (mh_ur fz ((n + (-1)) - 1) (sp_done (cd k) (fz ((n + (-1)) - 1)) (fz (n + (-1))))) F5 (fr5.mono (by simp)) r38_5 r39_5 r41_5 (by omega) (by rw [sp_run_at _ _ _ hk.1, ← hr]; show _ = sp_stp (sp_nm a b c) (sc_de (cd ((k.toNat : Nat) : Int))) _; rw [Int.toNat_of_nonneg hk.1]; exact (sc_s5 (by omega) (by omega))) rfl
            · refine mh_iload4 (pc := 109) F dX9_value_109 ?_
              refine mh_if_le (pc := 111) (tgt := 146) F dX9_value_111 rfl (by omega) (fun c_111 => ?_) (fun c_111 => ?_)
              · exfalso; omega
              · refine mh_aload0 (pc := 114) F dX9_value_114 ?_
                refine mh_getr (b := 41) (pc := 115) F sh_38 (by decide) fw_RX9_18_9 dX9_value_115 rfl (fx_38_6 Fhh) ?_
                refine mh_iload4 (pc := 118) F dX9_value_118 ?_
                refine mh_iconst (pc := 120) F dX9_value_120 ?_
                refine mh_isub (pc := 121) F dX9_value_121 ?_
                refine mh_aload0 (pc := 122) F dX9_value_122 ?_
                refine mh_getr (b := 41) (pc := 123) F sh_38 (by decide) fw_RX9_18_9 dX9_value_123 rfl (fx_38_6 Fhh) ?_
                refine mh_iload4 (pc := 126) F dX9_value_126 ?_
                refine mh_iconst (pc := 128) F dX9_value_128 ?_
                refine mh_isub (pc := 129) F dX9_value_129 ?_
                refine mh_ialoadr (pc := 130) F sh_41 (by decide) (by omega) dX9_value_130 q41hh ?_
                refine mh_if_ne (pc := 131) (tgt := 138) F dX9_value_131 rfl (hsr _ (by omega) (by omega)) (fun c_131 => ?_) (fun c_131 => ?_)
                · refine mh_iconst (pc := 138) F dX9_value_138 ?_
                  refine mh_callSp (pc := 139) (As := [.int (Int32.ofInt (0))]) (st := [.int (Int32.ofInt (n - 1)), .ref 41]) F (by omega) (k3_bit (by omega) (by decide)) ws_RX9_77 dX9_value_139 rfl rfl (Nat.le_of_ble_eq_true rfl) ⟨Nat.zero_le _, Nat.zero_le _⟩ ?_
                  refine mh_iastore (pc := 142) F sh_41 (by decide) (by omega) dX9_value_142 ?_
                  refine mh_nmh (fun h6 e6 => ?_)
                  have F6 : mh_FX h6 := by rw [e6]; exact Fhh.upa rfl
                  have r38_6 : h6 38 = tx := by rw [e6, mh_up_row (by decide)]; exact q38hh
                  have r39_6 : h6 39 = cd := by rw [e6, mh_up_row (by decide)]; exact q39hh
                  have r41_6 : h6 41 = mh_ur fz (n - 1) 0 := by rw [e6, mh_up_rs, q41hh]
                  have fr6 : mh_fr [41] h h6 := mh_fr.upi frhh e6 (by simp)
                  refine mh_goto (pc := 143) (tgt := 185) F dX9_value_143 rfl ?_
                  refine mh_iinc5 (pc := 185) F dX9_value_185 rfl (by decide) ?_
                  refine mh_goto (pc := 188) (tgt := 6) F dX9_value_188 rfl ?_
                  refine mh_drop6 ?_
                  exact ihL6 _ (by omega) n (k + 1) h6 (mh_ur fz (n - 1) 0) F6 (fr6.mono (by simp)) r38_6 r39_6 r41_6 (by omega) (by rw [sp_run_at _ _ _ hk.1, ← hr]; show _ = sp_stp (sp_nm a b c) (sc_de (cd ((k.toNat : Nat) : Int))) _; rw [Int.toNat_of_nonneg hk.1]; exact (sc_s4 (by omega) (by omega))) rfl
                · refine mh_iconst (pc := 134) F dX9_value_134 ?_
                  refine mh_goto (pc := 135) (tgt := 139) F dX9_value_135 rfl ?_
                  refine mh_callSp (pc := 139) (As := [.int (Int32.ofInt (1))]) (st := [.int (Int32.ofInt (n - 1)), .ref 41]) F (by omega) (k3_bit (by omega) (by decide)) ws_RX9_77 dX9_value_139 rfl rfl (Nat.le_of_ble_eq_true rfl) ⟨Nat.zero_le _, Nat.zero_le _⟩ ?_
                  refine mh_iastore (pc := 142) F sh_41 (by decide) (by omega) dX9_value_142 ?_
                  refine mh_nmh (fun h7 e7 => ?_)
                  have F7 : mh_FX h7 := by rw [e7]; exact Fhh.upa rfl
                  have r38_7 : h7 38 = tx := by rw [e7, mh_up_row (by decide)]; exact q38hh
                  have r39_7 : h7 39 = cd := by rw [e7, mh_up_row (by decide)]; exact q39hh
                  have r41_7 : h7 41 = mh_ur fz (n - 1) 1 := by rw [e7, mh_up_rs, q41hh]
                  have fr7 : mh_fr [41] h h7 := mh_fr.upi frhh e7 (by simp)
                  refine mh_goto (pc := 143) (tgt := 185) F dX9_value_143 rfl ?_
                  refine mh_iinc5 (pc := 185) F dX9_value_185 rfl (by decide) ?_
                  refine mh_goto (pc := 188) (tgt := 6) F dX9_value_188 rfl ?_
                  refine mh_drop6 ?_
                  exact ihL6 _ (by omega) n (k + 1) h7 (mh_ur fz (n - 1) 1) F7 (fr7.mono (by simp)) r38_7 r39_7 r41_7 (by omega) (by rw [sp_run_at _ _ _ hk.1, ← hr]; show _ = sp_stp (sp_nm a b c) (sc_de (cd ((k.toNat : Nat) : Int))) _; rw [Int.toNat_of_nonneg hk.1]; exact (sc_s3 (by omega) (by omega))) rfl
          · refine mh_iload4 (pc := 45) F dX9_value_45 ?_
            refine mh_bipush (pc := 47) F dX9_value_47 rfl ?_
            refine mh_icmp_ge (pc := 49) (tgt := 185) F dX9_value_49 rfl (by omega) (by omega) (fun c_49 => ?_) (fun c_49 => ?_)
            · exfalso; have hw14x := sp_dep_le (sc_dc cd) k.toNat; omega
            · refine mh_aload0 (pc := 52) F dX9_value_52 ?_
              refine mh_getr (b := 41) (pc := 53) F sh_38 (by decide) fw_RX9_18_9 dX9_value_53 rfl (fx_38_6 Fhh) ?_
              refine mh_iload4 (pc := 56) F dX9_value_56 ?_
              refine mh_iload6 (pc := 58) F dX9_value_58 ?_
              refine mh_sipush (pc := 60) F dX9_value_60 rfl ?_
              refine mh_icmp_lt (pc := 63) (tgt := 75) F dX9_value_63 rfl (by omega) (by omega) (fun c_63 => ?_) (fun c_63 => ?_)
              · refine mh_iload6 (pc := 75) F dX9_value_75 ?_
                refine mh_if_ne (pc := 77) (tgt := 84) F dX9_value_77 rfl (by omega) (fun c_77 => ?_) (fun c_77 => ?_)
                · refine mh_iload6 (pc := 84) F dX9_value_84 ?_
                  refine mh_iconst (pc := 86) F dX9_value_86 ?_
                  refine mh_icmp_ne (pc := 87) (tgt := 94) F dX9_value_87 rfl (by omega) (by omega) (fun c_87 => ?_) (fun c_87 => ?_)
                  · refine mh_iload3 (pc := 94) F dX9_value_94 ?_
                    refine mh_iastore (pc := 95) F sh_41 (by decide) (by omega) dX9_value_95 ?_
                    refine mh_nmh (fun h8 e8 => ?_)
                    have F8 : mh_FX h8 := by rw [e8]; exact Fhh.upa rfl
                    have r38_8 : h8 38 = tx := by rw [e8, mh_up_row (by decide)]; exact q38hh
                    have r39_8 : h8 39 = cd := by rw [e8, mh_up_row (by decide)]; exact q39hh
                    have r41_8 : h8 41 = mh_ur fz n c := by rw [e8, mh_up_rs, q41hh]
                    have fr8 : mh_fr [41] h h8 := mh_fr.upi frhh e8 (by simp)
                    refine mh_iinc4 (pc := 96) F dX9_value_96 rfl (by decide) ?_
                    refine mh_goto (pc := 99) (tgt := 185) F dX9_value_99 rfl ?_
                    refine mh_iinc5 (pc := 185) F dX9_value_185 rfl (by decide) ?_
                    refine mh_goto (pc := 188) (tgt := 6) F dX9_value_188 rfl ?_
                    refine mh_drop6 ?_
                    exact ihL6 _ (by omega) (n + 1) (k + 1) h8 (mh_ur fz n c) F8 (fr8.mono (by simp)) r38_8 r39_8 r41_8 (by omega) (by rw [sp_run_at _ _ _ hk.1, ← hr]; show _ = sp_stp (sp_nm a b c) (sc_de (cd ((k.toNat : Nat) : Int))) _; rw [Int.toNat_of_nonneg hk.1]; exact (sc_s2 (by omega) (by unfold sp_nm; (repeat' split) <;> first | rfl | (exfalso; omega)))) rfl
                  · refine mh_iload2 (pc := 90) F dX9_value_90 ?_
                    refine mh_goto (pc := 91) (tgt := 95) F dX9_value_91 rfl ?_
                    refine mh_iastore (pc := 95) F sh_41 (by decide) (by omega) dX9_value_95 ?_
                    refine mh_nmh (fun h9 e9 => ?_)
                    have F9 : mh_FX h9 := by rw [e9]; exact Fhh.upa rfl
                    have r38_9 : h9 38 = tx := by rw [e9, mh_up_row (by decide)]; exact q38hh
                    have r39_9 : h9 39 = cd := by rw [e9, mh_up_row (by decide)]; exact q39hh
                    have r41_9 : h9 41 = mh_ur fz n b := by rw [e9, mh_up_rs, q41hh]
                    have fr9 : mh_fr [41] h h9 := mh_fr.upi frhh e9 (by simp)
                    refine mh_iinc4 (pc := 96) F dX9_value_96 rfl (by decide) ?_
                    refine mh_goto (pc := 99) (tgt := 185) F dX9_value_99 rfl ?_
                    refine mh_iinc5 (pc := 185) F dX9_value_185 rfl (by decide) ?_
                    refine mh_goto (pc := 188) (tgt := 6) F dX9_value_188 rfl ?_
                    refine mh_drop6 ?_
                    exact ihL6 _ (by omega) (n + 1) (k + 1) h9 (mh_ur fz n b) F9 (fr9.mono (by simp)) r38_9 r39_9 r41_9 (by omega) (by rw [sp_run_at _ _ _ hk.1, ← hr]; show _ = sp_stp (sp_nm a b c) (sc_de (cd ((k.toNat : Nat) : Int))) _; rw [Int.toNat_of_nonneg hk.1]; exact (sc_s2 (by omega) (by unfold sp_nm; (repeat' split) <;> first | rfl | (exfalso; omega)))) rfl
                · refine mh_iload1 (pc := 80) F dX9_value_80 ?_
                  refine mh_goto (pc := 81) (tgt := 95) F dX9_value_81 rfl ?_
                  refine mh_iastore (pc := 95) F sh_41 (by decide) (by omega) dX9_value_95 ?_
                  refine mh_nmh (fun h10 e10 => ?_)
                  have F10 : mh_FX h10 := by rw [e10]; exact Fhh.upa rfl
                  have r38_10 : h10 38 = tx := by rw [e10, mh_up_row (by decide)]; exact q38hh
                  have r39_10 : h10 39 = cd := by rw [e10, mh_up_row (by decide)]; exact q39hh
                  have r41_10 : h10 41 = mh_ur fz n a := by rw [e10, mh_up_rs, q41hh]
                  have fr10 : mh_fr [41] h h10 := mh_fr.upi frhh e10 (by simp)
                  refine mh_iinc4 (pc := 96) F dX9_value_96 rfl (by decide) ?_
                  refine mh_goto (pc := 99) (tgt := 185) F dX9_value_99 rfl ?_
                  refine mh_iinc5 (pc := 185) F dX9_value_185 rfl (by decide) ?_
                  refine mh_goto (pc := 188) (tgt := 6) F dX9_value_188 rfl ?_
                  refine mh_drop6 ?_
                  exact ihL6 _ (by omega) (n + 1) (k + 1) h10 (mh_ur fz n a) F10 (fr10.mono (by simp)) r38_10 r39_10 r41_10 (by omega) (by rw [sp_run_at _ _ _ hk.1, ← hr]; show _ = sp_stp (sp_nm a b c) (sc_de (cd ((k.toNat : Nat) : Int))) _; rw [Int.toNat_of_nonneg hk.1]; exact (sc_s2 (by omega) (by unfold sp_nm; (repeat' split) <;> first | rfl | (exfalso; omega)))) rfl
              · refine mh_iload6 (pc := 66) F dX9_value_66 ?_
                refine mh_sipush (pc := 68) F dX9_value_68 rfl ?_
                refine mh_isub (pc := 71) F dX9_value_71 ?_
                refine mh_goto (pc := 72) (tgt := 95) F dX9_value_72 rfl ?_
                refine mh_iastore (pc := 95) F sh_41 (by decide) (by omega) dX9_value_95 ?_
                refine mh_nmh (fun h11 e11 => ?_)
                have F11 : mh_FX h11 := by rw [e11]; exact Fhh.upa rfl
                have r38_11 : h11 38 = tx := by rw [e11, mh_up_row (by decide)]; exact q38hh
                have r39_11 : h11 39 = cd := by rw [e11, mh_up_row (by decide)]; exact q39hh
                have r41_11 : h11 41 = mh_ur fz n ((cd k) - 1000) := by rw [e11, mh_up_rs, q41hh]
                have fr11 : mh_fr [41] h h11 := mh_fr.upi frhh e11 (by simp)
                refine mh_iinc4 (pc := 96) F dX9_value_96 rfl (by decide) ?_
                refine mh_goto (pc := 99) (tgt := 185) F dX9_value_99 rfl ?_
                refine mh_iinc5 (pc := 185) F dX9_value_185 rfl (by decide) ?_
                refine mh_goto (pc := 188) (tgt := 6) F dX9_value_188 rfl ?_
                refine mh_drop6 ?_
                exact ihL6 _ (by omega) (n + 1) (k + 1) h11 (mh_ur fz n ((cd k) - 1000)) F11 (fr11.mono (by simp)) r38_11 r39_11 r41_11 (by omega) (by rw [sp_run_at _ _ _ hk.1, ← hr]; show _ = sp_stp (sp_nm a b c) (sc_de (cd ((k.toNat : Nat) : Int))) _; rw [Int.toNat_of_nonneg hk.1]; exact (sc_s1 (by omega))) rfl
  exact L6 _ 0 0 h f0 hF (mh_fr.rf.mono (by simp)) r38 r39 r41 (by omega) rfl rfl

