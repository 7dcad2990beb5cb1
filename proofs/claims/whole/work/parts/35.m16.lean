def sp_move (k i l j n : Int) (er b z u : Int → Int) : Int × (Int → Int) × (Int → Int) :=
  if ¬ ((0 ≤ k ∧ k ≤ 3) ∧ (0 ≤ l ∧ l ≤ 3)) then (-1000000001, mh_ur er 1 (er 1 + 1), u)
  else if b k = 0 ∨ b l = 0 then (-1000000002, mh_ur er 2 (er 2 + 1), u)
  else if b k ≠ b l then (-1000000005, mh_ur er 5 (er 5 + 1), u)
  else if ¬ (0 ≤ n ∧ 0 ≤ i ∧ 0 ≤ j ∧ i + n ≤ z k ∧ j + n ≤ z l) then (-1000000001, mh_ur er 1 (er 1 + 1), u)
  else (n, er, fun p => if 40 * l + j ≤ p ∧ p < 40 * l + j + n then u (40 * k + i + (p - (40 * l + j))) else u p)
def sp_ld (p : Int → Bool) : Nat → Int
  | 0 => 0
  | n + 1 => if sp_ld p n = (n : Int) ∧ p (n : Int) = true then (n : Int) + 1 else sp_ld p n
theorem sp_ld_at {p : Int → Bool} {x : Int} (h : 0 ≤ x) (e : sp_ld p x.toNat = x) (q : p x = true) : sp_ld p (x + 1).toNat = x + 1 := by
  rw [show (x + 1).toNat = x.toNat + 1 by omega]
  show (if _ then _ else _) = _
  rw [Int.toNat_of_nonneg h, if_pos ⟨e, q⟩]
theorem sp_ld_stop {p : Int → Bool} {x : Int} (h : 0 ≤ x) (e : sp_ld p x.toNat = x) (q : ¬ p x = true) (n : Nat) : sp_ld p (x.toNat + n) = x := by
  induction n with
  | zero => exact e
  | succ n ih =>
    show (if sp_ld p (x.toNat + n) = ((x.toNat + n : Nat) : Int) ∧ p ((x.toNat + n : Nat) : Int) = true then ((x.toNat + n : Nat) : Int) + 1 else sp_ld p (x.toNat + n)) = x
    rw [ih, if_neg]
    rintro ⟨a, b⟩
    rw [← a] at b
    exact q b
def sp_hts (s u : Int → Int) (k : Int) : Nat → Int → Int
  | 0 => s
  | n + 1 => mh_ur (sp_hts s u k n) (6 + 3 * (n : Int) + 0) (u (40 * k + (n : Int)))
theorem sp_hts_at (s u : Int → Int) (k : Int) {x : Int} (h : 0 ≤ x) : sp_hts s u k (x + 1).toNat = mh_ur (sp_hts s u k x.toNat) (6 + 3 * x + 0) (u (40 * k + x)) := by
  rw [show (x + 1).toNat = x.toNat + 1 by omega]
  show mh_ur _ (6 + 3 * (x.toNat : Int) + 0) (u (40 * k + (x.toNat : Int))) = _
  rw [Int.toNat_of_nonneg h]
def sp_hp (u : Int → Int) (k : Int) : Int → Bool := fun j => decide (0 ≤ u (40 * k + j) ∧ u (40 * k + j) ≤ 40)
def sp_heats (k : Int) (s er b z u : Int → Int) : Int × (Int → Int) × (Int → Int) :=
  if 0 < sp_lacks k b then (-1000000000 - sp_lacks k b, s, mh_ur er (sp_lacks k b) (er (sp_lacks k b) + 1))
  else (sp_ld (sp_hp u k) (min (z k) 9).toNat, sp_hts s u k (sp_ld (sp_hp u k) (min (z k) 9).toNat).toNat, er)
def sp_jp (s u : Int → Int) (k : Int) : Int → Bool := fun j => decide (u (40 * k + j) = sp_stm s j)
def sp_judge (k : Int) (s er b z u : Int → Int) : Int × (Int → Int) :=
  if 0 < sp_lacks k b then (-1000000000 - sp_lacks k b, mh_ur er (sp_lacks k b) (er (sp_lacks k b) + 1))
  else (if sp_ld (sp_jp s u k) (min (s 3) (z k)).toNat = s 3 ∧ sp_ld (sp_jp s u k) (min (s 3) (z k)).toNat = z k then -1 else sp_ld (sp_jp s u k) (min (s 3) (z k)).toNat, er)
theorem sp_lacks_ok {k : Int} {b : Int → Int} (h : ¬ 0 < sp_lacks k b) : 0 ≤ k ∧ k ≤ 3 := by
  rcases (show (0 ≤ k ∧ k ≤ 3) ∨ ¬ (0 ≤ k ∧ k ≤ 3) by omega) with q | q
  · exact q
  · exfalso; apply h; unfold sp_lacks; rw [if_pos q]; decide
set_option maxRecDepth 100000 in
set_option maxHeartbeats 4000000 in
theorem p_move {g : mh_G} {d : Nat} (hd : 10 ≤ d) {h : Nat → Int → Int} (hF : mh_FX h) {er : Int → Int} (r85 : h 85 = er) {b : Int → Int} (r92 : h 92 = b) {z : Int → Int} (r93 : h 93 = z) {u : Int → Int} (r94 : h 94 = u) {w5 : Int → Int} (r95 : h 95 = w5) {k i l j n : Int} (hk : -2147483648 ≤ k ∧ k < 2147483648) (hi : -2147483648 ≤ i ∧ i < 2147483648) (hl : -2147483648 ≤ l ∧ l < 2147483648) (hj : -2147483648 ≤ j ∧ j < 2147483648) (hn : -2147483648 ≤ n ∧ n < 2147483648) (hb : ∀ j, 0 ≤ j → j < 4 → (b j = 0 ∨ b j = 8 ∨ b j = 16 ∨ b j = 32) ∧ (0 ≤ z j ∧ z j ≤ 40)) : mh_M g d yX12_move cX12_move 8 (some .int) 96 0 0 [.ref 81, .int (Int32.ofInt (k)), .int (Int32.ofInt (i)), .int (Int32.ofInt (l)), .int (Int32.ofInt (j)), .int (Int32.ofInt (n))] h (fun r h2 => ∃ (vv : Int) (t0 : Int → Int) (t1 : Int → Int), (vv, t0, t1) = sp_move k i l j n er b z u ∧ r = some (.int (Int32.ofInt vv)) ∧ mh_FX h2 ∧ mh_fr [85, 94, 95] h h2 ∧ h2 85 = t0 ∧ h2 94 = t1) := by
  refine mh_M_of RX12 rfl (by decide +kernel) [some (.ref 81), some (.int (Int32.ofInt (k))), some (.int (Int32.ofInt (i))), some (.int (Int32.ofInt (l))), some (.int (Int32.ofInt (j))), some (.int (Int32.ofInt (n))), none, none] rfl (Nat.le_of_ble_eq_true rfl) (fun f F Z hn0 hR => ?_)
  refine mh_iload1 (pc := 0) F dX12_move_0 ?_
  refine mh_callSp (pc := 1) (As := [.int (Int32.ofInt (k))]) (st := []) F (by omega) (k_isSheet (by omega) (by omega)) ws_RX12_387 dX12_move_1 rfl rfl (Nat.le_of_ble_eq_true rfl) ⟨Nat.zero_le _, Nat.zero_le _⟩ ?_
  refine mh_ifb_eq (pc := 4) (tgt := 14) F dX12_move_4 rfl (fun c_4 => ?_) (fun c_4 => ?_)
  · refine mh_aload0 (pc := 14) F dX12_move_14 ?_
    refine mh_iconst (pc := 15) F dX12_move_15 ?_
    refine mh_callV0 (pc := 16) (As := [.int (Int32.ofInt (1))]) (st := []) F (by omega) (k_error (by omega) hF r85 (by omega)) wv_RX12_114_yX12_error dX12_move_16 sh_81 rfl (by decide) rfl rfl (Nat.le_of_ble_eq_true rfl) ⟨Nat.zero_le _, Nat.zero_le _⟩ (fun r1 h1 q1 => ?_)
    obtain ⟨rfl, F1, fr1, q1_0⟩ := q1
    have r92_2 : h1 92 = b := (fr1 _ (by decide)).trans r92
    have r93_2 : h1 93 = z := (fr1 _ (by decide)).trans r93
    have r94_2 : h1 94 = u := (fr1 _ (by decide)).trans r94
    have r95_2 : h1 95 = w5 := (fr1 _ (by decide)).trans r95
    have fr2 : mh_fr [85] h h1 := (mh_fr.tr mh_fr.rf fr1).mono (by simp)
    exact mh_ireturn F Z dX12_move_19 ⟨_, _, _, (by unfold sp_move; (repeat' split) <;> first | (exfalso; omega) | rfl), rfl, F1, (fr2.mono (by simp)), q1_0, r94_2⟩
  · refine mh_iload3 (pc := 7) F dX12_move_7 ?_
    refine mh_callSp (pc := 8) (As := [.int (Int32.ofInt (l))]) (st := []) F (by omega) (k_isSheet (by omega) (by omega)) ws_RX12_387 dX12_move_8 rfl rfl (Nat.le_of_ble_eq_true rfl) ⟨Nat.zero_le _, Nat.zero_le _⟩ ?_
    refine mh_ifb_ne (pc := 11) (tgt := 20) F dX12_move_11 rfl (fun c_11 => ?_) (fun c_11 => ?_)
    · have hbk := hb k (by omega) (by omega)
      have hbl := hb l (by omega) (by omega)
      refine mh_aload0 (pc := 20) F dX12_move_20 ?_
      refine mh_getr (b := 92) (pc := 21) F sh_81 (by decide) fw_RX12_41_12 dX12_move_21 rfl (fx_81_26 hF) ?_
      refine mh_iload1 (pc := 24) F dX12_move_24 ?_
      refine mh_ialoadr (pc := 25) F sh_92 (by decide) (by omega) dX12_move_25 r92 ?_
      refine mh_if_eq (pc := 26) (tgt := 38) F dX12_move_26 rfl (by omega) (fun c_26 => ?_) (fun c_26 => ?_)
      · refine mh_aload0 (pc := 38) F dX12_move_38 ?_
        refine mh_iconst (pc := 39) F dX12_move_39 ?_
        refine mh_callV0 (pc := 40) (As := [.int (Int32.ofInt (2))]) (st := []) F (by omega) (k_error (by omega) hF r85 (by omega)) wv_RX12_114_yX12_error dX12_move_40 sh_81 rfl (by decide) rfl rfl (Nat.le_of_ble_eq_true rfl) ⟨Nat.zero_le _, Nat.zero_le _⟩ (fun r3 h3 q3 => ?_)
        obtain ⟨rfl, F3, fr3, q3_0⟩ := q3
        have r92_4 : h3 92 = b := (fr3 _ (by decide)).trans r92
        have r93_4 : h3 93 = z := (fr3 _ (by decide)).trans r93
        have r94_4 : h3 94 = u := (fr3 _ (by decide)).trans r94
        have r95_4 : h3 95 = w5 := (fr3 _ (by decide)).trans r95
        have fr4 : mh_fr [85] h h3 := (mh_fr.tr mh_fr.rf fr3).mono (by simp)
        exact mh_ireturn F Z dX12_move_43 ⟨_, _, _, (by unfold sp_move; (repeat' split) <;> first | (exfalso; omega) | rfl), rfl, F3, (fr4.mono (by simp)), q3_0, r94_4⟩
      · refine mh_aload0 (pc := 29) F dX12_move_29 ?_
        refine mh_getr (b := 92) (pc := 30) F sh_81 (by decide) fw_RX12_41_12 dX12_move_30 rfl (fx_81_26 hF) ?_
        refine mh_iload3 (pc := 33) F dX12_move_33 ?_
        refine mh_ialoadr (pc := 34) F sh_92 (by decide) (by omega) dX12_move_34 r92 ?_
        refine mh_if_ne (pc := 35) (tgt := 44) F dX12_move_35 rfl (by omega) (fun c_35 => ?_) (fun c_35 => ?_)
        · refine mh_aload0 (pc := 44) F dX12_move_44 ?_
          refine mh_getr (b := 92) (pc := 45) F sh_81 (by decide) fw_RX12_41_12 dX12_move_45 rfl (fx_81_26 hF) ?_
          refine mh_iload1 (pc := 48) F dX12_move_48 ?_
          refine mh_ialoadr (pc := 49) F sh_92 (by decide) (by omega) dX12_move_49 r92 ?_
          refine mh_aload0 (pc := 50) F dX12_move_50 ?_
          refine mh_getr (b := 92) (pc := 51) F sh_81 (by decide) fw_RX12_41_12 dX12_move_51 rfl (fx_81_26 hF) ?_
          refine mh_iload3 (pc := 54) F dX12_move_54 ?_
          refine mh_ialoadr (pc := 55) F sh_92 (by decide) (by omega) dX12_move_55 r92 ?_
          refine mh_icmp_eq (pc := 56) (tgt := 65) F dX12_move_56 rfl (by omega) (by omega) (fun c_56 => ?_) (fun c_56 => ?_)
          · have J121 : ∀ (jy : Int), ((jy = 1 ∧ (0 ≤ n ∧ 0 ≤ i ∧ 0 ≤ j ∧ i + n ≤ z k ∧ j + n ≤ z l)) ∨ (jy = 0 ∧ ¬ (0 ≤ n ∧ 0 ≤ i ∧ 0 ≤ j ∧ i + n ≤ z k ∧ j + n ≤ z l))) → mh_V g f 8 96 0 0 121 [some (.ref 81), some (.int (Int32.ofInt (k))), some (.int (Int32.ofInt (i))), some (.int (Int32.ofInt (l))), some (.int (Int32.ofInt (j))), some (.int (Int32.ofInt (n))), some (.int (Int32.ofInt (jy))), none] [] h := by
              intro jy hy4
              refine mh_iload6 (pc := 121) F dX12_move_121 ?_
              refine mh_if_ne (pc := 123) (tgt := 132) F dX12_move_123 rfl (by omega) (fun c_123 => ?_) (fun c_123 => ?_)
              · refine mh_iconst (pc := 132) F dX12_move_132 ?_
                refine mh_istore7 (pc := 133) F dX12_move_133 rfl (by decide) ?_
                have L135 : ∀ (m : Nat) (x : Int) (hh : Nat → Int → Int) (t : Int → Int), (mh_FX hh) → (mh_fr [95] h hh) → (hh 85 = er) → (hh 92 = b) → (hh 93 = z) → (hh 94 = u) → (hh 95 = t) → (0 ≤ x ∧ x ≤ n) → (t = fun p => if 0 ≤ p ∧ p < x then u (40 * k + i + p) else w5 p) → (n - x).toNat = m → mh_V g f 8 96 0 0 135 [some (.ref 81), some (.int (Int32.ofInt (k))), some (.int (Int32.ofInt (i))), some (.int (Int32.ofInt (l))), some (.int (Int32.ofInt (j))), some (.int (Int32.ofInt (n))), some (.int (Int32.ofInt (jy))), some (.int (Int32.ofInt (x)))] [] hh := by
                  intro m
                  induction m using Nat.strongRecOn with
                  | _ m ihL135 =>
                  intro x hh t Fhh frhh q85hh q92hh q93hh q94hh q95hh hx ht hmz
                  refine mh_iload7 (pc := 135) F dX12_move_135 ?_
                  refine mh_iload5 (pc := 137) F dX12_move_137 ?_
                  refine mh_icmp_ge (pc := 139) (tgt := 169) F dX12_move_139 rfl (by omega) (by omega) (fun c_139 => ?_) (fun c_139 => ?_)
                  · refine mh_iconst (pc := 169) F dX12_move_169 ?_
                    refine mh_istore7 (pc := 170) F dX12_move_170 rfl (by decide) ?_
                    have L172 : ∀ (m : Nat) (x2 : Int) (hg : Nat → Int → Int) (t2 : Int → Int), (mh_FX hg) → (mh_fr [94, 95] h hg) → (hg 85 = er) → (hg 92 = b) → (hg 93 = z) → (hg 94 = t2) → (hg 95 = t) → (0 ≤ x2 ∧ x2 ≤ n) → (t2 = fun p => if 40 * l + j ≤ p ∧ p < 40 * l + j + x2 then u (40 * k + i + (p - (40 * l + j))) else u p) → (n - x2).toNat = m → mh_V g f 8 96 0 0 172 [some (.ref 81), some (.int (Int32.ofInt (k))), some (.int (Int32.ofInt (i))), some (.int (Int32.ofInt (l))), some (.int (Int32.ofInt (j))), some (.int (Int32.ofInt (n))), some (.int (Int32.ofInt (jy))), some (.int (Int32.ofInt (x2)))] [] hg := by
                      intro m
                      induction m using Nat.strongRecOn with
                      | _ m ihL172 =>
                      intro x2 hg t2 Fhg frhg q85hg q92hg q93hg q94hg q95hg hx2 ht2 hmz
                      refine mh_iload7 (pc := 172) F dX12_move_172 ?_
                      refine mh_iload5 (pc := 174) F dX12_move_174 ?_
                      refine mh_icmp_ge (pc := 176) (tgt := 207) F dX12_move_176 rfl (by omega) (by omega) (fun c_176 => ?_) (fun c_176 => ?_)
                      · refine mh_iload5 (pc := 207) F dX12_move_207 ?_
                        exact mh_ireturn F Z dX12_move_209 ⟨_, _, _, (by unfold sp_move; (repeat' split) <;> first | (exfalso; omega) | rfl | (rw [ht2, show n = x2 by omega])), rfl, Fhg, (frhg.mono (by simp)), q85hg, q94hg⟩
                      · have htx : t x2 = u (40 * k + i + x2) := by rw [ht]; simp only []; rw [if_pos (by omega)]
                        refine mh_aload0 (pc := 179) F dX12_move_179 ?_
                        refine mh_getr (b := 94) (pc := 180) F sh_81 (by decide) fw_RX12_47_12 dX12_move_180 rfl (fx_81_28 Fhg) ?_
                        refine mh_bipush (pc := 183) F dX12_move_183 rfl ?_
                        refine mh_iload3 (pc := 185) F dX12_move_185 ?_
                        refine mh_imul (pc := 186) F dX12_move_186 ?_
                        refine mh_iload4 (pc := 187) F dX12_move_187 ?_
                        refine mh_iadd (pc := 189) F dX12_move_189 ?_
                        refine mh_iload7 (pc := 190) F dX12_move_190 ?_
                        refine mh_iadd (pc := 192) F dX12_move_192 ?_
                        refine mh_aload0 (pc := 193) F dX12_move_193 ?_
                        refine mh_getr (b := 95) (pc := 194) F sh_81 (by decide) fw_RX12_50_12 dX12_move_194 rfl (fx_81_29 Fhg) ?_
                        refine mh_iload7 (pc := 197) F dX12_move_197 ?_
                        refine mh_ialoadr (pc := 199) F sh_95 (by decide) (by omega) dX12_move_199 q95hg ?_
                        refine mh_iastore (pc := 200) F sh_94 (by decide) (by omega) dX12_move_200 ?_
                        refine mh_nmh (fun h5 e5 => ?_)
                        have F5 : mh_FX h5 := by rw [e5]; exact Fhg.upa rfl
                        have r85_5 : h5 85 = er := by rw [e5, mh_up_row (by decide)]; exact q85hg
                        have r92_5 : h5 92 = b := by rw [e5, mh_up_row (by decide)]; exact q92hg
                        have r93_5 : h5 93 = z := by rw [e5, mh_up_row (by decide)]; exact q93hg
                        have r94_5 : h5 94 = mh_ur t2 (((40 * l) + j) + x2) (t x2) := by rw [e5, mh_up_rs, q94hg]
                        have r95_5 : h5 95 = t := by rw [e5, mh_up_row (by decide)]; exact q95hg
                        have fr5 : mh_fr [94, 95] h h5 := mh_fr.upi frhg e5 (by simp)
                        refine mh_iinc7 (pc := 201) F dX12_move_201 rfl (by decide) ?_
                        refine mh_goto (pc := 204) (tgt := 172) F dX12_move_204 rfl ?_
                        exact ihL172 _ (by omega) (x2 + 1) h5 (mh_ur t2 (((40 * l) + j) + x2) (t x2)) F5 (fr5.mono (by simp)) r85_5 r92_5 r93_5 r94_5 r95_5 (by omega) (by rw [ht2]; funext p; simp only [mh_ur, htx]; (repeat' split) <;> first | rfl | (exfalso; omega) | (congr 1; omega)) rfl
                    exact L172 _ 0 hh u Fhh (frhh.mono (by simp)) q85hh q92hh q93hh q94hh q95hh (by omega) (by funext p; rw [if_neg (by omega)]) rfl
                  · refine mh_aload0 (pc := 142) F dX12_move_142 ?_
                    refine mh_getr (b := 95) (pc := 143) F sh_81 (by decide) fw_RX12_50_12 dX12_move_143 rfl (fx_81_29 Fhh) ?_
                    refine mh_iload7 (pc := 146) F dX12_move_146 ?_
                    refine mh_aload0 (pc := 148) F dX12_move_148 ?_
                    refine mh_getr (b := 94) (pc := 149) F sh_81 (by decide) fw_RX12_47_12 dX12_move_149 rfl (fx_81_28 Fhh) ?_
                    refine mh_bipush (pc := 152) F dX12_move_152 rfl ?_
                    refine mh_iload1 (pc := 154) F dX12_move_154 ?_
                    refine mh_imul (pc := 155) F dX12_move_155 ?_
                    refine mh_iload2 (pc := 156) F dX12_move_156 ?_
                    refine mh_iadd (pc := 157) F dX12_move_157 ?_
                    refine mh_iload7 (pc := 158) F dX12_move_158 ?_
                    refine mh_iadd (pc := 160) F dX12_move_160 ?_
                    refine mh_ialoadr (pc := 161) F sh_94 (by decide) (by omega) dX12_move_161 q94hh ?_
                    refine mh_iastore (pc := 162) F sh_95 (by decide) (by omega) dX12_move_162 ?_
                    refine mh_nmh (fun h6 e6 => ?_)
                    have F6 : mh_FX h6 := by rw [e6]; exact Fhh.upa rfl
                    have r85_6 : h6 85 = er := by rw [e6, mh_up_row (by decide)]; exact q85hh
                    have r92_6 : h6 92 = b := by rw [e6, mh_up_row (by decide)]; exact q92hh
                    have r93_6 : h6 93 = z := by rw [e6, mh_up_row (by decide)]; exact q93hh
                    have r94_6 : h6 94 = u := by rw [e6, mh_up_row (by decide)]; exact q94hh
                    have r95_6 : h6 95 = mh_ur t x (u (((40 * k) + i) + x)) := by rw [e6, mh_up_rs, q95hh]
                    have fr6 : mh_fr [95] h h6 := mh_fr.upi frhh e6 (by simp)
                    refine mh_iinc7 (pc := 163) F dX12_move_163 rfl (by decide) ?_
                    refine mh_goto (pc := 166) (tgt := 135) F dX12_move_166 rfl ?_
                    exact ihL135 _ (by omega) (x + 1) h6 (mh_ur t x (u (((40 * k) + i) + x))) F6 (fr6.mono (by simp)) r85_6 r92_6 r93_6 r94_6 r95_6 (by omega) (by rw [ht]; funext p; simp only [mh_ur]; (repeat' split) <;> first | rfl | (exfalso; omega) | (congr 1; omega)) rfl
                exact L135 _ 0 h w5 hF (mh_fr.rf.mono (by simp)) r85 r92 r93 r94 r95 (by omega) (by funext p; rw [if_neg (by omega)]) rfl
              · refine mh_aload0 (pc := 126) F dX12_move_126 ?_
                refine mh_iconst (pc := 127) F dX12_move_127 ?_
                refine mh_callV0 (pc := 128) (As := [.int (Int32.ofInt (1))]) (st := []) F (by omega) (k_error (by omega) hF r85 (by omega)) wv_RX12_114_yX12_error dX12_move_128 sh_81 rfl (by decide) rfl rfl (Nat.le_of_ble_eq_true rfl) ⟨Nat.zero_le _, Nat.zero_le _⟩ (fun r7 h7 q7 => ?_)
                obtain ⟨rfl, F7, fr7, q7_0⟩ := q7
                have r92_8 : h7 92 = b := (fr7 _ (by decide)).trans r92
                have r93_8 : h7 93 = z := (fr7 _ (by decide)).trans r93
                have r94_8 : h7 94 = u := (fr7 _ (by decide)).trans r94
                have r95_8 : h7 95 = w5 := (fr7 _ (by decide)).trans r95
                have fr8 : mh_fr [85] h h7 := (mh_fr.tr mh_fr.rf fr7).mono (by simp)
                exact mh_ireturn F Z dX12_move_131 ⟨_, _, _, (by unfold sp_move; (repeat' split) <;> first | (exfalso; omega) | rfl), rfl, F7, (fr8.mono (by simp)), q7_0, r94_8⟩
            refine mh_iload5 (pc := 65) F dX12_move_65 ?_
            refine mh_if_lt (pc := 67) (tgt := 118) F dX12_move_67 rfl (by omega) (fun c_67 => ?_) (fun c_67 => ?_)
            · refine mh_iconst (pc := 118) F dX12_move_118 ?_
              refine mh_istore6 (pc := 119) F dX12_move_119 rfl (by decide) ?_
              exact J121 0 (by omega)
            · refine mh_iload2 (pc := 70) F dX12_move_70 ?_
              refine mh_if_lt (pc := 71) (tgt := 118) F dX12_move_71 rfl (by omega) (fun c_71 => ?_) (fun c_71 => ?_)
              · refine mh_iconst (pc := 118) F dX12_move_118 ?_
                refine mh_istore6 (pc := 119) F dX12_move_119 rfl (by decide) ?_
                exact J121 0 (by omega)
              · refine mh_iload4 (pc := 74) F dX12_move_74 ?_
                refine mh_if_lt (pc := 76) (tgt := 118) F dX12_move_76 rfl (by omega) (fun c_76 => ?_) (fun c_76 => ?_)
                · refine mh_iconst (pc := 118) F dX12_move_118 ?_
                  refine mh_istore6 (pc := 119) F dX12_move_119 rfl (by decide) ?_
                  exact J121 0 (by omega)
                · have g1 := mh_cmp_gt0 (x := i + n) (y := z k)
                  refine mh_iload2 (pc := 79) F dX12_move_79 ?_
                  refine mh_i2l (pc := 80) F dX12_move_80 (by omega) ?_
                  refine mh_iload5 (pc := 81) F dX12_move_81 ?_
                  refine mh_i2l (pc := 83) F dX12_move_83 (by omega) ?_
                  refine mh_ladd (pc := 84) F dX12_move_84 ?_
                  refine mh_aload0 (pc := 85) F dX12_move_85 ?_
                  refine mh_getr (b := 93) (pc := 86) F sh_81 (by decide) fw_RX12_44_12 dX12_move_86 rfl (fx_81_27 hF) ?_
                  refine mh_iload1 (pc := 89) F dX12_move_89 ?_
                  refine mh_ialoadr (pc := 90) F sh_93 (by decide) (by omega) dX12_move_90 r93 ?_
                  refine mh_i2l (pc := 91) F dX12_move_91 (by omega) ?_
                  refine mh_lcmp (pc := 92) F dX12_move_92 (by omega) (by omega) ?_
                  refine mh_if_gt (pc := 93) (tgt := 118) F dX12_move_93 rfl mh_cmp_rg (fun c_93 => ?_) (fun c_93 => ?_)
                  · refine mh_iconst (pc := 118) F dX12_move_118 ?_
                    refine mh_istore6 (pc := 119) F dX12_move_119 rfl (by decide) ?_
                    exact J121 0 (by omega)
                  · have g2 := mh_cmp_gt0 (x := j + n) (y := z l)
                    refine mh_iload4 (pc := 96) F dX12_move_96 ?_
                    refine mh_i2l (pc := 98) F dX12_move_98 (by omega) ?_
                    refine mh_iload5 (pc := 99) F dX12_move_99 ?_
                    refine mh_i2l (pc := 101) F dX12_move_101 (by omega) ?_
                    refine mh_ladd (pc := 102) F dX12_move_102 ?_
                    refine mh_aload0 (pc := 103) F dX12_move_103 ?_
                    refine mh_getr (b := 93) (pc := 104) F sh_81 (by decide) fw_RX12_44_12 dX12_move_104 rfl (fx_81_27 hF) ?_
                    refine mh_iload3 (pc := 107) F dX12_move_107 ?_
                    refine mh_ialoadr (pc := 108) F sh_93 (by decide) (by omega) dX12_move_108 r93 ?_
                    refine mh_i2l (pc := 109) F dX12_move_109 (by omega) ?_
                    refine mh_lcmp (pc := 110) F dX12_move_110 (by omega) (by omega) ?_
                    refine mh_if_gt (pc := 111) (tgt := 118) F dX12_move_111 rfl mh_cmp_rg (fun c_111 => ?_) (fun c_111 => ?_)
                    · refine mh_iconst (pc := 118) F dX12_move_118 ?_
                      refine mh_istore6 (pc := 119) F dX12_move_119 rfl (by decide) ?_
                      exact J121 0 (by omega)
                    · refine mh_iconst (pc := 114) F dX12_move_114 ?_
                      refine mh_goto (pc := 115) (tgt := 119) F dX12_move_115 rfl ?_
                      refine mh_istore6 (pc := 119) F dX12_move_119 rfl (by decide) ?_
                      exact J121 1 (by omega)
          · refine mh_aload0 (pc := 59) F dX12_move_59 ?_
            refine mh_iconst (pc := 60) F dX12_move_60 ?_
            refine mh_callV0 (pc := 61) (As := [.int (Int32.ofInt (5))]) (st := []) F (by omega) (k_error (by omega) hF r85 (by omega)) wv_RX12_114_yX12_error dX12_move_61 sh_81 rfl (by decide) rfl rfl (Nat.le_of_ble_eq_true rfl) ⟨Nat.zero_le _, Nat.zero_le _⟩ (fun r9 h9 q9 => ?_)
            obtain ⟨rfl, F9, fr9, q9_0⟩ := q9
            have r92_10 : h9 92 = b := (fr9 _ (by decide)).trans r92
            have r93_10 : h9 93 = z := (fr9 _ (by decide)).trans r93
            have r94_10 : h9 94 = u := (fr9 _ (by decide)).trans r94
            have r95_10 : h9 95 = w5 := (fr9 _ (by decide)).trans r95
            have fr10 : mh_fr [85] h h9 := (mh_fr.tr mh_fr.rf fr9).mono (by simp)
            exact mh_ireturn F Z dX12_move_64 ⟨_, _, _, (by unfold sp_move; (repeat' split) <;> first | (exfalso; omega) | rfl), rfl, F9, (fr10.mono (by simp)), q9_0, r94_10⟩
        · refine mh_aload0 (pc := 38) F dX12_move_38 ?_
          refine mh_iconst (pc := 39) F dX12_move_39 ?_
          refine mh_callV0 (pc := 40) (As := [.int (Int32.ofInt (2))]) (st := []) F (by omega) (k_error (by omega) hF r85 (by omega)) wv_RX12_114_yX12_error dX12_move_40 sh_81 rfl (by decide) rfl rfl (Nat.le_of_ble_eq_true rfl) ⟨Nat.zero_le _, Nat.zero_le _⟩ (fun r11 h11 q11 => ?_)
          obtain ⟨rfl, F11, fr11, q11_0⟩ := q11
          have r92_12 : h11 92 = b := (fr11 _ (by decide)).trans r92
          have r93_12 : h11 93 = z := (fr11 _ (by decide)).trans r93
          have r94_12 : h11 94 = u := (fr11 _ (by decide)).trans r94
          have r95_12 : h11 95 = w5 := (fr11 _ (by decide)).trans r95
          have fr12 : mh_fr [85] h h11 := (mh_fr.tr mh_fr.rf fr11).mono (by simp)
          exact mh_ireturn F Z dX12_move_43 ⟨_, _, _, (by unfold sp_move; (repeat' split) <;> first | (exfalso; omega) | rfl), rfl, F11, (fr12.mono (by simp)), q11_0, r94_12⟩
    · refine mh_aload0 (pc := 14) F dX12_move_14 ?_
      refine mh_iconst (pc := 15) F dX12_move_15 ?_
      refine mh_callV0 (pc := 16) (As := [.int (Int32.ofInt (1))]) (st := []) F (by omega) (k_error (by omega) hF r85 (by omega)) wv_RX12_114_yX12_error dX12_move_16 sh_81 rfl (by decide) rfl rfl (Nat.le_of_ble_eq_true rfl) ⟨Nat.zero_le _, Nat.zero_le _⟩ (fun r13 h13 q13 => ?_)
      obtain ⟨rfl, F13, fr13, q13_0⟩ := q13
      have r92_14 : h13 92 = b := (fr13 _ (by decide)).trans r92
      have r93_14 : h13 93 = z := (fr13 _ (by decide)).trans r93
      have r94_14 : h13 94 = u := (fr13 _ (by decide)).trans r94
      have r95_14 : h13 95 = w5 := (fr13 _ (by decide)).trans r95
      have fr14 : mh_fr [85] h h13 := (mh_fr.tr mh_fr.rf fr13).mono (by simp)
      exact mh_ireturn F Z dX12_move_19 ⟨_, _, _, (by unfold sp_move; (repeat' split) <;> first | (exfalso; omega) | rfl), rfl, F13, (fr14.mono (by simp)), q13_0, r94_14⟩

set_option maxRecDepth 100000 in
set_option maxHeartbeats 4000000 in
theorem p_heats {g : mh_G} {d : Nat} (hd : 10 ≤ d) {h : Nat → Int → Int} (hF : mh_FX h) {s : Int → Int} (r82 : h 82 = s) {er : Int → Int} (r85 : h 85 = er) {b : Int → Int} (r92 : h 92 = b) {z : Int → Int} (r93 : h 93 = z) {u : Int → Int} (r94 : h 94 = u) {k : Int} (hk : -2147483648 ≤ k ∧ k < 2147483648) (hb : ∀ j, 0 ≤ j → j < 4 → (b j = 0 ∨ b j = 8 ∨ b j = 16 ∨ b j = 32) ∧ (0 ≤ z j ∧ z j ≤ 40)) (hu : ∀ p, 0 ≤ p → p < 160 → -2147483648 ≤ u p ∧ u p < 2147483648) : mh_M g d yX12_heats cX12_heats 4 (some .int) 96 0 0 [.ref 81, .int (Int32.ofInt (k))] h (fun r h2 => ∃ (vv : Int) (t0 : Int → Int) (t1 : Int → Int), (vv, t0, t1) = sp_heats k s er b z u ∧ r = some (.int (Int32.ofInt vv)) ∧ mh_FX h2 ∧ mh_fr [82, 85] h h2 ∧ h2 82 = t0 ∧ h2 85 = t1) := by
  refine mh_M_of RX12 rfl (by decide +kernel) [some (.ref 81), some (.int (Int32.ofInt (k))), none, none] rfl (Nat.le_of_ble_eq_true rfl) (fun f F Z hn0 hR => ?_)
  have hlr := sp_lacks_rg k b
  refine mh_aload0 (pc := 0) F dX12_heats_0 ?_
  refine mh_iload1 (pc := 1) F dX12_heats_1 ?_
  refine mh_callVp (pc := 2) (As := [.int (Int32.ofInt (k))]) (st := []) F (by omega) (k_lacks (by omega) hF r92 (by omega) (fun j j0 j1 => (hb j j0 j1).1)) wv_RX12_390_yX12_lacks dX12_heats_2 sh_81 rfl (by decide) rfl rfl (Nat.le_of_ble_eq_true rfl) ⟨Nat.zero_le _, Nat.zero_le _⟩ ?_
  refine mh_istore2 (pc := 5) F dX12_heats_5 rfl (by decide) ?_
  refine mh_iload2 (pc := 6) F dX12_heats_6 ?_
  refine mh_if_le (pc := 7) (tgt := 16) F dX12_heats_7 rfl (by omega) (fun c_7 => ?_) (fun c_7 => ?_)
  · have hks := sp_lacks_ok (k := k) (b := b) (by omega)
    have hbk := hb k (by omega) (by omega)
    refine mh_iconst (pc := 16) F dX12_heats_16 ?_
    refine mh_istore3 (pc := 17) F dX12_heats_17 rfl (by decide) ?_
    have L18 : ∀ (m : Nat) (x : Int) (hh : Nat → Int → Int) (t : Int → Int), (mh_FX hh) → (mh_fr [82] h hh) → (hh 82 = t) → (hh 85 = er) → (hh 92 = b) → (hh 93 = z) → (hh 94 = u) → (0 ≤ x ∧ x ≤ z k ∧ x ≤ 9) → (t = sp_hts s u k x.toNat) → (sp_ld (sp_hp u k) x.toNat = x) → (9 - x).toNat = m → mh_V g f 4 96 0 0 18 [some (.ref 81), some (.int (Int32.ofInt (k))), some (.int (Int32.ofInt (sp_lacks k b))), some (.int (Int32.ofInt (x)))] [] hh := by
      intro m
      induction m using Nat.strongRecOn with
      | _ m ihL18 =>
      intro x hh t Fhh frhh q82hh q85hh q92hh q93hh q94hh hx ht hl hmz
      refine mh_iload3 (pc := 18) F dX12_heats_18 ?_
      refine mh_aload0 (pc := 19) F dX12_heats_19 ?_
      refine mh_getr (b := 93) (pc := 20) F sh_81 (by decide) fw_RX12_44_12 dX12_heats_20 rfl (fx_81_27 Fhh) ?_
      refine mh_iload1 (pc := 23) F dX12_heats_23 ?_
      refine mh_ialoadr (pc := 24) F sh_93 (by decide) (by omega) dX12_heats_24 q93hh ?_
      refine mh_icmp_ge (pc := 25) (tgt := 86) F dX12_heats_25 rfl (by omega) (by omega) (fun c_25 => ?_) (fun c_25 => ?_)
      · refine mh_iload3 (pc := 86) F dX12_heats_86 ?_
        exact mh_ireturn F Z dX12_heats_87 ⟨_, _, _, (by unfold sp_heats; rw [if_neg (by omega)]; have hz : sp_ld (sp_hp u k) (min (z k) 9).toNat = x := (by first | (rw [show (min (z k) 9) = x by omega]; exact hl) | (rw [show (min (z k) 9).toNat = x.toNat + ((min (z k) 9).toNat - x.toNat) by omega]; exact sp_ld_stop hx.1 hl (by unfold sp_hp; simp only [decide_eq_true_eq]; omega) _)); rw [hz, ← ht]), rfl, Fhh, (frhh.mono (by simp)), q82hh, q85hh⟩
      · refine mh_iload3 (pc := 28) F dX12_heats_28 ?_
        refine mh_bipush (pc := 29) F dX12_heats_29 rfl ?_
        refine mh_icmp_ge (pc := 31) (tgt := 86) F dX12_heats_31 rfl (by omega) (by omega) (fun c_31 => ?_) (fun c_31 => ?_)
        · refine mh_iload3 (pc := 86) F dX12_heats_86 ?_
          exact mh_ireturn F Z dX12_heats_87 ⟨_, _, _, (by unfold sp_heats; rw [if_neg (by omega)]; have hz : sp_ld (sp_hp u k) (min (z k) 9).toNat = x := (by first | (rw [show (min (z k) 9) = x by omega]; exact hl) | (rw [show (min (z k) 9).toNat = x.toNat + ((min (z k) 9).toNat - x.toNat) by omega]; exact sp_ld_stop hx.1 hl (by unfold sp_hp; simp only [decide_eq_true_eq]; omega) _)); rw [hz, ← ht]), rfl, Fhh, (frhh.mono (by simp)), q82hh, q85hh⟩
        · have hux := hu (40 * k + x) (by omega) (by omega)
          refine mh_aload0 (pc := 34) F dX12_heats_34 ?_
          refine mh_getr (b := 94) (pc := 35) F sh_81 (by decide) fw_RX12_47_12 dX12_heats_35 rfl (fx_81_28 Fhh) ?_
          refine mh_bipush (pc := 38) F dX12_heats_38 rfl ?_
          refine mh_iload1 (pc := 40) F dX12_heats_40 ?_
          refine mh_imul (pc := 41) F dX12_heats_41 ?_
          refine mh_iload3 (pc := 42) F dX12_heats_42 ?_
          refine mh_iadd (pc := 43) F dX12_heats_43 ?_
          refine mh_ialoadr (pc := 44) F sh_94 (by decide) (by omega) dX12_heats_44 q94hh ?_
          refine mh_i2l (pc := 45) F dX12_heats_45 (by omega) ?_
          refine mh_lconst (x := 0) (pc := 46) F dX12_heats_46 rfl ?_
          refine mh_ldc2 (x := 40) (pc := 47) F dX12_heats_47 tw_7_181 ?_
          refine mh_callSp (pc := 50) (As := [.long (Int64.ofInt (u ((40 * k) + x))), .long (Int64.ofInt (0)), .long (Int64.ofInt (40))]) (st := []) F (by omega) (k_in (by omega) (by omega) (by omega) (by omega)) ws_RX12_69 dX12_heats_50 rfl rfl (Nat.le_of_ble_eq_true rfl) ⟨Nat.zero_le _, Nat.zero_le _⟩ ?_
          refine mh_ifb_eq (pc := 53) (tgt := 86) F dX12_heats_53 rfl (fun c_53 => ?_) (fun c_53 => ?_)
          · refine mh_iload3 (pc := 86) F dX12_heats_86 ?_
            exact mh_ireturn F Z dX12_heats_87 ⟨_, _, _, (by unfold sp_heats; rw [if_neg (by omega)]; have hz : sp_ld (sp_hp u k) (min (z k) 9).toNat = x := (by first | (rw [show (min (z k) 9) = x by omega]; exact hl) | (rw [show (min (z k) 9).toNat = x.toNat + ((min (z k) 9).toNat - x.toNat) by omega]; exact sp_ld_stop hx.1 hl (by unfold sp_hp; simp only [decide_eq_true_eq]; omega) _)); rw [hz, ← ht]), rfl, Fhh, (frhh.mono (by simp)), q82hh, q85hh⟩
          · refine mh_aload0 (pc := 56) F dX12_heats_56 ?_
            refine mh_getr (b := 82) (pc := 57) F sh_81 (by decide) fw_RX12_9_12 dX12_heats_57 rfl (fx_81_0 Fhh) ?_
            refine mh_bipush (pc := 60) F dX12_heats_60 rfl ?_
            refine mh_iconst (pc := 62) F dX12_heats_62 ?_
            refine mh_iload3 (pc := 63) F dX12_heats_63 ?_
            refine mh_imul (pc := 64) F dX12_heats_64 ?_
            refine mh_iadd (pc := 65) F dX12_heats_65 ?_
            refine mh_iconst (pc := 66) F dX12_heats_66 ?_
            refine mh_iadd (pc := 67) F dX12_heats_67 ?_
            refine mh_aload0 (pc := 68) F dX12_heats_68 ?_
            refine mh_getr (b := 94) (pc := 69) F sh_81 (by decide) fw_RX12_47_12 dX12_heats_69 rfl (fx_81_28 Fhh) ?_
            refine mh_bipush (pc := 72) F dX12_heats_72 rfl ?_
            refine mh_iload1 (pc := 74) F dX12_heats_74 ?_
            refine mh_imul (pc := 75) F dX12_heats_75 ?_
            refine mh_iload3 (pc := 76) F dX12_heats_76 ?_
            refine mh_iadd (pc := 77) F dX12_heats_77 ?_
            refine mh_ialoadr (pc := 78) F sh_94 (by decide) (by omega) dX12_heats_78 q94hh ?_
            refine mh_iastore (pc := 79) F sh_82 (by decide) (by omega) dX12_heats_79 ?_
            refine mh_nmh (fun h1 e1 => ?_)
            have F1 : mh_FX h1 := by rw [e1]; exact Fhh.upa rfl
            have r82_1 : h1 82 = mh_ur t ((6 + (3 * x)) + 0) (u ((40 * k) + x)) := by rw [e1, mh_up_rs, q82hh]
            have r85_1 : h1 85 = er := by rw [e1, mh_up_row (by decide)]; exact q85hh
            have r92_1 : h1 92 = b := by rw [e1, mh_up_row (by decide)]; exact q92hh
            have r93_1 : h1 93 = z := by rw [e1, mh_up_row (by decide)]; exact q93hh
            have r94_1 : h1 94 = u := by rw [e1, mh_up_row (by decide)]; exact q94hh
            have fr1 : mh_fr [82] h h1 := mh_fr.upi frhh e1 (by simp)
            refine mh_iinc3 (pc := 80) F dX12_heats_80 rfl (by decide) ?_
            refine mh_goto (pc := 83) (tgt := 18) F dX12_heats_83 rfl ?_
            exact ihL18 _ (by omega) (x + 1) h1 (mh_ur t ((6 + (3 * x)) + 0) (u ((40 * k) + x))) F1 (fr1.mono (by simp)) r82_1 r85_1 r92_1 r93_1 r94_1 (by omega) (by rw [sp_hts_at s u k hx.1, ← ht]) (sp_ld_at hx.1 hl (by unfold sp_hp; exact decide_eq_true (by omega))) rfl
    exact L18 _ 0 h s hF (mh_fr.rf.mono (by simp)) r82 r85 r92 r93 r94 (by omega) rfl rfl rfl
  · refine mh_aload0 (pc := 10) F dX12_heats_10 ?_
    refine mh_iload2 (pc := 11) F dX12_heats_11 ?_
    refine mh_callV0 (pc := 12) (As := [.int (Int32.ofInt (sp_lacks k b))]) (st := []) F (by omega) (k_error (by omega) hF r85 (by omega)) wv_RX12_114_yX12_error dX12_heats_12 sh_81 rfl (by decide) rfl rfl (Nat.le_of_ble_eq_true rfl) ⟨Nat.zero_le _, Nat.zero_le _⟩ (fun r2 h2 q2 => ?_)
    obtain ⟨rfl, F2, fr2, q2_0⟩ := q2
    have r82_3 : h2 82 = s := (fr2 _ (by decide)).trans r82
    have r92_3 : h2 92 = b := (fr2 _ (by decide)).trans r92
    have r93_3 : h2 93 = z := (fr2 _ (by decide)).trans r93
    have r94_3 : h2 94 = u := (fr2 _ (by decide)).trans r94
    have fr3 : mh_fr [85] h h2 := (mh_fr.tr mh_fr.rf fr2).mono (by simp)
    exact mh_ireturn F Z dX12_heats_15 ⟨_, _, _, (by unfold sp_heats; (repeat' split) <;> first | rfl | (exfalso; omega)), rfl, F2, (fr3.mono (by simp)), r82_3, q2_0⟩

set_option maxRecDepth 100000 in
set_option maxHeartbeats 4000000 in
theorem p_judge {g : mh_G} {d : Nat} (hd : 10 ≤ d) {h : Nat → Int → Int} (hF : mh_FX h) {s : Int → Int} (r82 : h 82 = s) {er : Int → Int} (r85 : h 85 = er) {b : Int → Int} (r92 : h 92 = b) {z : Int → Int} (r93 : h 93 = z) {u : Int → Int} (r94 : h 94 = u) {k : Int} (hk : -2147483648 ≤ k ∧ k < 2147483648) (hb : ∀ j, 0 ≤ j → j < 4 → (b j = 0 ∨ b j = 8 ∨ b j = 16 ∨ b j = 32) ∧ (0 ≤ z j ∧ z j ≤ 40)) (hu : ∀ p, 0 ≤ p → p < 160 → -2147483648 ≤ u p ∧ u p < 2147483648) (hi : sp_inv s) : mh_M g d yX12_judge cX12_judge 4 (some .int) 96 0 0 [.ref 81, .int (Int32.ofInt (k))] h (fun r h2 => ∃ (vv : Int) (t0 : Int → Int), (vv, t0) = sp_judge k s er b z u ∧ r = some (.int (Int32.ofInt vv)) ∧ mh_FX h2 ∧ mh_fr [85] h h2 ∧ h2 85 = t0) := by
  refine mh_M_of RX12 rfl (by decide +kernel) [some (.ref 81), some (.int (Int32.ofInt (k))), none, none] rfl (Nat.le_of_ble_eq_true rfl) (fun f F Z hn0 hR => ?_)
  have hib := sp_inv_b hi
  have hm := hi.1
  have hq0 := hi.2.1
  have hws := hi.2.2.2.2.2
  obtain ⟨hH, hC⟩ := hi.2.2.2.1
  have hs1 := hi.2.2.1
  have hlr := sp_lacks_rg k b
  refine mh_aload0 (pc := 0) F dX12_judge_0 ?_
  refine mh_iload1 (pc := 1) F dX12_judge_1 ?_
  refine mh_callVp (pc := 2) (As := [.int (Int32.ofInt (k))]) (st := []) F (by omega) (k_lacks (by omega) hF r92 (by omega) (fun j j0 j1 => (hb j j0 j1).1)) wv_RX12_390_yX12_lacks dX12_judge_2 sh_81 rfl (by decide) rfl rfl (Nat.le_of_ble_eq_true rfl) ⟨Nat.zero_le _, Nat.zero_le _⟩ ?_
  refine mh_istore2 (pc := 5) F dX12_judge_5 rfl (by decide) ?_
  refine mh_iload2 (pc := 6) F dX12_judge_6 ?_
  refine mh_if_le (pc := 7) (tgt := 16) F dX12_judge_7 rfl (by omega) (fun c_7 => ?_) (fun c_7 => ?_)
  · have hks := sp_lacks_ok (k := k) (b := b) (by omega)
    have hbk := hb k (by omega) (by omega)
    refine mh_iconst (pc := 16) F dX12_judge_16 ?_
    refine mh_istore3 (pc := 17) F dX12_judge_17 rfl (by decide) ?_
    have L18 : ∀ (m : Nat) (x : Int), (0 ≤ x ∧ x ≤ z k ∧ x ≤ s 3) → (sp_ld (sp_jp s u k) x.toNat = x) → (6 - x).toNat = m → mh_V g f 4 96 0 0 18 [some (.ref 81), some (.int (Int32.ofInt (k))), some (.int (Int32.ofInt (sp_lacks k b))), some (.int (Int32.ofInt (x)))] [] h := by
      intro m
      induction m using Nat.strongRecOn with
      | _ m ihL18 =>
      intro x hx hl hmz
      refine mh_iload3 (pc := 18) F dX12_judge_18 ?_
      refine mh_aload0 (pc := 19) F dX12_judge_19 ?_
      refine mh_getr (b := 82) (pc := 20) F sh_81 (by decide) fw_RX12_9_12 dX12_judge_20 rfl (fx_81_0 hF) ?_
      refine mh_iconst (pc := 23) F dX12_judge_23 ?_
      refine mh_ialoadr (pc := 24) F sh_82 (by decide) (by omega) dX12_judge_24 r82 ?_
      refine mh_icmp_ge (pc := 25) (tgt := 63) F dX12_judge_25 rfl (by omega) (by omega) (fun c_25 => ?_) (fun c_25 => ?_)
      · refine mh_iload3 (pc := 63) F dX12_judge_63 ?_
        refine mh_aload0 (pc := 64) F dX12_judge_64 ?_
        refine mh_getr (b := 82) (pc := 65) F sh_81 (by decide) fw_RX12_9_12 dX12_judge_65 rfl (fx_81_0 hF) ?_
        refine mh_iconst (pc := 68) F dX12_judge_68 ?_
        refine mh_ialoadr (pc := 69) F sh_82 (by decide) (by omega) dX12_judge_69 r82 ?_
        refine mh_icmp_ne (pc := 70) (tgt := 87) F dX12_judge_70 rfl (by omega) (by omega) (fun c_70 => ?_) (fun c_70 => ?_)
        · refine mh_iload3 (pc := 87) F dX12_judge_87 ?_
          exact mh_ireturn F Z dX12_judge_88 ⟨_, _, (by unfold sp_judge; first | (rw [if_pos (by omega)]; done) | (rw [if_neg (by omega)]; have hz : sp_ld (sp_jp s u k) (min (s 3) (z k)).toNat = x := (by first | (rw [show (min (s 3) (z k)) = x by omega]; exact hl) | (rw [show (min (s 3) (z k)).toNat = x.toNat + ((min (s 3) (z k)).toNat - x.toNat) by omega]; exact sp_ld_stop hx.1 hl (by unfold sp_jp; simp only [decide_eq_true_eq]; omega) _)); rw [hz]; first | (rw [if_pos (by omega)]; done) | (rw [if_neg (by omega)]; done))), rfl, hF, (mh_fr.rf.mono (by simp)), r85⟩
        · refine mh_iload3 (pc := 73) F dX12_judge_73 ?_
          refine mh_aload0 (pc := 74) F dX12_judge_74 ?_
          refine mh_getr (b := 93) (pc := 75) F sh_81 (by decide) fw_RX12_44_12 dX12_judge_75 rfl (fx_81_27 hF) ?_
          refine mh_iload1 (pc := 78) F dX12_judge_78 ?_
          refine mh_ialoadr (pc := 79) F sh_93 (by decide) (by omega) dX12_judge_79 r93 ?_
          refine mh_icmp_ne (pc := 80) (tgt := 87) F dX12_judge_80 rfl (by omega) (by omega) (fun c_80 => ?_) (fun c_80 => ?_)
          · refine mh_iload3 (pc := 87) F dX12_judge_87 ?_
            exact mh_ireturn F Z dX12_judge_88 ⟨_, _, (by unfold sp_judge; first | (rw [if_pos (by omega)]; done) | (rw [if_neg (by omega)]; have hz : sp_ld (sp_jp s u k) (min (s 3) (z k)).toNat = x := (by first | (rw [show (min (s 3) (z k)) = x by omega]; exact hl) | (rw [show (min (s 3) (z k)).toNat = x.toNat + ((min (s 3) (z k)).toNat - x.toNat) by omega]; exact sp_ld_stop hx.1 hl (by unfold sp_jp; simp only [decide_eq_true_eq]; omega) _)); rw [hz]; first | (rw [if_pos (by omega)]; done) | (rw [if_neg (by omega)]; done))), rfl, hF, (mh_fr.rf.mono (by simp)), r85⟩
          · refine mh_iconst (pc := 83) F dX12_judge_83 ?_
            refine mh_goto (pc := 84) (tgt := 88) F dX12_judge_84 rfl ?_
            exact mh_ireturn F Z dX12_judge_88 ⟨_, _, (by unfold sp_judge; first | (rw [if_pos (by omega)]; done) | (rw [if_neg (by omega)]; have hz : sp_ld (sp_jp s u k) (min (s 3) (z k)).toNat = x := (by first | (rw [show (min (s 3) (z k)) = x by omega]; exact hl) | (rw [show (min (s 3) (z k)).toNat = x.toNat + ((min (s 3) (z k)).toNat - x.toNat) by omega]; exact sp_ld_stop hx.1 hl (by unfold sp_jp; simp only [decide_eq_true_eq]; omega) _)); rw [hz]; first | (rw [if_pos (by omega)]; done) | (rw [if_neg (by omega)]; done))), rfl, hF, (mh_fr.rf.mono (by simp)), r85⟩
      · refine mh_iload3 (pc := 28) F dX12_judge_28 ?_
        refine mh_aload0 (pc := 29) F dX12_judge_29 ?_
        refine mh_getr (b := 93) (pc := 30) F sh_81 (by decide) fw_RX12_44_12 dX12_judge_30 rfl (fx_81_27 hF) ?_
        refine mh_iload1 (pc := 33) F dX12_judge_33 ?_
        refine mh_ialoadr (pc := 34) F sh_93 (by decide) (by omega) dX12_judge_34 r93 ?_
        refine mh_icmp_ge (pc := 35) (tgt := 63) F dX12_judge_35 rfl (by omega) (by omega) (fun c_35 => ?_) (fun c_35 => ?_)
        · refine mh_iload3 (pc := 63) F dX12_judge_63 ?_
          refine mh_aload0 (pc := 64) F dX12_judge_64 ?_
          refine mh_getr (b := 82) (pc := 65) F sh_81 (by decide) fw_RX12_9_12 dX12_judge_65 rfl (fx_81_0 hF) ?_
          refine mh_iconst (pc := 68) F dX12_judge_68 ?_
          refine mh_ialoadr (pc := 69) F sh_82 (by decide) (by omega) dX12_judge_69 r82 ?_
          refine mh_icmp_ne (pc := 70) (tgt := 87) F dX12_judge_70 rfl (by omega) (by omega) (fun c_70 => ?_) (fun c_70 => ?_)
          · refine mh_iload3 (pc := 87) F dX12_judge_87 ?_
            exact mh_ireturn F Z dX12_judge_88 ⟨_, _, (by unfold sp_judge; first | (rw [if_pos (by omega)]; done) | (rw [if_neg (by omega)]; have hz : sp_ld (sp_jp s u k) (min (s 3) (z k)).toNat = x := (by first | (rw [show (min (s 3) (z k)) = x by omega]; exact hl) | (rw [show (min (s 3) (z k)).toNat = x.toNat + ((min (s 3) (z k)).toNat - x.toNat) by omega]; exact sp_ld_stop hx.1 hl (by unfold sp_jp; simp only [decide_eq_true_eq]; omega) _)); rw [hz]; first | (rw [if_pos (by omega)]; done) | (rw [if_neg (by omega)]; done))), rfl, hF, (mh_fr.rf.mono (by simp)), r85⟩
          · refine mh_iload3 (pc := 73) F dX12_judge_73 ?_
            refine mh_aload0 (pc := 74) F dX12_judge_74 ?_
            refine mh_getr (b := 93) (pc := 75) F sh_81 (by decide) fw_RX12_44_12 dX12_judge_75 rfl (fx_81_27 hF) ?_
            refine mh_iload1 (pc := 78) F dX12_judge_78 ?_
            refine mh_ialoadr (pc := 79) F sh_93 (by decide) (by omega) dX12_judge_79 r93 ?_
            refine mh_icmp_ne (pc := 80) (tgt := 87) F dX12_judge_80 rfl (by omega) (by omega) (fun c_80 => ?_) (fun c_80 => ?_)
            · refine mh_iload3 (pc := 87) F dX12_judge_87 ?_
              exact mh_ireturn F Z dX12_judge_88 ⟨_, _, (by unfold sp_judge; first | (rw [if_pos (by omega)]; done) | (rw [if_neg (by omega)]; have hz : sp_ld (sp_jp s u k) (min (s 3) (z k)).toNat = x := (by first | (rw [show (min (s 3) (z k)) = x by omega]; exact hl) | (rw [show (min (s 3) (z k)).toNat = x.toNat + ((min (s 3) (z k)).toNat - x.toNat) by omega]; exact sp_ld_stop hx.1 hl (by unfold sp_jp; simp only [decide_eq_true_eq]; omega) _)); rw [hz]; first | (rw [if_pos (by omega)]; done) | (rw [if_neg (by omega)]; done))), rfl, hF, (mh_fr.rf.mono (by simp)), r85⟩
            · refine mh_iconst (pc := 83) F dX12_judge_83 ?_
              refine mh_goto (pc := 84) (tgt := 88) F dX12_judge_84 rfl ?_
              exact mh_ireturn F Z dX12_judge_88 ⟨_, _, (by unfold sp_judge; first | (rw [if_pos (by omega)]; done) | (rw [if_neg (by omega)]; have hz : sp_ld (sp_jp s u k) (min (s 3) (z k)).toNat = x := (by first | (rw [show (min (s 3) (z k)) = x by omega]; exact hl) | (rw [show (min (s 3) (z k)).toNat = x.toNat + ((min (s 3) (z k)).toNat - x.toNat) by omega]; exact sp_ld_stop hx.1 hl (by unfold sp_jp; simp only [decide_eq_true_eq]; omega) _)); rw [hz]; first | (rw [if_pos (by omega)]; done) | (rw [if_neg (by omega)]; done))), rfl, hF, (mh_fr.rf.mono (by simp)), r85⟩
        · have hux := hu (40 * k + x) (by omega) (by omega)
          have zHC := hi.2.2.2.2.1 x (by omega) (by omega)
          have zHC2 := zHC
          obtain ⟨c0, c1, c2, c3, c4, c5, c6, c7, c8, c9, c10, c11, c12, c13⟩ := zHC2
          unfold sp_row at c0 c1 c2 c3 c4 c5 c6 c7 c8
          have hst := sp_stm_rg s x
          refine mh_aload0 (pc := 38) F dX12_judge_38 ?_
          refine mh_getr (b := 94) (pc := 39) F sh_81 (by decide) fw_RX12_47_12 dX12_judge_39 rfl (fx_81_28 hF) ?_
          refine mh_bipush (pc := 42) F dX12_judge_42 rfl ?_
          refine mh_iload1 (pc := 44) F dX12_judge_44 ?_
          refine mh_imul (pc := 45) F dX12_judge_45 ?_
          refine mh_iload3 (pc := 46) F dX12_judge_46 ?_
          refine mh_iadd (pc := 47) F dX12_judge_47 ?_
          refine mh_ialoadr (pc := 48) F sh_94 (by decide) (by omega) dX12_judge_48 r94 ?_
          refine mh_aload0 (pc := 49) F dX12_judge_49 ?_
          refine mh_iload3 (pc := 50) F dX12_judge_50 ?_
          refine mh_callVp (pc := 51) (As := [.int (Int32.ofInt (x))]) (st := [.int (Int32.ofInt (u ((40 * k) + x)))]) F (by omega) (k_stateOf (by omega) hF r82 (by omega) (by omega) (by omega) (by omega) (by omega) (by omega)) wv_RX12_154_yX12_stateOf dX12_judge_51 sh_81 rfl (by decide) rfl rfl (Nat.le_of_ble_eq_true rfl) ⟨Nat.zero_le _, Nat.zero_le _⟩ ?_
          refine mh_icmp_ne (pc := 54) (tgt := 63) F dX12_judge_54 rfl (by omega) (by omega) (fun c_54 => ?_) (fun c_54 => ?_)
          · refine mh_iload3 (pc := 63) F dX12_judge_63 ?_
            refine mh_aload0 (pc := 64) F dX12_judge_64 ?_
            refine mh_getr (b := 82) (pc := 65) F sh_81 (by decide) fw_RX12_9_12 dX12_judge_65 rfl (fx_81_0 hF) ?_
            refine mh_iconst (pc := 68) F dX12_judge_68 ?_
            refine mh_ialoadr (pc := 69) F sh_82 (by decide) (by omega) dX12_judge_69 r82 ?_
            refine mh_icmp_ne (pc := 70) (tgt := 87) F dX12_judge_70 rfl (by omega) (by omega) (fun c_70 => ?_) (fun c_70 => ?_)
            · refine mh_iload3 (pc := 87) F dX12_judge_87 ?_
              exact mh_ireturn F Z dX12_judge_88 ⟨_, _, (by unfold sp_judge; first | (rw [if_pos (by omega)]; done) | (rw [if_neg (by omega)]; have hz : sp_ld (sp_jp s u k) (min (s 3) (z k)).toNat = x := (by first | (rw [show (min (s 3) (z k)) = x by omega]; exact hl) | (rw [show (min (s 3) (z k)).toNat = x.toNat + ((min (s 3) (z k)).toNat - x.toNat) by omega]; exact sp_ld_stop hx.1 hl (by unfold sp_jp; simp only [decide_eq_true_eq]; omega) _)); rw [hz]; first | (rw [if_pos (by omega)]; done) | (rw [if_neg (by omega)]; done))), rfl, hF, (mh_fr.rf.mono (by simp)), r85⟩
            · refine mh_iload3 (pc := 73) F dX12_judge_73 ?_
              refine mh_aload0 (pc := 74) F dX12_judge_74 ?_
              refine mh_getr (b := 93) (pc := 75) F sh_81 (by decide) fw_RX12_44_12 dX12_judge_75 rfl (fx_81_27 hF) ?_
              refine mh_iload1 (pc := 78) F dX12_judge_78 ?_
              refine mh_ialoadr (pc := 79) F sh_93 (by decide) (by omega) dX12_judge_79 r93 ?_
              refine mh_icmp_ne (pc := 80) (tgt := 87) F dX12_judge_80 rfl (by omega) (by omega) (fun c_80 => ?_) (fun c_80 => ?_)
              · refine mh_iload3 (pc := 87) F dX12_judge_87 ?_
                exact mh_ireturn F Z dX12_judge_88 ⟨_, _, (by unfold sp_judge; first | (rw [if_pos (by omega)]; done) | (rw [if_neg (by omega)]; have hz : sp_ld (sp_jp s u k) (min (s 3) (z k)).toNat = x := (by first | (rw [show (min (s 3) (z k)) = x by omega]; exact hl) | (rw [show (min (s 3) (z k)).toNat = x.toNat + ((min (s 3) (z k)).toNat - x.toNat) by omega]; exact sp_ld_stop hx.1 hl (by unfold sp_jp; simp only [decide_eq_true_eq]; omega) _)); rw [hz]; first | (rw [if_pos (by omega)]; done) | (rw [if_neg (by omega)]; done))), rfl, hF, (mh_fr.rf.mono (by simp)), r85⟩
              · refine mh_iconst (pc := 83) F dX12_judge_83 ?_
                refine mh_goto (pc := 84) (tgt := 88) F dX12_judge_84 rfl ?_
                exact mh_ireturn F Z dX12_judge_88 ⟨_, _, (by unfold sp_judge; first | (rw [if_pos (by omega)]; done) | (rw [if_neg (by omega)]; have hz : sp_ld (sp_jp s u k) (min (s 3) (z k)).toNat = x := (by first | (rw [show (min (s 3) (z k)) = x by omega]; exact hl) | (rw [show (min (s 3) (z k)).toNat = x.toNat + ((min (s 3) (z k)).toNat - x.toNat) by omega]; exact sp_ld_stop hx.1 hl (by unfold sp_jp; simp only [decide_eq_true_eq]; omega) _)); rw [hz]; first | (rw [if_pos (by omega)]; done) | (rw [if_neg (by omega)]; done))), rfl, hF, (mh_fr.rf.mono (by simp)), r85⟩
          · refine mh_iinc3 (pc := 57) F dX12_judge_57 rfl (by decide) ?_
            refine mh_goto (pc := 60) (tgt := 18) F dX12_judge_60 rfl ?_
            exact ihL18 _ (by omega) (x + 1) (by omega) (sp_ld_at hx.1 hl (by unfold sp_jp; exact decide_eq_true (by omega))) rfl
    exact L18 _ 0 (by omega) rfl rfl
  · refine mh_aload0 (pc := 10) F dX12_judge_10 ?_
    refine mh_iload2 (pc := 11) F dX12_judge_11 ?_
    refine mh_callV0 (pc := 12) (As := [.int (Int32.ofInt (sp_lacks k b))]) (st := []) F (by omega) (k_error (by omega) hF r85 (by omega)) wv_RX12_114_yX12_error dX12_judge_12 sh_81 rfl (by decide) rfl rfl (Nat.le_of_ble_eq_true rfl) ⟨Nat.zero_le _, Nat.zero_le _⟩ (fun r1 h1 q1 => ?_)
    obtain ⟨rfl, F1, fr1, q1_0⟩ := q1
    have r82_2 : h1 82 = s := (fr1 _ (by decide)).trans r82
    have r92_2 : h1 92 = b := (fr1 _ (by decide)).trans r92
    have r93_2 : h1 93 = z := (fr1 _ (by decide)).trans r93
    have r94_2 : h1 94 = u := (fr1 _ (by decide)).trans r94
    have fr2 : mh_fr [85] h h1 := (mh_fr.tr mh_fr.rf fr1).mono (by simp)
    exact mh_ireturn F Z dX12_judge_15 ⟨_, _, (by unfold sp_judge; first | (rw [if_pos (by omega)]; done) | (rw [if_neg (by omega)]; have hz : sp_ld (sp_jp s u k) (min (s 3) (z k)).toNat = x := (by first | (rw [show (min (s 3) (z k)) = x by omega]; exact hl) | (rw [show (min (s 3) (z k)).toNat = x.toNat + ((min (s 3) (z k)).toNat - x.toNat) by omega]; exact sp_ld_stop hx.1 hl (by unfold sp_jp; simp only [decide_eq_true_eq]; omega) _)); rw [hz]; first | (rw [if_pos (by omega)]; done) | (rw [if_neg (by omega)]; done))), rfl, F1, (fr2.mono (by simp)), q1_0⟩

