/-- best given up: on from a row, n hills -/
def sp_bl (s : Int → Int) (k c : Int) : Nat → (Int → Int) → Int → Int → (Int → Int) × Int × Int
  | 0, o, b, m => (o, b, m)
  | n + 1, o, b, m => sp_bl s k c n (sp_on s o k c) (if m < sp_cheese s (o 17) (o 19) then o 17 else b) (max m (sp_cheese s (o 17) (o 19)))
def sp_be (s : Int → Int) (k : Int) (p : (Int → Int) × Int × Int) : Int × Int :=
  (if p.2.2 < sp_worth s k (p.1 19) (p.1 20) then 9 else p.2.1, max p.2.2 (sp_worth s k (p.1 19) (p.1 20)))
def sp_best (k c w : Int) (s er o : Int → Int) : Int × (Int → Int) × (Int → Int) :=
  if ¬ ((0 ≤ k ∧ k ≤ s 3 - 1) ∧ (0 ≤ c ∧ c ≤ 3) ∧ (0 ≤ w ∧ w ≤ 1)) then sp_er s er 1
  else if ¬ (s (41 + 9 * k + 3) < 2 ∧ s (41 + 9 * k + 8) = 0) then sp_er s er 3
  else (if w = 0 then (sp_be s k (sp_bl s k c (9 - s (41 + 9 * k + 2)).toNat (sp_bg o (s (41 + 9 * k + 2)) (s 0) (s (41 + 9 * k + 5)) (s (41 + 9 * k + 6))) (-1) (-1))).1 else (sp_be s k (sp_bl s k c (9 - s (41 + 9 * k + 2)).toNat (sp_bg o (s (41 + 9 * k + 2)) (s 0) (s (41 + 9 * k + 5)) (s (41 + 9 * k + 6))) (-1) (-1))).2, s, er)
theorem sp_cheese_rg {s : Int → Int} {a x : Int} (hp : 0 ≤ s (6 + 3 * a + 2) ∧ s (6 + 3 * a + 2) ≤ 99) (hx : 0 ≤ x ∧ x ≤ 9999) : 0 ≤ sp_cheese s a x ∧ sp_cheese s a x ≤ 9900 := by
  have h1 := mh_muld (x := x) hp (by omega)
  have h2 := mh_tdivb (k := 10) h1.1 (by decide)
  unfold sp_cheese; omega
def sp_ons (s : Int → Int) (k c : Int) : Nat → (Int → Int) → Int → Int
  | 0, o => o
  | n + 1, o => sp_ons s k c n (sp_on s o k c)
def sp_bw1 (s : Int → Int) (k q x c : Int) (p : (Int → Int) × Int) : (Int → Int) × Int :=
  (sp_ons s k c 9 (sp_bg p.1 0 q 0 0), mh_or p.2 (if sp_ons s k c 9 (sp_bg p.1 0 q 0 0) 19 = x then mh_shl 1 c else 0))
def sp_bw (s o : Int → Int) (k q x : Int) : Nat → (Int → Int) × Int
  | 0 => (o, 0)
  | c + 1 => sp_bw1 s k q x (c : Int) (sp_bw s o k q x c)
theorem sp_bw_at (s o : Int → Int) (k q x : Int) {c : Int} (h : 0 ≤ c) : sp_bw s o k q x (c + 1).toNat = sp_bw1 s k q x c (sp_bw s o k q x c.toNat) := by
  rw [show (c + 1).toNat = c.toNat + 1 by omega]
  show sp_bw1 s k q x (c.toNat : Int) _ = _
  rw [Int.toNat_of_nonneg h]
def sp_byWhom (k q x : Int) (s er o : Int → Int) : Int × (Int → Int) × (Int → Int) :=
  if ¬ ((0 ≤ k ∧ k ≤ s 3 - 1) ∧ (0 ≤ q ∧ q ≤ 9999)) then sp_er s er 1 else ((sp_bw s o k q x 4).2, s, er)
set_option maxRecDepth 100000 in
set_option maxHeartbeats 4000000 in
theorem p_bestGiven {g : mh_G} {d : Nat} (hd : 10 ≤ d) {h : Nat → Int → Int} (hF : mh_FX h) {s : Int → Int} (r82 : h 82 = s) {er : Int → Int} (r85 : h 85 = er) {o : Int → Int} (r81 : h 81 = o) {k c w : Int} (hk : -2147483648 ≤ k ∧ k < 2147483648) (hc : -2147483648 ≤ c ∧ c < 2147483648) (hw : -2147483648 ≤ w ∧ w < 2147483648) (hq9 : s 0 ≤ 9999) (hi : sp_inv s) : mh_M g d yX12_bestGiven cX12_bestGiven 7 (some .int) 96 0 0 [.ref 81, .int (Int32.ofInt (k)), .int (Int32.ofInt (c)), .int (Int32.ofInt (w))] h (fun r h2 => ∃ (vv : Int) (t0 : Int → Int) (t1 : Int → Int), (vv, t0, t1) = sp_best k c w s er o ∧ r = some (.int (Int32.ofInt vv)) ∧ mh_FX h2 ∧ mh_fr [81, 85, 86, 87] h h2 ∧ h2 82 = t0 ∧ h2 85 = t1 ∧ sp_o4 o (h2 81)) := by
  refine mh_M_of RX12 rfl (by decide +kernel) [some (.ref 81), some (.int (Int32.ofInt (k))), some (.int (Int32.ofInt (c))), some (.int (Int32.ofInt (w))), none, none, none] rfl (Nat.le_of_ble_eq_true rfl) (fun f F Z hn0 hR => ?_)
  have hib := sp_inv_b hi
  have hm := hi.1
  have hq0 := hi.2.1
  have hws := hi.2.2.2.2.2
  obtain ⟨hH, hC⟩ := hi.2.2.2.1
  have hs1 := hi.2.2.1
  refine mh_aload0 (pc := 0) F dX12_bestGiven_0 ?_
  refine mh_iload1 (pc := 1) F dX12_bestGiven_1 ?_
  refine mh_callVp (pc := 2) (As := [.int (Int32.ofInt (k))]) (st := []) F (by omega) (k_isChurn (by omega) hF r82 (by omega) (by omega)) wv_RX12_148_yX12_isChurn dX12_bestGiven_2 sh_81 rfl (by decide) rfl rfl (Nat.le_of_ble_eq_true rfl) ⟨Nat.zero_le _, Nat.zero_le _⟩ ?_
  refine mh_ifb_eq (pc := 5) (tgt := 25) F dX12_bestGiven_5 rfl (fun c_5 => ?_) (fun c_5 => ?_)
  · refine mh_aload0 (pc := 25) F dX12_bestGiven_25 ?_
    refine mh_iconst (pc := 26) F dX12_bestGiven_26 ?_
    refine mh_callV0 (pc := 27) (As := [.int (Int32.ofInt (1))]) (st := []) F (by omega) (k_error (by omega) hF r85 (by omega)) wv_RX12_114_yX12_error dX12_bestGiven_27 sh_81 rfl (by decide) rfl rfl (Nat.le_of_ble_eq_true rfl) ⟨Nat.zero_le _, Nat.zero_le _⟩ (fun r1 h1 q1 => ?_)
    obtain ⟨rfl, F1, fr1, q1_0⟩ := q1
    have r82_2 : h1 82 = s := (fr1 _ (by decide)).trans r82
    have r81_2 : h1 81 = o := (fr1 _ (by decide)).trans r81
    have fr2 : mh_fr [85] h h1 := (mh_fr.tr mh_fr.rf fr1).mono (by simp)
    exact mh_ireturn F Z dX12_bestGiven_30 ⟨_, _, _, (by unfold sp_best; (repeat' split) <;> first | rfl | (exfalso; omega)), rfl, F1, (fr2.mono (by simp)), r82_2, q1_0, (by rw [r81_2]; exact sp_o4.rf)⟩
  · refine mh_iload2 (pc := 8) F dX12_bestGiven_8 ?_
    refine mh_callSp (pc := 9) (As := [.int (Int32.ofInt (c))]) (st := []) F (by omega) (k_isCarrier (by omega) (by omega)) ws_RX12_125 dX12_bestGiven_9 rfl rfl (Nat.le_of_ble_eq_true rfl) ⟨Nat.zero_le _, Nat.zero_le _⟩ ?_
    refine mh_ifb_eq (pc := 12) (tgt := 25) F dX12_bestGiven_12 rfl (fun c_12 => ?_) (fun c_12 => ?_)
    · refine mh_aload0 (pc := 25) F dX12_bestGiven_25 ?_
      refine mh_iconst (pc := 26) F dX12_bestGiven_26 ?_
      refine mh_callV0 (pc := 27) (As := [.int (Int32.ofInt (1))]) (st := []) F (by omega) (k_error (by omega) hF r85 (by omega)) wv_RX12_114_yX12_error dX12_bestGiven_27 sh_81 rfl (by decide) rfl rfl (Nat.le_of_ble_eq_true rfl) ⟨Nat.zero_le _, Nat.zero_le _⟩ (fun r3 h3 q3 => ?_)
      obtain ⟨rfl, F3, fr3, q3_0⟩ := q3
      have r82_4 : h3 82 = s := (fr3 _ (by decide)).trans r82
      have r81_4 : h3 81 = o := (fr3 _ (by decide)).trans r81
      have fr4 : mh_fr [85] h h3 := (mh_fr.tr mh_fr.rf fr3).mono (by simp)
      exact mh_ireturn F Z dX12_bestGiven_30 ⟨_, _, _, (by unfold sp_best; (repeat' split) <;> first | rfl | (exfalso; omega)), rfl, F3, (fr4.mono (by simp)), r82_4, q3_0, (by rw [r81_4]; exact sp_o4.rf)⟩
    · refine mh_iload3 (pc := 15) F dX12_bestGiven_15 ?_
      refine mh_i2l (pc := 16) F dX12_bestGiven_16 (by omega) ?_
      refine mh_lconst (x := 0) (pc := 17) F dX12_bestGiven_17 rfl ?_
      refine mh_lconst (x := 1) (pc := 18) F dX12_bestGiven_18 rfl ?_
      refine mh_callSp (pc := 19) (As := [.long (Int64.ofInt (w)), .long (Int64.ofInt (0)), .long (Int64.ofInt (1))]) (st := []) F (by omega) (k_in (by omega) (by omega) (by omega) (by omega)) ws_RX12_69 dX12_bestGiven_19 rfl rfl (Nat.le_of_ble_eq_true rfl) ⟨Nat.zero_le _, Nat.zero_le _⟩ ?_
      refine mh_ifb_ne (pc := 22) (tgt := 31) F dX12_bestGiven_22 rfl (fun c_22 => ?_) (fun c_22 => ?_)
      · have zHC := hi.2.2.2.2.1 k (by omega) (by omega)
        have zHC2 := zHC
        obtain ⟨c0, c1, c2, c3, c4, c5, c6, c7, c8, c9, c10, c11, c12, c13⟩ := zHC2
        unfold sp_row at c0 c1 c2 c3 c4 c5 c6 c7 c8 c9 c10 c11 c12 c13
        refine mh_aload0 (pc := 31) F dX12_bestGiven_31 ?_
        refine mh_iload1 (pc := 32) F dX12_bestGiven_32 ?_
        refine mh_callVp (pc := 33) (As := [.int (Int32.ofInt (k))]) (st := []) F (by omega) (k_stands (by omega) hF r82 (by omega) zHC) wv_RX12_163_yX12_stands dX12_bestGiven_33 sh_81 rfl (by decide) rfl rfl (Nat.le_of_ble_eq_true rfl) ⟨Nat.zero_le _, Nat.zero_le _⟩ ?_
        refine mh_ifb_ne (pc := 36) (tgt := 45) F dX12_bestGiven_36 rfl (fun c_36 => ?_) (fun c_36 => ?_)
        · refine mh_aload0 (pc := 45) F dX12_bestGiven_45 ?_
          refine mh_iload1 (pc := 46) F dX12_bestGiven_46 ?_
          refine mh_aload0 (pc := 47) F dX12_bestGiven_47 ?_
          refine mh_iload1 (pc := 48) F dX12_bestGiven_48 ?_
          refine mh_iconst (pc := 49) F dX12_bestGiven_49 ?_
          refine mh_callVp (pc := 50) (As := [.int (Int32.ofInt (k)), .int (Int32.ofInt (2))]) (st := [.int (Int32.ofInt (k)), .ref 81]) F (by omega) (k_its (by omega) hF r82 (by omega) (by omega)) wv_RX12_79_yX12_its dX12_bestGiven_50 sh_81 rfl (by decide) rfl rfl (Nat.le_of_ble_eq_true rfl) ⟨Nat.zero_le _, Nat.zero_le _⟩ ?_
          refine mh_aload0 (pc := 53) F dX12_bestGiven_53 ?_
          refine mh_getr (b := 82) (pc := 54) F sh_81 (by decide) fw_RX12_9_12 dX12_bestGiven_54 rfl (fx_81_0 hF) ?_
          refine mh_iconst (pc := 57) F dX12_bestGiven_57 ?_
          refine mh_ialoadr (pc := 58) F sh_82 (by decide) (by omega) dX12_bestGiven_58 r82 ?_
          refine mh_iconst (pc := 59) F dX12_bestGiven_59 ?_
          refine mh_callV0 (pc := 60) (As := [.int (Int32.ofInt (k)), .int (Int32.ofInt (s (41 + 9 * k + 2))), .int (Int32.ofInt (s 0)), .int (Int32.ofInt (0))]) (st := []) F (by omega) (k_begins0 (by omega) hF r82 r81 (by omega)) wv_RX12_332_yX12_begins dX12_bestGiven_60 sh_81 rfl (by decide) rfl rfl (Nat.le_of_ble_eq_true rfl) ⟨Nat.zero_le _, Nat.zero_le _⟩ (fun r5 h5 q5 => ?_)
          obtain ⟨rfl, F5, fr5, q5_0⟩ := q5
          have r82_6 : h5 82 = s := (fr5 _ (by decide)).trans r82
          have r85_6 : h5 85 = er := (fr5 _ (by decide)).trans r85
          have fr6 : mh_fr [81] h h5 := (mh_fr.tr mh_fr.rf fr5).mono (by simp)
          obtain ⟨b0, eb0⟩ : ∃ z : Int → Int, z = sp_bg o (s (41 + 9 * k + 2)) (s 0) (s (41 + 9 * k + 5)) (s (41 + 9 * k + 6)) := ⟨_, rfl⟩
          rw [← eb0] at q5_0
          obtain ⟨b17, b18, b19, b20⟩ : b0 17 = s (41 + 9 * k + 2) ∧ b0 18 = s 0 ∧ b0 19 = s (41 + 9 * k + 5) ∧ b0 20 = s (41 + 9 * k + 6) := by rw [eb0]; exact sp_bg_at
          have hb4 : sp_o4 o b0 := by rw [eb0]; exact sp_o4_bg
          have hbo : sp_ook b0 := by unfold sp_ook; rw [b17, b18, b19, b20]; exact ⟨c2, hq0.1, c5, c6⟩
          refine mh_iconst (pc := 63) F dX12_bestGiven_63 ?_
          refine mh_istore4 (pc := 64) F dX12_bestGiven_64 rfl (by decide) ?_
          refine mh_iconst (pc := 66) F dX12_bestGiven_66 ?_
          refine mh_istore5 (pc := 67) F dX12_bestGiven_67 rfl (by decide) ?_
          have L69 : ∀ (m : Nat) (b : Int) (mo : Int) (hh : Nat → Int → Int) (t : Int → Int), (mh_FX hh) → (mh_fr [81, 86, 87] h hh) → (hh 82 = s) → (hh 85 = er) → (hh 81 = t) → (sp_o4 o t) → (sp_ook t) → (t 17 ≤ 9) → (t 18 + (9 - t 17) * 9 ≤ 20000) → (-1 ≤ mo ∧ mo ≤ 9900) → ((sp_bl s k c (9 - s (41 + 9 * k + 2)).toNat b0 (-1) (-1)) = sp_bl s k c (9 - t 17).toNat t b mo) → (9 - t 17).toNat = m → mh_V g f 7 96 0 0 69 [some (.ref 81), some (.int (Int32.ofInt (k))), some (.int (Int32.ofInt (c))), some (.int (Int32.ofInt (w))), some (.int (Int32.ofInt (b))), some (.int (Int32.ofInt (mo))), none] [] hh := by
            intro m
            induction m using Nat.strongRecOn with
            | _ m ihL69 =>
            intro b mo hh t Fhh frhh q82hh q85hh q81hh hto zHO h17 h18 hmo hval hmz
            refine mh_aload0 (pc := 69) F dX12_bestGiven_69 ?_
            obtain ⟨o17, o18, o19, o20⟩ := id zHO
            refine mh_getir (pc := 70) F sh_81 (by decide) fw_RX12_317_12 dX12_bestGiven_70 rfl q81hh ?_
            refine mh_bipush (pc := 73) F dX12_bestGiven_73 rfl ?_
            refine mh_icmp_ge (pc := 75) (tgt := 128) F dX12_bestGiven_75 rfl (by omega) (by omega) (fun c_75 => ?_) (fun c_75 => ?_)
            · obtain ⟨o17, o18, o19, o20⟩ := id zHO
              have hwr : 0 ≤ sp_worth s k (t 19) (t 20) ∧ sp_worth s k (t 19) (t 20) ≤ 999 := sp_law_rg1
              rw [show (9 - t 17).toNat = 0 by omega] at hval
              refine mh_aload0 (pc := 128) F dX12_bestGiven_128 ?_
              refine mh_iload1 (pc := 129) F dX12_bestGiven_129 ?_
              refine mh_aload0 (pc := 130) F dX12_bestGiven_130 ?_
              refine mh_getir (pc := 131) F sh_81 (by decide) fw_RX12_323_12 dX12_bestGiven_131 rfl q81hh ?_
              refine mh_aload0 (pc := 134) F dX12_bestGiven_134 ?_
              refine mh_getir (pc := 135) F sh_81 (by decide) fw_RX12_326_12 dX12_bestGiven_135 rfl q81hh ?_
              refine mh_callV0 (pc := 138) (As := [.int (Int32.ofInt (k)), .int (Int32.ofInt (t 19)), .int (Int32.ofInt (t 20))]) (st := []) F (by omega) (k_worth (by omega) Fhh q82hh (by omega) (by omega) (by omega) (by omega) (by omega) hws) wv_RX12_257_yX12_worth dX12_bestGiven_138 sh_81 rfl (by decide) rfl rfl (Nat.le_of_ble_eq_true rfl) ⟨Nat.zero_le _, Nat.zero_le _⟩ (fun r7 h7 q7 => ?_)
              obtain ⟨rfl, F7, fr7⟩ := q7
              have r82_8 : h7 82 = s := (fr7 _ (by decide)).trans q82hh
              have r85_8 : h7 85 = er := (fr7 _ (by decide)).trans q85hh
              have r81_8 : h7 81 = t := (fr7 _ (by decide)).trans q81hh
              have fr8 : mh_fr [81, 86, 87] h h7 := (mh_fr.tr frhh fr7).mono (by simp)
              refine mh_istore6 (pc := 141) F dX12_bestGiven_141 rfl (by decide) ?_
              refine mh_iload6 (pc := 143) F dX12_bestGiven_143 ?_
              refine mh_iload5 (pc := 145) F dX12_bestGiven_145 ?_
              refine mh_icmp_le (pc := 147) (tgt := 155) F dX12_bestGiven_147 rfl (by omega) (by omega) (fun c_147 => ?_) (fun c_147 => ?_)
              · refine mh_iload4 (pc := 155) F dX12_bestGiven_155 ?_
                refine mh_istore4 (pc := 157) F dX12_bestGiven_157 rfl (by decide) ?_
                refine mh_iload5 (pc := 159) F dX12_bestGiven_159 ?_
                refine mh_iload6 (pc := 161) F dX12_bestGiven_161 ?_
                refine mh_callSp (pc := 163) (As := [.int (Int32.ofInt (mo)), .int (Int32.ofInt (sp_worth s k (t 19) (t 20)))]) (st := []) F (by omega) (k_max (by omega) (by omega) (by omega)) ws_RX12_60 dX12_bestGiven_163 rfl rfl (Nat.le_of_ble_eq_true rfl) ⟨Nat.zero_le _, Nat.zero_le _⟩ ?_
                refine mh_istore5 (pc := 166) F dX12_bestGiven_166 rfl (by decide) ?_
                refine mh_iload3 (pc := 168) F dX12_bestGiven_168 ?_
                refine mh_if_ne (pc := 169) (tgt := 177) F dX12_bestGiven_169 rfl (by omega) (fun c_169 => ?_) (fun c_169 => ?_)
                · refine mh_iload5 (pc := 177) F dX12_bestGiven_177 ?_
                  exact mh_ireturn F Z dX12_bestGiven_179 ⟨_, _, _, (by unfold sp_best; (repeat' split) <;> first | rfl | (exfalso; omega) | (rw [← eb0, hval]; unfold sp_be sp_bl; first | rfl | (simp only []; first | done | rfl | (rw [if_pos (by omega)]; done) | (rw [if_neg (by omega)]; done)))), rfl, F7, (fr8.mono (by simp)), r82_8, r85_8, (by rw [r81_8]; exact hto)⟩
                · refine mh_iload4 (pc := 172) F dX12_bestGiven_172 ?_
                  refine mh_goto (pc := 174) (tgt := 179) F dX12_bestGiven_174 rfl ?_
                  exact mh_ireturn F Z dX12_bestGiven_179 ⟨_, _, _, (by unfold sp_best; (repeat' split) <;> first | rfl | (exfalso; omega) | (rw [← eb0, hval]; unfold sp_be sp_bl; first | rfl | (simp only []; first | done | rfl | (rw [if_pos (by omega)]; done) | (rw [if_neg (by omega)]; done)))), rfl, F7, (fr8.mono (by simp)), r82_8, r85_8, (by rw [r81_8]; exact hto)⟩
              · refine mh_bipush (pc := 150) F dX12_bestGiven_150 rfl ?_
                refine mh_goto (pc := 152) (tgt := 157) F dX12_bestGiven_152 rfl ?_
                refine mh_istore4 (pc := 157) F dX12_bestGiven_157 rfl (by decide) ?_
                refine mh_iload5 (pc := 159) F dX12_bestGiven_159 ?_
                refine mh_iload6 (pc := 161) F dX12_bestGiven_161 ?_
                refine mh_callSp (pc := 163) (As := [.int (Int32.ofInt (mo)), .int (Int32.ofInt (sp_worth s k (t 19) (t 20)))]) (st := []) F (by omega) (k_max (by omega) (by omega) (by omega)) ws_RX12_60 dX12_bestGiven_163 rfl rfl (Nat.le_of_ble_eq_true rfl) ⟨Nat.zero_le _, Nat.zero_le _⟩ ?_
                refine mh_istore5 (pc := 166) F dX12_bestGiven_166 rfl (by decide) ?_
                refine mh_iload3 (pc := 168) F dX12_bestGiven_168 ?_
                refine mh_if_ne (pc := 169) (tgt := 177) F dX12_bestGiven_169 rfl (by omega) (fun c_169 => ?_) (fun c_169 => ?_)
                · refine mh_iload5 (pc := 177) F dX12_bestGiven_177 ?_
                  exact mh_ireturn F Z dX12_bestGiven_179 ⟨_, _, _, (by unfold sp_best; (repeat' split) <;> first | rfl | (exfalso; omega) | (rw [← eb0, hval]; unfold sp_be sp_bl; first | rfl | (simp only []; first | done | rfl | (rw [if_pos (by omega)]; done) | (rw [if_neg (by omega)]; done)))), rfl, F7, (fr8.mono (by simp)), r82_8, r85_8, (by rw [r81_8]; exact hto)⟩
                · refine mh_iload4 (pc := 172) F dX12_bestGiven_172 ?_
                  refine mh_goto (pc := 174) (tgt := 179) F dX12_bestGiven_174 rfl ?_
                  exact mh_ireturn F Z dX12_bestGiven_179 ⟨_, _, _, (by unfold sp_best; (repeat' split) <;> first | rfl | (exfalso; omega) | (rw [← eb0, hval]; unfold sp_be sp_bl; first | rfl | (simp only []; first | done | rfl | (rw [if_pos (by omega)]; done) | (rw [if_neg (by omega)]; done)))), rfl, F7, (fr8.mono (by simp)), r82_8, r85_8, (by rw [r81_8]; exact hto)⟩
            · have hpc := (hC c (by omega) (by omega)).1
              have hhp := (hH (t 17) (by omega) (by omega)).2.2
              obtain ⟨o17, o18, o19, o20⟩ := id zHO
              have hch := sp_cheese_rg hhp o19
              have hon := sp_on_ok (s := s) (k := k) (c := c) zHO (by omega) (by omega)
              refine mh_aload0 (pc := 78) F dX12_bestGiven_78 ?_
              refine mh_aload0 (pc := 79) F dX12_bestGiven_79 ?_
              refine mh_getir (pc := 80) F sh_81 (by decide) fw_RX12_317_12 dX12_bestGiven_80 rfl q81hh ?_
              refine mh_aload0 (pc := 83) F dX12_bestGiven_83 ?_
              refine mh_getir (pc := 84) F sh_81 (by decide) fw_RX12_323_12 dX12_bestGiven_84 rfl q81hh ?_
              refine mh_callVp (pc := 87) (As := [.int (Int32.ofInt (t 17)), .int (Int32.ofInt (t 19))]) (st := []) F (by omega) (k_cheese (by omega) Fhh q82hh (by omega) (by omega) (by omega)) wv_RX12_172_yX12_cheese dX12_bestGiven_87 sh_81 rfl (by decide) rfl rfl (Nat.le_of_ble_eq_true rfl) ⟨Nat.zero_le _, Nat.zero_le _⟩ ?_
              refine mh_istore6 (pc := 90) F dX12_bestGiven_90 rfl (by decide) ?_
              refine mh_iload6 (pc := 92) F dX12_bestGiven_92 ?_
              refine mh_iload5 (pc := 94) F dX12_bestGiven_94 ?_
              refine mh_icmp_le (pc := 96) (tgt := 106) F dX12_bestGiven_96 rfl (by omega) (by omega) (fun c_96 => ?_) (fun c_96 => ?_)
              · refine mh_iload4 (pc := 106) F dX12_bestGiven_106 ?_
                refine mh_istore4 (pc := 108) F dX12_bestGiven_108 rfl (by decide) ?_
                refine mh_iload5 (pc := 110) F dX12_bestGiven_110 ?_
                refine mh_iload6 (pc := 112) F dX12_bestGiven_112 ?_
                refine mh_callSp (pc := 114) (As := [.int (Int32.ofInt (mo)), .int (Int32.ofInt (sp_cheese s (t 17) (t 19)))]) (st := []) F (by omega) (k_max (by omega) (by omega) (by omega)) ws_RX12_60 dX12_bestGiven_114 rfl rfl (Nat.le_of_ble_eq_true rfl) ⟨Nat.zero_le _, Nat.zero_le _⟩ ?_
                refine mh_istore5 (pc := 117) F dX12_bestGiven_117 rfl (by decide) ?_
                refine mh_aload0 (pc := 119) F dX12_bestGiven_119 ?_
                refine mh_iload1 (pc := 120) F dX12_bestGiven_120 ?_
                refine mh_iload2 (pc := 121) F dX12_bestGiven_121 ?_
                refine mh_callV0 (pc := 122) (As := [.int (Int32.ofInt (k)), .int (Int32.ofInt (c))]) (st := []) F (by omega) (k_straightOn (by omega) Fhh q82hh q81hh (by omega) hi (by omega) zHO (by omega) (by omega)) wv_RX12_336_yX12_straightOn dX12_bestGiven_122 sh_81 rfl (by decide) rfl rfl (Nat.le_of_ble_eq_true rfl) ⟨Nat.zero_le _, Nat.zero_le _⟩ (fun r9 h9 q9 => ?_)
                obtain ⟨rfl, F9, fr9, q9_0⟩ := q9
                have r82_10 : h9 82 = s := (fr9 _ (by decide)).trans q82hh
                have r85_10 : h9 85 = er := (fr9 _ (by decide)).trans q85hh
                have fr10 : mh_fr [81, 86, 87] h h9 := (mh_fr.tr frhh fr9).mono (by simp)
                obtain ⟨on, eon⟩ : ∃ z : Int → Int, z = sp_on s t k c := ⟨_, rfl⟩
                rw [← eon] at q9_0
                have on17 : on 17 = t 17 + 1 := by rw [eon]; exact hon.2.1
                refine mh_goto (pc := 125) (tgt := 69) F dX12_bestGiven_125 rfl ?_
                refine mh_drop6 ?_
                exact ihL69 _ (by omega) b (max (mo) (sp_cheese s (t 17) (t 19))) h9 on F9 (fr10.mono (by simp)) r82_10 r85_10 q9_0 (by rw [eon]; exact hto.tr sp_o4_on) (by rw [eon]; exact hon.1) (by rw [eon, hon.2.1]; omega) (by rw [eon, hon.2.1, hon.2.2]; omega) (by omega) (by rw [hval, show (9 - t 17).toNat = (9 - (t 17 + 1)).toNat + 1 by omega, eon, hon.2.1]; show sp_bl s k c _ _ (if _ then _ else _) _ = _; first | (rw [if_pos (by omega)]; done) | (rw [if_neg (by omega)]; done)) rfl
              · refine mh_aload0 (pc := 99) F dX12_bestGiven_99 ?_
                refine mh_getir (pc := 100) F sh_81 (by decide) fw_RX12_317_12 dX12_bestGiven_100 rfl q81hh ?_
                refine mh_goto (pc := 103) (tgt := 108) F dX12_bestGiven_103 rfl ?_
                refine mh_istore4 (pc := 108) F dX12_bestGiven_108 rfl (by decide) ?_
                refine mh_iload5 (pc := 110) F dX12_bestGiven_110 ?_
                refine mh_iload6 (pc := 112) F dX12_bestGiven_112 ?_
                refine mh_callSp (pc := 114) (As := [.int (Int32.ofInt (mo)), .int (Int32.ofInt (sp_cheese s (t 17) (t 19)))]) (st := []) F (by omega) (k_max (by omega) (by omega) (by omega)) ws_RX12_60 dX12_bestGiven_114 rfl rfl (Nat.le_of_ble_eq_true rfl) ⟨Nat.zero_le _, Nat.zero_le _⟩ ?_
                refine mh_istore5 (pc := 117) F dX12_bestGiven_117 rfl (by decide) ?_
                refine mh_aload0 (pc := 119) F dX12_bestGiven_119 ?_
                refine mh_iload1 (pc := 120) F dX12_bestGiven_120 ?_
                refine mh_iload2 (pc := 121) F dX12_bestGiven_121 ?_
                refine mh_callV0 (pc := 122) (As := [.int (Int32.ofInt (k)), .int (Int32.ofInt (c))]) (st := []) F (by omega) (k_straightOn (by omega) Fhh q82hh q81hh (by omega) hi (by omega) zHO (by omega) (by omega)) wv_RX12_336_yX12_straightOn dX12_bestGiven_122 sh_81 rfl (by decide) rfl rfl (Nat.le_of_ble_eq_true rfl) ⟨Nat.zero_le _, Nat.zero_le _⟩ (fun r11 h11 q11 => ?_)
                obtain ⟨rfl, F11, fr11, q11_0⟩ := q11
                have r82_12 : h11 82 = s := (fr11 _ (by decide)).trans q82hh
                have r85_12 : h11 85 = er := (fr11 _ (by decide)).trans q85hh
                have fr12 : mh_fr [81, 86, 87] h h11 := (mh_fr.tr frhh fr11).mono (by simp)
                obtain ⟨on, eon⟩ : ∃ z : Int → Int, z = sp_on s t k c := ⟨_, rfl⟩
                rw [← eon] at q11_0
                have on17 : on 17 = t 17 + 1 := by rw [eon]; exact hon.2.1
                refine mh_goto (pc := 125) (tgt := 69) F dX12_bestGiven_125 rfl ?_
                refine mh_drop6 ?_
                exact ihL69 _ (by omega) (t 17) (max (mo) (sp_cheese s (t 17) (t 19))) h11 on F11 (fr12.mono (by simp)) r82_12 r85_12 q11_0 (by rw [eon]; exact hto.tr sp_o4_on) (by rw [eon]; exact hon.1) (by rw [eon, hon.2.1]; omega) (by rw [eon, hon.2.1, hon.2.2]; omega) (by omega) (by rw [hval, show (9 - t 17).toNat = (9 - (t 17 + 1)).toNat + 1 by omega, eon, hon.2.1]; show sp_bl s k c _ _ (if _ then _ else _) _ = _; first | (rw [if_pos (by omega)]; done) | (rw [if_neg (by omega)]; done)) rfl
          exact L69 _ (-1) (-1) h5 b0 F5 (fr6.mono (by simp)) r82_6 r85_6 q5_0 hb4 hbo (by rw [b17]; omega) (by rw [b17, b18]; omega) (by omega) (by rw [b17]) rfl
        · refine mh_aload0 (pc := 39) F dX12_bestGiven_39 ?_
          refine mh_iconst (pc := 40) F dX12_bestGiven_40 ?_
          refine mh_callV0 (pc := 41) (As := [.int (Int32.ofInt (3))]) (st := []) F (by omega) (k_error (by omega) hF r85 (by omega)) wv_RX12_114_yX12_error dX12_bestGiven_41 sh_81 rfl (by decide) rfl rfl (Nat.le_of_ble_eq_true rfl) ⟨Nat.zero_le _, Nat.zero_le _⟩ (fun r13 h13 q13 => ?_)
          obtain ⟨rfl, F13, fr13, q13_0⟩ := q13
          have r82_14 : h13 82 = s := (fr13 _ (by decide)).trans r82
          have r81_14 : h13 81 = o := (fr13 _ (by decide)).trans r81
          have fr14 : mh_fr [85] h h13 := (mh_fr.tr mh_fr.rf fr13).mono (by simp)
          exact mh_ireturn F Z dX12_bestGiven_44 ⟨_, _, _, (by unfold sp_best; (repeat' split) <;> first | rfl | (exfalso; omega)), rfl, F13, (fr14.mono (by simp)), r82_14, q13_0, (by rw [r81_14]; exact sp_o4.rf)⟩
      · refine mh_aload0 (pc := 25) F dX12_bestGiven_25 ?_
        refine mh_iconst (pc := 26) F dX12_bestGiven_26 ?_
        refine mh_callV0 (pc := 27) (As := [.int (Int32.ofInt (1))]) (st := []) F (by omega) (k_error (by omega) hF r85 (by omega)) wv_RX12_114_yX12_error dX12_bestGiven_27 sh_81 rfl (by decide) rfl rfl (Nat.le_of_ble_eq_true rfl) ⟨Nat.zero_le _, Nat.zero_le _⟩ (fun r15 h15 q15 => ?_)
        obtain ⟨rfl, F15, fr15, q15_0⟩ := q15
        have r82_16 : h15 82 = s := (fr15 _ (by decide)).trans r82
        have r81_16 : h15 81 = o := (fr15 _ (by decide)).trans r81
        have fr16 : mh_fr [85] h h15 := (mh_fr.tr mh_fr.rf fr15).mono (by simp)
        exact mh_ireturn F Z dX12_bestGiven_30 ⟨_, _, _, (by unfold sp_best; (repeat' split) <;> first | rfl | (exfalso; omega)), rfl, F15, (fr16.mono (by simp)), r82_16, q15_0, (by rw [r81_16]; exact sp_o4.rf)⟩

set_option maxRecDepth 100000 in
set_option maxHeartbeats 4000000 in
theorem p_byWhom {g : mh_G} {d : Nat} (hd : 10 ≤ d) {h : Nat → Int → Int} (hF : mh_FX h) {s : Int → Int} (r82 : h 82 = s) {er : Int → Int} (r85 : h 85 = er) {o : Int → Int} (r81 : h 81 = o) {k q x : Int} (hk : -2147483648 ≤ k ∧ k < 2147483648) (hq : -2147483648 ≤ q ∧ q < 2147483648) (hx : -2147483648 ≤ x ∧ x < 2147483648) (hi : sp_inv s) : mh_M g d yX12_byWhom cX12_byWhom 6 (some .int) 96 0 0 [.ref 81, .int (Int32.ofInt (k)), .int (Int32.ofInt (q)), .int (Int32.ofInt (x))] h (fun r h2 => ∃ (vv : Int) (t0 : Int → Int) (t1 : Int → Int), (vv, t0, t1) = sp_byWhom k q x s er o ∧ r = some (.int (Int32.ofInt vv)) ∧ mh_FX h2 ∧ mh_fr [81, 85, 86, 87] h h2 ∧ h2 82 = t0 ∧ h2 85 = t1 ∧ sp_o4 o (h2 81)) := by
  refine mh_M_of RX12 rfl (by decide +kernel) [some (.ref 81), some (.int (Int32.ofInt (k))), some (.int (Int32.ofInt (q))), some (.int (Int32.ofInt (x))), none, none] rfl (Nat.le_of_ble_eq_true rfl) (fun f F Z hn0 hR => ?_)
  have hib := sp_inv_b hi
  have hm := hi.1
  have hq0 := hi.2.1
  have hws := hi.2.2.2.2.2
  obtain ⟨hH, hC⟩ := hi.2.2.2.1
  have hs1 := hi.2.2.1
  refine mh_aload0 (pc := 0) F dX12_byWhom_0 ?_
  refine mh_iload1 (pc := 1) F dX12_byWhom_1 ?_
  refine mh_callVp (pc := 2) (As := [.int (Int32.ofInt (k))]) (st := []) F (by omega) (k_isChurn (by omega) hF r82 (by omega) (by omega)) wv_RX12_148_yX12_isChurn dX12_byWhom_2 sh_81 rfl (by decide) rfl rfl (Nat.le_of_ble_eq_true rfl) ⟨Nat.zero_le _, Nat.zero_le _⟩ ?_
  refine mh_ifb_eq (pc := 5) (tgt := 20) F dX12_byWhom_5 rfl (fun c_5 => ?_) (fun c_5 => ?_)
  · refine mh_aload0 (pc := 20) F dX12_byWhom_20 ?_
    refine mh_iconst (pc := 21) F dX12_byWhom_21 ?_
    refine mh_callV0 (pc := 22) (As := [.int (Int32.ofInt (1))]) (st := []) F (by omega) (k_error (by omega) hF r85 (by omega)) wv_RX12_114_yX12_error dX12_byWhom_22 sh_81 rfl (by decide) rfl rfl (Nat.le_of_ble_eq_true rfl) ⟨Nat.zero_le _, Nat.zero_le _⟩ (fun r1 h1 q1 => ?_)
    obtain ⟨rfl, F1, fr1, q1_0⟩ := q1
    have r82_2 : h1 82 = s := (fr1 _ (by decide)).trans r82
    have r81_2 : h1 81 = o := (fr1 _ (by decide)).trans r81
    have fr2 : mh_fr [85] h h1 := (mh_fr.tr mh_fr.rf fr1).mono (by simp)
    exact mh_ireturn F Z dX12_byWhom_25 ⟨_, _, _, (by unfold sp_byWhom; (repeat' split) <;> first | rfl | (exfalso; omega)), rfl, F1, (fr2.mono (by simp)), r82_2, q1_0, (by rw [r81_2]; exact sp_o4.rf)⟩
  · refine mh_iload2 (pc := 8) F dX12_byWhom_8 ?_
    refine mh_i2l (pc := 9) F dX12_byWhom_9 (by omega) ?_
    refine mh_lconst (x := 0) (pc := 10) F dX12_byWhom_10 rfl ?_
    refine mh_ldc2 (x := 9999) (pc := 11) F dX12_byWhom_11 tw_7_105 ?_
    refine mh_callSp (pc := 14) (As := [.long (Int64.ofInt (q)), .long (Int64.ofInt (0)), .long (Int64.ofInt (9999))]) (st := []) F (by omega) (k_in (by omega) (by omega) (by omega) (by omega)) ws_RX12_69 dX12_byWhom_14 rfl rfl (Nat.le_of_ble_eq_true rfl) ⟨Nat.zero_le _, Nat.zero_le _⟩ ?_
    refine mh_ifb_ne (pc := 17) (tgt := 26) F dX12_byWhom_17 rfl (fun c_17 => ?_) (fun c_17 => ?_)
    · refine mh_iconst (pc := 26) F dX12_byWhom_26 ?_
      refine mh_istore4 (pc := 27) F dX12_byWhom_27 rfl (by decide) ?_
      refine mh_iconst (pc := 29) F dX12_byWhom_29 ?_
      refine mh_istore5 (pc := 30) F dX12_byWhom_30 rfl (by decide) ?_
      have L32 : ∀ (m : Nat) (b : Int) (c : Int) (hh : Nat → Int → Int) (t : Int → Int), (mh_FX hh) → (mh_fr [81, 86, 87] h hh) → (hh 82 = s) → (hh 85 = er) → (hh 81 = t) → (0 ≤ c ∧ c ≤ 4) → (sp_o4 o t) → ((t, b) = sp_bw s o k q x c.toNat) → (4 - c).toNat = m → mh_V g f 6 96 0 0 32 [some (.ref 81), some (.int (Int32.ofInt (k))), some (.int (Int32.ofInt (q))), some (.int (Int32.ofInt (x))), some (.int (Int32.ofInt (b))), some (.int (Int32.ofInt (c)))] [] hh := by
        intro m
        induction m using Nat.strongRecOn with
        | _ m ihL32 =>
        intro b c hh t Fhh frhh q82hh q85hh q81hh hc hto ht hmz
        refine mh_iload5 (pc := 32) F dX12_byWhom_32 ?_
        refine mh_iconst (pc := 34) F dX12_byWhom_34 ?_
        refine mh_icmp_ge (pc := 35) (tgt := 92) F dX12_byWhom_35 rfl (by omega) (by omega) (fun c_35 => ?_) (fun c_35 => ?_)
        · refine mh_iload4 (pc := 92) F dX12_byWhom_92 ?_
          exact mh_ireturn F Z dX12_byWhom_94 ⟨_, _, _, (by unfold sp_byWhom; (repeat' split) <;> first | rfl | (exfalso; omega) | (rw [show (4 : Nat) = c.toNat by omega, ← ht]; done)), rfl, Fhh, (frhh.mono (by simp)), q82hh, q85hh, (by rw [q81hh]; exact hto)⟩
        · refine mh_aload0 (pc := 38) F dX12_byWhom_38 ?_
          refine mh_iload1 (pc := 39) F dX12_byWhom_39 ?_
          refine mh_iconst (pc := 40) F dX12_byWhom_40 ?_
          refine mh_iload2 (pc := 41) F dX12_byWhom_41 ?_
          refine mh_iconst (pc := 42) F dX12_byWhom_42 ?_
          refine mh_callV0 (pc := 43) (As := [.int (Int32.ofInt (k)), .int (Int32.ofInt (0)), .int (Int32.ofInt (q)), .int (Int32.ofInt (1))]) (st := []) F (by omega) (k_begins1 (by omega) Fhh q82hh q81hh (by omega)) wv_RX12_332_yX12_begins dX12_byWhom_43 sh_81 rfl (by decide) rfl rfl (Nat.le_of_ble_eq_true rfl) ⟨Nat.zero_le _, Nat.zero_le _⟩ (fun r3 h3 q3 => ?_)
          obtain ⟨rfl, F3, fr3, q3_0⟩ := q3
          have r82_4 : h3 82 = s := (fr3 _ (by decide)).trans q82hh
          have r85_4 : h3 85 = er := (fr3 _ (by decide)).trans q85hh
          have fr4 : mh_fr [81, 86, 87] h h3 := (mh_fr.tr frhh fr3).mono (by simp)
          obtain ⟨b0, eb0⟩ : ∃ z : Int → Int, z = sp_bg t 0 q 0 0 := ⟨_, rfl⟩
          rw [← eb0] at q3_0
          obtain ⟨b17, b18, b19, b20⟩ : b0 17 = 0 ∧ b0 18 = q ∧ b0 19 = 0 ∧ b0 20 = 0 := by rw [eb0]; exact sp_bg_at
          have hb4 : sp_o4 o b0 := by rw [eb0]; exact hto.tr sp_o4_bg
          have hbo : sp_ook b0 := by unfold sp_ook; rw [b17, b18, b19, b20]; omega
          have L46 : ∀ (m : Nat) (hg : Nat → Int → Int) (t2 : Int → Int), (mh_FX hg) → (mh_fr [81, 86, 87] h hg) → (hg 82 = s) → (hg 85 = er) → (hg 81 = t2) → (sp_o4 o t2) → (sp_ook t2) → (t2 17 ≤ 9) → (t2 18 + (9 - t2 17) * 9 ≤ 20000) → (sp_ons s k c 9 b0 = sp_ons s k c (9 - t2 17).toNat t2) → (9 - t2 17).toNat = m → mh_V g f 6 96 0 0 46 [some (.ref 81), some (.int (Int32.ofInt (k))), some (.int (Int32.ofInt (q))), some (.int (Int32.ofInt (x))), some (.int (Int32.ofInt (b))), some (.int (Int32.ofInt (c)))] [] hg := by
            intro m
            induction m using Nat.strongRecOn with
            | _ m ihL46 =>
            intro hg t2 Fhg frhg q82hg q85hg q81hg hto2 zHO h17 h18 hval hmz
            refine mh_aload0 (pc := 46) F dX12_byWhom_46 ?_
            obtain ⟨o17, o18, o19, o20⟩ := id zHO
            refine mh_getir (pc := 47) F sh_81 (by decide) fw_RX12_317_12 dX12_byWhom_47 rfl q81hg ?_
            refine mh_bipush (pc := 50) F dX12_byWhom_50 rfl ?_
            refine mh_icmp_ge (pc := 52) (tgt := 65) F dX12_byWhom_52 rfl (by omega) (by omega) (fun c_52 => ?_) (fun c_52 => ?_)
            · obtain ⟨o17, o18, o19, o20⟩ := id zHO
              rw [show (9 - t2 17).toNat = 0 by omega] at hval
              have hval : sp_ons s k c 9 b0 = t2 := hval
              refine mh_iload4 (pc := 65) F dX12_byWhom_65 ?_
              refine mh_aload0 (pc := 67) F dX12_byWhom_67 ?_
              refine mh_getir (pc := 68) F sh_81 (by decide) fw_RX12_323_12 dX12_byWhom_68 rfl q81hg ?_
              refine mh_iload3 (pc := 71) F dX12_byWhom_71 ?_
              refine mh_icmp_ne (pc := 72) (tgt := 82) F dX12_byWhom_72 rfl (by omega) (by omega) (fun c_72 => ?_) (fun c_72 => ?_)
              · refine mh_iconst (pc := 82) F dX12_byWhom_82 ?_
                refine mh_ior (pc := 83) F dX12_byWhom_83 ?_
                refine mh_istore4 (pc := 84) F dX12_byWhom_84 rfl (by decide) ?_
                refine mh_iinc5 (pc := 86) F dX12_byWhom_86 rfl (by decide) ?_
                refine mh_goto (pc := 89) (tgt := 32) F dX12_byWhom_89 rfl ?_
                exact ihL32 _ (by omega) (mh_or b 0) (c + 1) hg t2 Fhg (frhg.mono (by simp)) q82hg q85hg q81hg (by omega) hto2 (by rw [sp_bw_at s o k q x hc.1, ← ht]; unfold sp_bw1; simp only []; rw [← eb0, hval]; first | (rw [if_pos (by omega)]; done) | (rw [if_neg (by omega)]; done)) rfl
              · refine mh_iconst (pc := 75) F dX12_byWhom_75 ?_
                refine mh_iload5 (pc := 76) F dX12_byWhom_76 ?_
                refine mh_ishl (pc := 78) F dX12_byWhom_78 ?_
                refine mh_goto (pc := 79) (tgt := 83) F dX12_byWhom_79 rfl ?_
                refine mh_ior (pc := 83) F dX12_byWhom_83 ?_
                refine mh_istore4 (pc := 84) F dX12_byWhom_84 rfl (by decide) ?_
                refine mh_iinc5 (pc := 86) F dX12_byWhom_86 rfl (by decide) ?_
                refine mh_goto (pc := 89) (tgt := 32) F dX12_byWhom_89 rfl ?_
                exact ihL32 _ (by omega) (mh_or b (mh_shl 1 c)) (c + 1) hg t2 Fhg (frhg.mono (by simp)) q82hg q85hg q81hg (by omega) hto2 (by rw [sp_bw_at s o k q x hc.1, ← ht]; unfold sp_bw1; simp only []; rw [← eb0, hval]; first | (rw [if_pos (by omega)]; done) | (rw [if_neg (by omega)]; done)) rfl
            · have hpc := (hC c (by omega) (by omega)).1
              have hon := sp_on_ok (s := s) (k := k) (c := c) zHO (by omega) (by omega)
              refine mh_aload0 (pc := 55) F dX12_byWhom_55 ?_
              refine mh_iload1 (pc := 56) F dX12_byWhom_56 ?_
              refine mh_iload5 (pc := 57) F dX12_byWhom_57 ?_
              refine mh_callV0 (pc := 59) (As := [.int (Int32.ofInt (k)), .int (Int32.ofInt (c))]) (st := []) F (by omega) (k_straightOn (by omega) Fhg q82hg q81hg (by omega) hi (by omega) zHO (by omega) (by omega)) wv_RX12_336_yX12_straightOn dX12_byWhom_59 sh_81 rfl (by decide) rfl rfl (Nat.le_of_ble_eq_true rfl) ⟨Nat.zero_le _, Nat.zero_le _⟩ (fun r5 h5 q5 => ?_)
              obtain ⟨rfl, F5, fr5, q5_0⟩ := q5
              have r82_6 : h5 82 = s := (fr5 _ (by decide)).trans q82hg
              have r85_6 : h5 85 = er := (fr5 _ (by decide)).trans q85hg
              have fr6 : mh_fr [81, 86, 87] h h5 := (mh_fr.tr frhg fr5).mono (by simp)
              obtain ⟨on, eon⟩ : ∃ z : Int → Int, z = sp_on s t2 k c := ⟨_, rfl⟩
              rw [← eon] at q5_0
              have on17 : on 17 = t2 17 + 1 := by rw [eon]; exact hon.2.1
              refine mh_goto (pc := 62) (tgt := 46) F dX12_byWhom_62 rfl ?_
              exact ihL46 _ (by omega) h5 on F5 (fr6.mono (by simp)) r82_6 r85_6 q5_0 (by rw [eon]; exact hto2.tr sp_o4_on) (by rw [eon]; exact hon.1) (by rw [eon, hon.2.1]; omega) (by rw [eon, hon.2.1, hon.2.2]; omega) (by rw [hval, show (9 - t2 17).toNat = (9 - (t2 17 + 1)).toNat + 1 by omega, eon, hon.2.1]; rfl) rfl
          exact L46 _ h3 b0 F3 (fr4.mono (by simp)) r82_4 r85_4 q3_0 hb4 hbo (by rw [b17]; omega) (by rw [b17, b18]; omega) (by rw [b17]; rfl) rfl
      exact L32 _ 0 0 h o hF (mh_fr.rf.mono (by simp)) r82 r85 r81 (by omega) sp_o4.rf rfl rfl
    · refine mh_aload0 (pc := 20) F dX12_byWhom_20 ?_
      refine mh_iconst (pc := 21) F dX12_byWhom_21 ?_
      refine mh_callV0 (pc := 22) (As := [.int (Int32.ofInt (1))]) (st := []) F (by omega) (k_error (by omega) hF r85 (by omega)) wv_RX12_114_yX12_error dX12_byWhom_22 sh_81 rfl (by decide) rfl rfl (Nat.le_of_ble_eq_true rfl) ⟨Nat.zero_le _, Nat.zero_le _⟩ (fun r7 h7 q7 => ?_)
      obtain ⟨rfl, F7, fr7, q7_0⟩ := q7
      have r82_8 : h7 82 = s := (fr7 _ (by decide)).trans r82
      have r81_8 : h7 81 = o := (fr7 _ (by decide)).trans r81
      have fr8 : mh_fr [85] h h7 := (mh_fr.tr mh_fr.rf fr7).mono (by simp)
      exact mh_ireturn F Z dX12_byWhom_25 ⟨_, _, _, (by unfold sp_byWhom; (repeat' split) <;> first | rfl | (exfalso; omega)), rfl, F7, (fr8.mono (by simp)), r82_8, q7_0, (by rw [r81_8]; exact sp_o4.rf)⟩

