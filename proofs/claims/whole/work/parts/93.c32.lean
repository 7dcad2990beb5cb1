/-! relays, told -/
theorem sc_prep {h2 : Nat → Int → Int} {s c : Int → Int} {k n : Int} (hn : 0 ≤ n ∧ n ≤ 60) (e3 : c 3 = s (41 + 9 * k + 2)) (e1 : c 1 - 3 = s (41 + 9 * k + 0)) (e2 : c 2 = s (41 + 9 * k + 1)) (e7 : c 7 = s (41 + 9 * k + 5)) (e8 : c 8 = s (41 + 9 * k + 6)) (ha0 : 0 ≤ s (41 + 9 * k + 2)) (P1 : h2 10 5 = n ∧ h2 10 7 = c 3 ∧ h2 10 8 = c 7 ∧ h2 10 9 = c 8 ∧ h2 10 10 = sp_turns (c 1 - 3) (c 2)) (P2 : 0 ≤ h2 10 6 ∧ h2 10 6 ≤ 60) (P3 : ∀ j, 0 ≤ j → j < 4 → h2 10 6 ≤ s (33 + 2 * j) ∧ h2 14 j = s (33 + 2 * j) ∧ h2 15 j = s (33 + 2 * j) * sp_jolts (c 1 - 3) (c 2) (s (33 + 2 * j + 1)))
    (P4 : ∀ b, c 3 ≤ b → b < 9 → h2 13 b = (if s (6 + 3 * b + 1) > 0 then 1 else 0) ∧ ∀ j, 0 ≤ j → j ≤ n → h2 12 (b * 61 + j) = sc_su s (c 1 - 3) (c 2) (s (6 + 3 * b + 0)) j.toNat) (P5 : ∀ j, c 3 * 732 ≤ j → j < 6588 → h2 11 j = 0) : sc_Rl h2 s (sp_wmc s k) k n (s (41 + 9 * k + 2)) ∧ sc_Rm h2 s k ∧ sc_MI (h2 11) s (sp_wmc s k) k n (s (41 + 9 * k + 2)) := by
  obtain ⟨p1, p2, p3, p4, p5⟩ := P1
  rw [e1, e2] at p5 P3 P4
  refine ⟨⟨p1, p2.trans e3, P2, P3, fun b b0 b1 => ?_⟩, ⟨p3.trans e7, p4.trans e8, p5⟩, ⟨fun j j0 j1 => by rw [P5 j (by omega) j1]; exact ⟨by decide, by decide⟩, fun a t x a0 a1 t0 t1 x0 x1 => Or.inl (sc_fv_0 (P5 _ (by omega) (by omega)))⟩⟩
  obtain ⟨q1, q2⟩ := P4 b (by omega) b1
  refine ⟨q1, fun j j0 j1 => ?_⟩
  rw [q2 j j0 j1, sc_su_ws, sp_wmc_ok s k b j (by omega) b1 j0 (by omega)]
theorem sc_Rm.fr {h h2 : Nat → Int → Int} {s : Int → Int} {k : Int} (H : sc_Rm h s k) (e : h2 10 = h 10) : sc_Rm h2 s k := by
  unfold sc_Rm at *; rw [e]; exact H
theorem sc_tw_or (v : Int) : (v = 1000000 ∧ sc_tw v = -1) ∨ (v ≠ 1000000 ∧ sc_tw v = v) := by
  unfold sc_tw; split <;> omega
theorem sc_stm0 {s : Int → Int} {k : Int} : s (41 + 9 * k + 8) ≠ 1 ∨ sp_stm s k = 3 := by
  unfold sp_stm
  by_cases z : s (41 + 9 * k + 8) = 1
  · rw [if_pos z]; exact Or.inr rfl
  · exact Or.inl z
set_option maxRecDepth 100000 in
set_option maxHeartbeats 2000000 in
theorem q_relays {g : mh_G} {d : Nat} (hd : 17 ≤ d) {h : Nat → Int → Int} (hF : mh_FX h) {s er : Int → Int} {k n w : Int} (hk : -2147483648 ≤ k ∧ k < 2147483648) (hn : -2147483648 ≤ n ∧ n < 2147483648) (hw : -2147483648 ≤ w ∧ w < 2147483648) (hi : sp_inv s) (hV : sc_V h s) (hE : sc_E h er) (hKN : sc_KN h) : mh_M g d yX11_relays cX11_relays 6 (some .int) 96 0 0 [.ref 0, .int (Int32.ofInt (k)), .int (Int32.ofInt (n)), .int (Int32.ofInt (w))] h (fun r h2 => ∃ (vv : Int) (ee : Int → Int), (vv, ee) = sp_relays k n w s er ∧ r = some (.int (Int32.ofInt vv)) ∧ mh_FX h2 ∧ mh_fr [10, 11, 12, 13, 14, 15, 36, 24] h h2 ∧ sc_E h2 ee) := by
  refine mh_M_of RX11 rfl (by decide +kernel) [some (.ref 0), some (.int (Int32.ofInt (k))), some (.int (Int32.ofInt (n))), some (.int (Int32.ofInt (w))), none, none] rfl (Nat.le_of_ble_eq_true rfl) (fun f F Z hn0 hR => ?_)
  have hm := hi.1
  have hq0 := hi.2.1
  have hh := hi.2.2.2.1
  obtain ⟨n6, n7, n8, n10, n14, n15⟩ := hV.2.2
  refine mh_aload0 (pc := 0) F dX11_relays_0 ?_
  refine mh_iload1 (pc := 1) F dX11_relays_1 ?_
  refine mh_callVp (pc := 2) (As := [.int (Int32.ofInt (k))]) (st := []) F (by omega) (k8_isChurn (by omega) hF (by omega) hV.2.2 (by omega)) wv_RX11_139_yX11_isChurn dX11_relays_2 sh_0 rfl (by decide) rfl rfl (Nat.le_of_ble_eq_true rfl) ⟨Nat.zero_le _, Nat.zero_le _⟩ ?_
  refine mh_ifb_eq (pc := 5) (tgt := 28) F dX11_relays_5 rfl (fun c_5 => ?_) (fun c_5 => ?_)
  · refine mh_aload0 (pc := 28) F dX11_relays_28 ?_
    refine mh_iconst (pc := 29) F dX11_relays_29 ?_
    refine mh_callV0 (pc := 30) (As := [.int (Int32.ofInt (1))]) (st := []) F (by omega) (k8_refuse (by omega) hF rfl (by decide)) wv_RX11_90_yX11_refuse dX11_relays_30 sh_0 rfl (by decide) rfl rfl (Nat.le_of_ble_eq_true rfl) ⟨Nat.zero_le _, Nat.zero_le _⟩ (fun r1 h1 q1 => ?_)
    obtain ⟨rfl, F1, fr1, q1_0⟩ := q1
    have fr2 : mh_fr [24] h h1 := (mh_fr.tr mh_fr.rf fr1).mono (by simp)
    have hVr : sc_V h1 s := sc_V_fr hV (fun a a1 a2 a3 a4 => fr1 a (by simp; omega))
    have hEr : sc_E h1 (mh_ur er 1 (er 1 + 1)) := hE.up (by decide) q1_0
    exact mh_ireturn F Z dX11_relays_33 ⟨_, _, (by unfold sp_relays; (repeat' split) <;> first | rfl | (exfalso; omega) | (rw [show sc_tw (sp_rel s (sp_wmc s k) k n) = sp_rel s (sp_wmc s k) k n by omega]; done)), rfl, F1, (fr2.mono (by simp)), hEr⟩
  · refine mh_iload2 (pc := 8) F dX11_relays_8 ?_
    refine mh_iconst (pc := 9) F dX11_relays_9 ?_
    refine mh_bipush (pc := 10) F dX11_relays_10 rfl ?_
    refine mh_callSp (pc := 12) (As := [.int (Int32.ofInt (n)), .int (Int32.ofInt (0)), .int (Int32.ofInt (60))]) (st := []) F (by omega) (k4_within (by omega) (by omega) (by omega) (by omega)) ws_RX11_82 dX11_relays_12 rfl rfl (Nat.le_of_ble_eq_true rfl) ⟨Nat.zero_le _, Nat.zero_le _⟩ ?_
    refine mh_ifb_eq (pc := 15) (tgt := 28) F dX11_relays_15 rfl (fun c_15 => ?_) (fun c_15 => ?_)
    · refine mh_aload0 (pc := 28) F dX11_relays_28 ?_
      refine mh_iconst (pc := 29) F dX11_relays_29 ?_
      refine mh_callV0 (pc := 30) (As := [.int (Int32.ofInt (1))]) (st := []) F (by omega) (k8_refuse (by omega) hF rfl (by decide)) wv_RX11_90_yX11_refuse dX11_relays_30 sh_0 rfl (by decide) rfl rfl (Nat.le_of_ble_eq_true rfl) ⟨Nat.zero_le _, Nat.zero_le _⟩ (fun r3 h3 q3 => ?_)
      obtain ⟨rfl, F3, fr3, q3_0⟩ := q3
      have fr4 : mh_fr [24] h h3 := (mh_fr.tr mh_fr.rf fr3).mono (by simp)
      have hVr : sc_V h3 s := sc_V_fr hV (fun a a1 a2 a3 a4 => fr3 a (by simp; omega))
      have hEr : sc_E h3 (mh_ur er 1 (er 1 + 1)) := hE.up (by decide) q3_0
      exact mh_ireturn F Z dX11_relays_33 ⟨_, _, (by unfold sp_relays; (repeat' split) <;> first | rfl | (exfalso; omega) | (rw [show sc_tw (sp_rel s (sp_wmc s k) k n) = sp_rel s (sp_wmc s k) k n by omega]; done)), rfl, F3, (fr4.mono (by simp)), hEr⟩
    · refine mh_iload3 (pc := 18) F dX11_relays_18 ?_
      refine mh_iconst (pc := 19) F dX11_relays_19 ?_
      refine mh_bipush (pc := 20) F dX11_relays_20 rfl ?_
      refine mh_callSp (pc := 22) (As := [.int (Int32.ofInt (w)), .int (Int32.ofInt (-1)), .int (Int32.ofInt (8))]) (st := []) F (by omega) (k4_within (by omega) (by omega) (by omega) (by omega)) ws_RX11_82 dX11_relays_22 rfl rfl (Nat.le_of_ble_eq_true rfl) ⟨Nat.zero_le _, Nat.zero_le _⟩ ?_
      refine mh_ifb_ne (pc := 25) (tgt := 34) F dX11_relays_25 rfl (fun c_25 => ?_) (fun c_25 => ?_)
      · refine mh_aload0 (pc := 34) F dX11_relays_34 ?_
        refine mh_getr (b := 25) (pc := 35) F sh_0 (by decide) fw_RX11_72_11 dX11_relays_35 rfl (fx_0_0 hF) ?_
        refine mh_getr (b := 31) (pc := 38) F sh_25 (by decide) fw_RX11_126_10 dX11_relays_38 rfl (fx_25_5 hF) ?_
        refine mh_iload1 (pc := 41) F dX11_relays_41 ?_
        have hkk : 0 ≤ k ∧ k < 6 := by omega
        have zAk := sc_Aj hkk
        have hcs : sc_is (h (44 + k.toNat)) (sp_row s k) k := hV.2.1 k hkk.1 hkk.2
        have hcr := hi.2.2.2.2.1 k hkk.1 hkk.2
        have hco := hcs.ok hcr
        obtain ⟨d0, d1, d2, d3, d4, d5, d6, d7, d8, d9⟩ := id hcs
        unfold sp_row at d1 d2 d3 d4 d5 d6 d7 d8 d9
        obtain ⟨c0, c1, c2, c3, c4, c5, c6, c7, c8, c9, c10, c11, c12, c13⟩ := id hcr
        unfold sp_row at c0 c1 c2 c3 c4 c5 c6 c7 c8 c9 c10 c11 c12 c13
        have hcA := zAk.rg
        have hstm := hcs.st
        have hs0 := sc_stm0 (s := s) (k := k)
        have hsr := sc_st_rg (h (44 + k.toNat))
        have hk6 : 0 ≤ k ∧ k < 6 := hkk
        have hn60 : 0 ≤ n ∧ n ≤ 60 := by omega
        refine mh_aaload (b := 44 + k.toNat) (pc := 42) F sh_31 (by decide) (by decide) (by omega) dX11_relays_42 (fx_31 hF (by omega)) ?_
        refine mh_astore4 (pc := 43) F dX11_relays_43 rfl (by decide) ?_
        refine mh_aload4 (pc := 45) F dX11_relays_45 ?_
        refine mh_callVp (pc := 47) (As := []) (st := []) F (by omega) (k0_standsSweet (by omega) hF rfl zAk hco) wv_RX11_224_yX0_standsSweet dX11_relays_47 zAk.sh rfl zAk.lt rfl rfl (Nat.le_of_ble_eq_true rfl) ⟨Nat.zero_le _, Nat.zero_le _⟩ ?_
        refine mh_ifb_ne (pc := 50) (tgt := 59) F dX11_relays_50 rfl (fun c_50 => ?_) (fun c_50 => ?_)
        · refine mh_aload0 (pc := 59) F dX11_relays_59 ?_
          refine mh_getr (b := 10) (pc := 60) F sh_0 (by decide) fw_RX11_45_11 dX11_relays_60 rfl (fx_0_5 hF) ?_
          refine mh_aload0 (pc := 63) F dX11_relays_63 ?_
          refine mh_getr (b := 25) (pc := 64) F sh_0 (by decide) fw_RX11_72_11 dX11_relays_64 rfl (fx_0_0 hF) ?_
          refine mh_aload4 (pc := 67) F dX11_relays_67 ?_
          refine mh_iload2 (pc := 69) F dX11_relays_69 ?_
          have zmay := sp_mayb hcr (by omega)
          have hwm := sp_wmr_of c1 (sp_wmc_ok s k)
          refine mh_callV0 (pc := 70) (As := [.ref 25, .ref (44 + k.toNat), .int (Int32.ofInt (n))]) (st := []) F (by omega) (k_prepare (by omega) hF rfl rfl rfl rfl rfl hkk hco (by omega) hV.1 hV.2.2 hh hq0 hn60) wv_RX11_227_yX6_prepare dX11_relays_70 sh_10 rfl (by decide) rfl rfl (Nat.le_of_ble_eq_true rfl) ⟨Nat.zero_le _, Nat.zero_le _⟩ (fun r5 h5 q5 => ?_)
          obtain ⟨rfl, F5, frp5, P1, P2, P3, P4, P5⟩ := q5
          have r44ktoNat_6 : h5 (44 + k.toNat) = h (44 + k.toNat) := (frp5 _ (by simp; omega)).trans rfl
          have fr6 : mh_fr [10, 11, 12, 13, 14, 15, 36] h h5 := (mh_fr.tr mh_fr.rf frp5).mono (by simp)
          obtain ⟨hRl, hRm, hMI⟩ := sc_prep hn60 (by omega) (by omega) (by omega) (by omega) (by omega) (by omega) P1 P2 P3 P4 P5
          refine mh_aload0 (pc := 73) F dX11_relays_73 ?_
          refine mh_getr (b := 10) (pc := 74) F sh_0 (by decide) fw_RX11_45_11 dX11_relays_74 rfl (fx_0_5 F5) ?_
          refine mh_callV0 (pc := 77) (As := []) (st := []) F (by omega) (k_town (s := s) (wm := sp_wmc s k) (by omega) F5 hk6 hi hn60 hwm zmay.2 zmay.1 hRl hRm hMI) wv_RX11_231_yX6_sourInTown dX11_relays_77 sh_10 rfl (by decide) rfl rfl (Nat.le_of_ble_eq_true rfl) ⟨Nat.zero_le _, Nat.zero_le _⟩ (fun r7 h7 q7 => ?_)
          obtain ⟨rfl, F7, frt7, zMI, znz, zmo⟩ := q7
          have r44ktoNat_8 : h7 (44 + k.toNat) = h (44 + k.toNat) := (frt7 _ (by simp; omega)).trans r44ktoNat_6
          have fr8 : mh_fr [10, 11, 12, 13, 14, 15, 36] h h7 := (mh_fr.tr fr6 frt7).mono (by simp)
          have hRl2 := hRl.fr (fun b hb => frt7 b (by simp; omega))
          have hRm2 := hRm.fr (frt7 10 (by simp))
          have hrr := sp_rel_rg hk6 hi hn60 zmay.1 hwm
          have htw := sc_tw_or (sp_rel s (sp_wmc s k) k n)
          have hVx : sc_V h7 s := sc_V_fr hV (fun a a1 a2 a3 a4 => fr8 a (by simp; omega))
          have hEx : sc_E h7 er := hE.of (fr8 24 (by simp))
          refine mh_istore5 (pc := 80) F dX11_relays_80 rfl (by decide) ?_
          refine mh_iload5 (pc := 82) F dX11_relays_82 ?_
          refine mh_if_lt (pc := 84) (tgt := 100) F dX11_relays_84 rfl (by omega) (fun c_84 => ?_) (fun c_84 => ?_)
          · refine mh_aload0 (pc := 100) F dX11_relays_100 ?_
            refine mh_iconst (pc := 101) F dX11_relays_101 ?_
            refine mh_callV0 (pc := 102) (As := [.int (Int32.ofInt (2))]) (st := []) F (by omega) (k8_refuse (by omega) F7 rfl (by decide)) wv_RX11_90_yX11_refuse dX11_relays_102 sh_0 rfl (by decide) rfl rfl (Nat.le_of_ble_eq_true rfl) ⟨Nat.zero_le _, Nat.zero_le _⟩ (fun r9 h9 q9 => ?_)
            obtain ⟨rfl, F9, fr9, q9_0⟩ := q9
            have r44ktoNat_10 : h9 (44 + k.toNat) = h (44 + k.toNat) := (fr9 _ (by simp; omega)).trans r44ktoNat_8
            have fr10 : mh_fr [24, 10, 11, 12, 13, 14, 15, 36] h h9 := (mh_fr.tr fr8 fr9).mono (by simp)
            have hVr : sc_V h9 s := sc_V_fr hVx (fun a a1 a2 a3 a4 => fr9 a (by simp; omega))
            have hEr : sc_E h9 (mh_ur er 2 (er 2 + 1)) := hEx.up (by decide) q9_0
            exact mh_ireturn F Z dX11_relays_105 ⟨_, _, (by unfold sp_relays; (repeat' split) <;> first | rfl | (exfalso; omega) | (rw [show sc_tw (sp_rel s (sp_wmc s k) k n) = sp_rel s (sp_wmc s k) k n by omega]; done)), rfl, F9, (fr10.mono (by simp)), hEr⟩
          · refine mh_iload3 (pc := 87) F dX11_relays_87 ?_
            refine mh_if_lt (pc := 88) (tgt := 106) F dX11_relays_88 rfl (by omega) (fun c_88 => ?_) (fun c_88 => ?_)
            · refine mh_iload3 (pc := 106) F dX11_relays_106 ?_
              refine mh_if_ge (pc := 107) (tgt := 115) F dX11_relays_107 rfl (by omega) (fun c_107 => ?_) (fun c_107 => ?_)
              · refine mh_aload0 (pc := 115) F dX11_relays_115 ?_
                refine mh_getr (b := 10) (pc := 116) F sh_0 (by decide) fw_RX11_45_11 dX11_relays_116 rfl (fx_0_5 F7) ?_
                refine mh_iload3 (pc := 119) F dX11_relays_119 ?_
                have zh0 := sc_wn_0 c1 hn60.1 ⟨c2.1, zmay.2⟩ c5.1 ⟨c6.1, zmay.1⟩ (show sp_rel s (sp_wmc s k) k n ≠ 1000000 by omega)
                refine mh_callVp (pc := 120) (As := [.int (Int32.ofInt (w))]) (st := []) F (by omega) (k_choice (by omega) F7 hk6 hi hn60 hwm zmay.2 zmay.1 hRl2 hRm2 zMI (by omega) zh0 znz) wv_RX11_234_yX6_choiceAt dX11_relays_120 sh_10 rfl (by decide) rfl rfl (Nat.le_of_ble_eq_true rfl) ⟨Nat.zero_le _, Nat.zero_le _⟩ ?_
                exact mh_ireturn F Z dX11_relays_123 ⟨_, _, (by unfold sp_relays; (repeat' split) <;> first | rfl | (exfalso; omega) | (rw [show sc_tw (sp_rel s (sp_wmc s k) k n) = sp_rel s (sp_wmc s k) k n by omega]; done)), rfl, F7, (fr8.mono (by simp)), hEx⟩
              · refine mh_iload5 (pc := 110) F dX11_relays_110 ?_
                refine mh_goto (pc := 112) (tgt := 123) F dX11_relays_112 rfl ?_
                exact mh_ireturn F Z dX11_relays_123 ⟨_, _, (by unfold sp_relays; (repeat' split) <;> first | rfl | (exfalso; omega) | (rw [show sc_tw (sp_rel s (sp_wmc s k) k n) = sp_rel s (sp_wmc s k) k n by omega]; done)), rfl, F7, (fr8.mono (by simp)), hEx⟩
            · refine mh_iload3 (pc := 91) F dX11_relays_91 ?_
              refine mh_aload4 (pc := 92) F dX11_relays_92 ?_
              refine mh_getir (pc := 94) F zAk.sh zAk.lt fw_RX11_169_0 dX11_relays_94 rfl r44ktoNat_8 ?_
              refine mh_top (y := s (41 + 9 * k + 2)) (mh_eqI (by omega)) ?_
              refine mh_icmp_ge (pc := 97) (tgt := 106) F dX11_relays_97 rfl (by omega) (by omega) (fun c_97 => ?_) (fun c_97 => ?_)
              · refine mh_iload3 (pc := 106) F dX11_relays_106 ?_
                refine mh_if_ge (pc := 107) (tgt := 115) F dX11_relays_107 rfl (by omega) (fun c_107 => ?_) (fun c_107 => ?_)
                · refine mh_aload0 (pc := 115) F dX11_relays_115 ?_
                  refine mh_getr (b := 10) (pc := 116) F sh_0 (by decide) fw_RX11_45_11 dX11_relays_116 rfl (fx_0_5 F7) ?_
                  refine mh_iload3 (pc := 119) F dX11_relays_119 ?_
                  have zh0 := sc_wn_0 c1 hn60.1 ⟨c2.1, zmay.2⟩ c5.1 ⟨c6.1, zmay.1⟩ (show sp_rel s (sp_wmc s k) k n ≠ 1000000 by omega)
                  refine mh_callVp (pc := 120) (As := [.int (Int32.ofInt (w))]) (st := []) F (by omega) (k_choice (by omega) F7 hk6 hi hn60 hwm zmay.2 zmay.1 hRl2 hRm2 zMI (by omega) zh0 znz) wv_RX11_234_yX6_choiceAt dX11_relays_120 sh_10 rfl (by decide) rfl rfl (Nat.le_of_ble_eq_true rfl) ⟨Nat.zero_le _, Nat.zero_le _⟩ ?_
                  exact mh_ireturn F Z dX11_relays_123 ⟨_, _, (by unfold sp_relays; (repeat' split) <;> first | rfl | (exfalso; omega) | (rw [show sc_tw (sp_rel s (sp_wmc s k) k n) = sp_rel s (sp_wmc s k) k n by omega]; done)), rfl, F7, (fr8.mono (by simp)), hEx⟩
                · refine mh_iload5 (pc := 110) F dX11_relays_110 ?_
                  refine mh_goto (pc := 112) (tgt := 123) F dX11_relays_112 rfl ?_
                  exact mh_ireturn F Z dX11_relays_123 ⟨_, _, (by unfold sp_relays; (repeat' split) <;> first | rfl | (exfalso; omega) | (rw [show sc_tw (sp_rel s (sp_wmc s k) k n) = sp_rel s (sp_wmc s k) k n by omega]; done)), rfl, F7, (fr8.mono (by simp)), hEx⟩
              · refine mh_aload0 (pc := 100) F dX11_relays_100 ?_
                refine mh_iconst (pc := 101) F dX11_relays_101 ?_
                refine mh_callV0 (pc := 102) (As := [.int (Int32.ofInt (2))]) (st := []) F (by omega) (k8_refuse (by omega) F7 rfl (by decide)) wv_RX11_90_yX11_refuse dX11_relays_102 sh_0 rfl (by decide) rfl rfl (Nat.le_of_ble_eq_true rfl) ⟨Nat.zero_le _, Nat.zero_le _⟩ (fun r11 h11 q11 => ?_)
                obtain ⟨rfl, F11, fr11, q11_0⟩ := q11
                have r44ktoNat_12 : h11 (44 + k.toNat) = h (44 + k.toNat) := (fr11 _ (by simp; omega)).trans r44ktoNat_8
                have fr12 : mh_fr [24, 10, 11, 12, 13, 14, 15, 36] h h11 := (mh_fr.tr fr8 fr11).mono (by simp)
                have hVr : sc_V h11 s := sc_V_fr hVx (fun a a1 a2 a3 a4 => fr11 a (by simp; omega))
                have hEr : sc_E h11 (mh_ur er 2 (er 2 + 1)) := hEx.up (by decide) q11_0
                exact mh_ireturn F Z dX11_relays_105 ⟨_, _, (by unfold sp_relays; (repeat' split) <;> first | rfl | (exfalso; omega) | (rw [show sc_tw (sp_rel s (sp_wmc s k) k n) = sp_rel s (sp_wmc s k) k n by omega]; done)), rfl, F11, (fr12.mono (by simp)), hEr⟩
        · refine mh_aload0 (pc := 53) F dX11_relays_53 ?_
          refine mh_iconst (pc := 54) F dX11_relays_54 ?_
          refine mh_callV0 (pc := 55) (As := [.int (Int32.ofInt (3))]) (st := []) F (by omega) (k8_refuse (by omega) hF rfl (by decide)) wv_RX11_90_yX11_refuse dX11_relays_55 sh_0 rfl (by decide) rfl rfl (Nat.le_of_ble_eq_true rfl) ⟨Nat.zero_le _, Nat.zero_le _⟩ (fun r13 h13 q13 => ?_)
          obtain ⟨rfl, F13, fr13, q13_0⟩ := q13
          have r44ktoNat_14 : h13 (44 + k.toNat) = h (44 + k.toNat) := (fr13 _ (by simp; omega)).trans rfl
          have fr14 : mh_fr [24] h h13 := (mh_fr.tr mh_fr.rf fr13).mono (by simp)
          have hVr : sc_V h13 s := sc_V_fr hV (fun a a1 a2 a3 a4 => fr13 a (by simp; omega))
          have hEr : sc_E h13 (mh_ur er 3 (er 3 + 1)) := hE.up (by decide) q13_0
          exact mh_ireturn F Z dX11_relays_58 ⟨_, _, (by unfold sp_relays; (repeat' split) <;> first | rfl | (exfalso; omega) | (rw [show sc_tw (sp_rel s (sp_wmc s k) k n) = sp_rel s (sp_wmc s k) k n by omega]; done)), rfl, F13, (fr14.mono (by simp)), hEr⟩
      · refine mh_aload0 (pc := 28) F dX11_relays_28 ?_
        refine mh_iconst (pc := 29) F dX11_relays_29 ?_
        refine mh_callV0 (pc := 30) (As := [.int (Int32.ofInt (1))]) (st := []) F (by omega) (k8_refuse (by omega) hF rfl (by decide)) wv_RX11_90_yX11_refuse dX11_relays_30 sh_0 rfl (by decide) rfl rfl (Nat.le_of_ble_eq_true rfl) ⟨Nat.zero_le _, Nat.zero_le _⟩ (fun r15 h15 q15 => ?_)
        obtain ⟨rfl, F15, fr15, q15_0⟩ := q15
        have fr16 : mh_fr [24] h h15 := (mh_fr.tr mh_fr.rf fr15).mono (by simp)
        have hVr : sc_V h15 s := sc_V_fr hV (fun a a1 a2 a3 a4 => fr15 a (by simp; omega))
        have hEr : sc_E h15 (mh_ur er 1 (er 1 + 1)) := hE.up (by decide) q15_0
        exact mh_ireturn F Z dX11_relays_33 ⟨_, _, (by unfold sp_relays; (repeat' split) <;> first | rfl | (exfalso; omega) | (rw [show sc_tw (sp_rel s (sp_wmc s k) k n) = sp_rel s (sp_wmc s k) k n by omega]; done)), rfl, F15, (fr16.mono (by simp)), hEr⟩

