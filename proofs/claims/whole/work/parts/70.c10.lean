/-! still more of the class's public acts -/
def sc_X (h : Nat → Int → Int) (s : Int → Int) : Prop := (∀ i, 0 ≤ i → i < s 4 → mh_and (h 32 i) 255 = s (197 + i)) ∧ (∀ i, 0 ≤ i → i < s 5 → h 43 i = s (247 + i))
theorem sc_is_new {c s : Int → Int} {k : Int} (h : sc_is c (sp_row s k) k) : sc_is (sc_new c) (sp_row (sp_anew s k) k) k := by
  obtain ⟨a0, a1, a2, a3, a4, a5, a6, a7, a8, a9⟩ := h
  unfold sp_row at a1 a2
  unfold sc_is sp_row sc_new sp_anew
  refine ⟨?_, ?_, ?_, ?_, ?_, ?_, ?_, ?_, ?_, ?_⟩
  · rw [if_neg (by decide)]; exact a0
  · rw [if_neg (by decide), if_neg (by omega)]; exact a1
  · rw [if_neg (by decide), if_neg (by omega)]; exact a2
  · rw [if_pos (by decide), if_neg (by decide), if_pos (by omega)]
  · rw [if_pos (by decide), if_neg (by decide), if_pos (by omega)]
  · rw [if_pos (by decide), if_neg (by decide), if_pos (by omega)]
  · rw [if_pos (by decide), if_pos rfl, show (if 41 + 9 * k + 2 ≤ 41 + 9 * k + 3 ∧ 41 + 9 * k + 3 ≤ 41 + 9 * k + 8 then (0 : Int) else s (41 + 9 * k + 3)) = 0 from if_pos (by omega), if_neg (by decide)]
  · rw [if_pos (by decide), if_neg (by decide), if_pos (by omega)]
  · rw [if_pos (by decide), if_neg (by decide), if_pos (by omega)]
  · rw [if_pos (by decide), if_neg (by decide), if_pos (by omega)]
theorem sc_V_draw {h h2 : Nat → Int → Int} {t : Int → Int} (hV : sc_V h t) (e1 : h2 25 = mh_ur (h 25) 15 (sp_wr (h 25 15 * 1103515245 + 12345))) (e2 : ∀ a, a ≠ 25 → h2 a = h a) : sc_V h2 (sp_draw t) := by
  unfold sp_draw
  rw [← hV.2.2.2.2.2.2.2]
  exact sc_V_w hV (by omega) e1 e2
/-- a churn comes new -/
theorem sc_V_churn {h h2 : Nat → Int → Int} {s : Int → Int} {a b : Int} (hV : sc_V h s) (hm : 0 ≤ s 3 ∧ s 3 < 6) (e1 : h2 25 = mh_ur (h 25) 6 (s 3 + 1)) (e2 : h2 (44 + (s 3).toNat) = sc_new (mh_ur (mh_ur (h (44 + (s 3).toNat)) 1 (a + 3)) 2 b)) (e3 : ∀ x, x ≠ 25 → x ≠ 44 + (s 3).toNat → h2 x = h x) : sc_V h2 (sp_anew (mh_ur (mh_ur (mh_ur s 3 (s 3 + 1)) (41 + 9 * s 3 + 0) a) (41 + 9 * s 3 + 1) b) (s 3)) := by
  obtain ⟨h1, q1⟩ : ∃ h1 : Nat → Int → Int, h1 = mh_up h 25 6 (s 3 + 1) := ⟨_, rfl⟩
  have v1 : sc_V h1 (mh_ur s 3 (s 3 + 1)) := sc_V_w (z := 6) hV (by omega) (by rw [q1, mh_up_rs]) (fun a ha => by rw [q1, mh_up_row ha])
  have hs := hV.2.1 (s 3) hm.1 hm.2
  change sc_is (h (44 + (s 3).toNat)) _ _ at hs
  refine sc_V_ch (k := s 3) hm v1 ?_ (fun i hi => ?_) (fun x x1 x2 x3 x4 x5 => ?_)
  · rw [e2]
    refine sc_is_new ?_
    obtain ⟨a0, a1, a2, a3, a4, a5, a6, a7, a8, a9⟩ := hs
    unfold sp_row at a1 a2 a3 a4 a5 a6 a7 a8 a9
    unfold sc_is sp_row
    refine ⟨?_, ?_, ?_, ?_, ?_, ?_, ?_, ?_, ?_, ?_⟩ <;> (repeat (first | rw [mh_ur_ne (by omega)] | rw [mh_ur_eq (by omega)])) <;> first | assumption | omega
  · unfold sp_anew
    rw [if_neg (by omega), mh_ur_ne (by omega), mh_ur_ne (by omega)]
  · by_cases z : x = 25
    · subst z; rw [e1, q1, mh_up_rs]
    · rw [e3 x z x5, q1, mh_up_row z]
theorem sp_takes_eq {s : Int → Int} {v : Int} : sp_takes s v = mh_ur s 1 (sp_held (s 1 + v) (-99999) 99999) := rfl
set_option maxRecDepth 100000 in
set_option maxHeartbeats 2000000 in
theorem q_giveUp {g : mh_G} {d : Nat} (hd : 16 ≤ d) {h : Nat → Int → Int} (hF : mh_FX h) {s er : Int → Int} {k : Int} (hk : -2147483648 ≤ k ∧ k < 2147483648) (hi : sp_inv s) (hV : sc_V h s) (hE : sc_E h er) (hKN : sc_KN h) : mh_M g d yX11_giveUp cX11_giveUp 4 (some .int) 96 0 0 [.ref 0, .int (Int32.ofInt (k))] h (fun r h2 => ∃ (vv : Int) (tt ee : Int → Int), (vv, tt, ee) = sp_giveUp k s er ∧ r = some (.int (Int32.ofInt vv)) ∧ mh_FX h2 ∧ mh_fr [25, 36, 41, 44, 45, 46, 47, 48, 49, 24] h h2 ∧ sc_V h2 tt ∧ sc_E h2 ee) := by
  refine mh_M_of RX11 rfl (by decide +kernel) [some (.ref 0), some (.int (Int32.ofInt (k))), none, none] rfl (Nat.le_of_ble_eq_true rfl) (fun f F Z hn0 hR => ?_)
  have hm := hi.1
  have hq0 := hi.2.1
  have hs1 := hi.2.2.1
  have hh := hi.2.2.2.1
  obtain ⟨n6, n7, n8, n10, n14, n15⟩ := hV.2.2
  refine mh_aload0 (pc := 0) F dX11_giveUp_0 ?_
  refine mh_iload1 (pc := 1) F dX11_giveUp_1 ?_
  refine mh_callVp (pc := 2) (As := [.int (Int32.ofInt (k))]) (st := []) F (by omega) (k8_isChurn (by omega) hF (by omega) hV.2.2 (by omega)) wv_RX11_139_yX11_isChurn dX11_giveUp_2 sh_0 rfl (by decide) rfl rfl (Nat.le_of_ble_eq_true rfl) ⟨Nat.zero_le _, Nat.zero_le _⟩ ?_
  refine mh_ifb_ne (pc := 5) (tgt := 14) F dX11_giveUp_5 rfl (fun c_5 => ?_) (fun c_5 => ?_)
  · have hkk : 0 ≤ k ∧ k < 6 := by omega
    have zAk := sc_Aj hkk
    have hcs : sc_is (h (44 + k.toNat)) (sp_row s k) k := hV.2.1 k hkk.1 hkk.2
    have hcr := hi.2.2.2.2.1 k hkk.1 hkk.2
    have hco := hcs.ok hcr
    obtain ⟨d0, d1, d2, d3, d4, d5, d6, d7, d8, d9⟩ := id hcs
    unfold sp_row at d1 d2 d3 d4 d5 d6 d7 d8 d9
    obtain ⟨c0, c1, c2, c3, c4, c5, c6, c7, c8, c9, c10, c11, c12, c13⟩ := id hcr
    unfold sp_row at c0 c1 c2 c3 c4 c5 c6 c7 c8 c9 c10 c11 c12 c13
    have hcA := zAk.rg
    refine mh_aload0 (pc := 14) F dX11_giveUp_14 ?_
    refine mh_getr (b := 25) (pc := 15) F sh_0 (by decide) fw_RX11_72_11 dX11_giveUp_15 rfl (fx_0_0 hF) ?_
    refine mh_getr (b := 31) (pc := 18) F sh_25 (by decide) fw_RX11_126_10 dX11_giveUp_18 rfl (fx_25_5 hF) ?_
    refine mh_iload1 (pc := 21) F dX11_giveUp_21 ?_
    refine mh_aaload (b := 44 + (k).toNat) (pc := 22) F sh_31 (by decide) (by decide) (by omega) dX11_giveUp_22 (fx_31 hF (by omega)) ?_
    refine mh_astore2 (pc := 23) F dX11_giveUp_23 rfl (by decide) ?_
    refine mh_aload2 (pc := 24) F dX11_giveUp_24 ?_
    refine mh_callVp (pc := 25) (As := []) (st := []) F (by omega) (k0_stands (by omega) hF rfl zAk hco) wv_RX11_151_yX0_stands dX11_giveUp_25 zAk.sh rfl zAk.lt rfl rfl (Nat.le_of_ble_eq_true rfl) ⟨Nat.zero_le _, Nat.zero_le _⟩ ?_
    refine mh_ifb_ne (pc := 28) (tgt := 37) F dX11_giveUp_28 rfl (fun c_28 => ?_) (fun c_28 => ?_)
    · have hch := sp_cheese_rg (s := s) (a := s (41 + 9 * k + 2)) (x := s (41 + 9 * k + 5)) (hh.1 (s (41 + 9 * k + 2)) (by omega) (by omega)).2.2 c5
      refine mh_aload0 (pc := 37) F dX11_giveUp_37 ?_
      refine mh_getr (b := 25) (pc := 38) F sh_0 (by decide) fw_RX11_72_11 dX11_giveUp_38 rfl (fx_0_0 hF) ?_
      refine mh_aload2 (pc := 41) F dX11_giveUp_41 ?_
      refine mh_callVp (pc := 42) (As := [.ref (44 + (k).toNat)]) (st := []) F (by omega) (k4_cheese (by omega) hF rfl zAk hco hV.1 hh) wv_RX11_175_yX10_cheesePrice dX11_giveUp_42 sh_25 rfl (by decide) rfl rfl (Nat.le_of_ble_eq_true rfl) ⟨Nat.zero_le _, Nat.zero_le _⟩ ?_
      refine mh_top (y := sp_cheese s (s (41 + 9 * k + 2)) (s (41 + 9 * k + 5))) (mh_eqI (by rw [if_pos (by omega), d3, d7])) ?_
      refine mh_istore3 (pc := 45) F dX11_giveUp_45 rfl (by decide) ?_
      refine mh_aload2 (pc := 46) F dX11_giveUp_46 ?_
      refine mh_iconst (pc := 47) F dX11_giveUp_47 ?_
      refine mh_puti (pc := 48) F zAk.sh zAk.lt pw_RX11_162_0 dX11_giveUp_48 ?_
      refine mh_nmh (fun h1 e1 => ?_)
      have F1 : mh_FX h1 := by rw [e1]; exact hF.ups zAk.fx
      have fr1 : mh_fr [44 + (k).toNat] h h1 := mh_fr.up mh_fr.rf e1
      refine mh_aload2 (pc := 51) F dX11_giveUp_51 ?_
      refine mh_iconst (pc := 52) F dX11_giveUp_52 ?_
      refine mh_putz (pc := 53) F zAk.sh zAk.lt pw_RX11_165_0 dX11_giveUp_53 (by omega) ?_
      refine mh_nmh (fun h2 e2 => ?_)
      have F2 : mh_FX h2 := by rw [e2]; exact F1.ups zAk.fx
      have fr2 : mh_fr [44 + (k).toNat] h h2 := mh_fr.upi fr1 e2 (by simp)
      have hVn : sc_V h2 (mh_ur (mh_ur s (41 + 9 * k + 3) 0) (41 + 9 * k + 8) 1) := sc_V_ch hkk hV (by rw [e2, mh_up_rs, e1, mh_up_rs]; exact (by unfold sc_is sp_row; refine ⟨?_, ?_, ?_, ?_, ?_, ?_, ?_, ?_, ?_, ?_⟩ <;> (repeat (first | rw [mh_ur_ne (by omega)] | rw [mh_ur_eq (by omega)])) <;> first | assumption | rfl | omega | (rw [if_neg (by omega)]; omega) | (rw [if_pos (by omega)]; omega))) (fun i hi2 => by (repeat rw [mh_ur_ne (by omega)])) (fun a a1 a2 a3 a4 a5 => by rw [e2, mh_up_row a5, e1, mh_up_row a5])
      refine mh_aload0 (pc := 56) F dX11_giveUp_56 ?_
      refine mh_getr (b := 25) (pc := 57) F sh_0 (by decide) fw_RX11_72_11 dX11_giveUp_57 rfl (fx_0_0 F2) ?_
      refine mh_iload3 (pc := 60) F dX11_giveUp_60 ?_
      refine mh_callV0 (pc := 61) (As := [.int (Int32.ofInt (sp_cheese s (s (41 + 9 * k + 2)) (s (41 + 9 * k + 5))))]) (st := []) F (by omega) (k4_takeIn (by omega) F2 rfl (by omega) (by rw [(sc_V_gets hVn).2.2.1, mh_ur_ne (by omega), mh_ur_ne (by omega)]; exact hs1)) wv_RX11_179_yX10_takeIn dX11_giveUp_61 sh_25 rfl (by decide) rfl rfl (Nat.le_of_ble_eq_true rfl) ⟨Nat.zero_le _, Nat.zero_le _⟩ (fun r3 h3 q3 => ?_)
      obtain ⟨rfl, F3, frY, qY⟩ := q3
      have fr4 : mh_fr [25, 44 + (k).toNat] h h3 := (mh_fr.tr fr2 frY).mono (by simp)
      have hVt : sc_V h3 (sp_takes (mh_ur (mh_ur s (41 + 9 * k + 3) 0) (41 + 9 * k + 8) 1) (sp_cheese s (s (41 + 9 * k + 2)) (s (41 + 9 * k + 5)))) := sc_V_take hVn qY (fun a ha => frY a (by simp; omega))
      refine mh_iload3 (pc := 64) F dX11_giveUp_64 ?_
      exact mh_ireturn F Z dX11_giveUp_65 ⟨_, _, _, (by unfold sp_giveUp; (repeat' split) <;> first | rfl | (exfalso; omega)), rfl, F3, (fr4.mono (by intro a ha; simp at ha ⊢; omega)), hVt, (hE.of (fr4 24 (by simp; omega)))⟩
    · refine mh_aload0 (pc := 31) F dX11_giveUp_31 ?_
      refine mh_iconst (pc := 32) F dX11_giveUp_32 ?_
      refine mh_callV0 (pc := 33) (As := [.int (Int32.ofInt (3))]) (st := []) F (by omega) (k8_refuse (by omega) hF rfl (by decide)) wv_RX11_90_yX11_refuse dX11_giveUp_33 sh_0 rfl (by decide) rfl rfl (Nat.le_of_ble_eq_true rfl) ⟨Nat.zero_le _, Nat.zero_le _⟩ (fun r5 h5 q5 => ?_)
      obtain ⟨rfl, F5, fr5, q5_0⟩ := q5
      have fr6 : mh_fr [24] h h5 := (mh_fr.tr mh_fr.rf fr5).mono (by simp)
      have hVr : sc_V h5 s := sc_V_fr hV (fun a a1 a2 a3 a4 => fr5 a (by simp; omega))
      have hEr : sc_E h5 (mh_ur er 3 (er 3 + 1)) := hE.up (by decide) q5_0
      exact mh_ireturn F Z dX11_giveUp_36 ⟨_, _, _, (by unfold sp_giveUp; (repeat' split) <;> first | rfl | (exfalso; omega)), rfl, F5, (fr6.mono (by simp)), hVr, hEr⟩
  · refine mh_aload0 (pc := 8) F dX11_giveUp_8 ?_
    refine mh_iconst (pc := 9) F dX11_giveUp_9 ?_
    refine mh_callV0 (pc := 10) (As := [.int (Int32.ofInt (1))]) (st := []) F (by omega) (k8_refuse (by omega) hF rfl (by decide)) wv_RX11_90_yX11_refuse dX11_giveUp_10 sh_0 rfl (by decide) rfl rfl (Nat.le_of_ble_eq_true rfl) ⟨Nat.zero_le _, Nat.zero_le _⟩ (fun r7 h7 q7 => ?_)
    obtain ⟨rfl, F7, fr7, q7_0⟩ := q7
    have fr8 : mh_fr [24] h h7 := (mh_fr.tr mh_fr.rf fr7).mono (by simp)
    have hVr : sc_V h7 s := sc_V_fr hV (fun a a1 a2 a3 a4 => fr7 a (by simp; omega))
    have hEr : sc_E h7 (mh_ur er 1 (er 1 + 1)) := hE.up (by decide) q7_0
    exact mh_ireturn F Z dX11_giveUp_13 ⟨_, _, _, (by unfold sp_giveUp; (repeat' split) <;> first | rfl | (exfalso; omega)), rfl, F7, (fr8.mono (by simp)), hVr, hEr⟩

set_option maxRecDepth 100000 in
set_option maxHeartbeats 2000000 in
theorem q_refill {g : mh_G} {d : Nat} (hd : 16 ≤ d) {h : Nat → Int → Int} (hF : mh_FX h) {s er : Int → Int} {k : Int} (hk : -2147483648 ≤ k ∧ k < 2147483648) (hi : sp_inv s) (hV : sc_V h s) (hE : sc_E h er) (hKN : sc_KN h) : mh_M g d yX11_refill cX11_refill 3 (some .int) 96 0 0 [.ref 0, .int (Int32.ofInt (k))] h (fun r h2 => ∃ (vv : Int) (tt ee : Int → Int), (vv, tt, ee) = sp_refill k s er ∧ r = some (.int (Int32.ofInt vv)) ∧ mh_FX h2 ∧ mh_fr [25, 36, 41, 44, 45, 46, 47, 48, 49, 24] h h2 ∧ sc_V h2 tt ∧ sc_E h2 ee) := by
  refine mh_M_of RX11 rfl (by decide +kernel) [some (.ref 0), some (.int (Int32.ofInt (k))), none] rfl (Nat.le_of_ble_eq_true rfl) (fun f F Z hn0 hR => ?_)
  have hm := hi.1
  have hq0 := hi.2.1
  have hs1 := hi.2.2.1
  have hh := hi.2.2.2.1
  obtain ⟨n6, n7, n8, n10, n14, n15⟩ := hV.2.2
  refine mh_aload0 (pc := 0) F dX11_refill_0 ?_
  refine mh_iload1 (pc := 1) F dX11_refill_1 ?_
  refine mh_callVp (pc := 2) (As := [.int (Int32.ofInt (k))]) (st := []) F (by omega) (k8_isChurn (by omega) hF (by omega) hV.2.2 (by omega)) wv_RX11_139_yX11_isChurn dX11_refill_2 sh_0 rfl (by decide) rfl rfl (Nat.le_of_ble_eq_true rfl) ⟨Nat.zero_le _, Nat.zero_le _⟩ ?_
  refine mh_ifb_ne (pc := 5) (tgt := 14) F dX11_refill_5 rfl (fun c_5 => ?_) (fun c_5 => ?_)
  · have hkk : 0 ≤ k ∧ k < 6 := by omega
    have zAk := sc_Aj hkk
    have hcs : sc_is (h (44 + k.toNat)) (sp_row s k) k := hV.2.1 k hkk.1 hkk.2
    have hcr := hi.2.2.2.2.1 k hkk.1 hkk.2
    have hco := hcs.ok hcr
    obtain ⟨d0, d1, d2, d3, d4, d5, d6, d7, d8, d9⟩ := id hcs
    unfold sp_row at d1 d2 d3 d4 d5 d6 d7 d8 d9
    obtain ⟨c0, c1, c2, c3, c4, c5, c6, c7, c8, c9, c10, c11, c12, c13⟩ := id hcr
    unfold sp_row at c0 c1 c2 c3 c4 c5 c6 c7 c8 c9 c10 c11 c12 c13
    have hcA := zAk.rg
    refine mh_aload0 (pc := 14) F dX11_refill_14 ?_
    refine mh_getr (b := 25) (pc := 15) F sh_0 (by decide) fw_RX11_72_11 dX11_refill_15 rfl (fx_0_0 hF) ?_
    refine mh_getr (b := 31) (pc := 18) F sh_25 (by decide) fw_RX11_126_10 dX11_refill_18 rfl (fx_25_5 hF) ?_
    refine mh_iload1 (pc := 21) F dX11_refill_21 ?_
    refine mh_aaload (b := 44 + (k).toNat) (pc := 22) F sh_31 (by decide) (by decide) (by omega) dX11_refill_22 (fx_31 hF (by omega)) ?_
    refine mh_geti (pc := 23) F zAk.sh zAk.lt fw_RX11_162_0 dX11_refill_23 rfl ?_
    refine mh_istore2 (pc := 26) F dX11_refill_26 rfl (by decide) ?_
    refine mh_aload0 (pc := 27) F dX11_refill_27 ?_
    refine mh_getr (b := 25) (pc := 28) F sh_0 (by decide) fw_RX11_72_11 dX11_refill_28 rfl (fx_0_0 hF) ?_
    refine mh_getr (b := 31) (pc := 31) F sh_25 (by decide) fw_RX11_126_10 dX11_refill_31 rfl (fx_25_5 hF) ?_
    refine mh_iload1 (pc := 34) F dX11_refill_34 ?_
    refine mh_aaload (b := 44 + (k).toNat) (pc := 35) F sh_31 (by decide) (by decide) (by omega) dX11_refill_35 (fx_31 hF (by omega)) ?_
    refine mh_callV0 (pc := 36) (As := []) (st := []) F (by omega) (k0_renew (by omega) hF rfl zAk hco) wv_RX11_136_yX0_renew dX11_refill_36 zAk.sh rfl zAk.lt rfl rfl (Nat.le_of_ble_eq_true rfl) ⟨Nat.zero_le _, Nat.zero_le _⟩ (fun r1 h1 q1 => ?_)
    obtain ⟨rfl, F1, frp, qA⟩ := q1
    have frS : mh_fr [25, 36, 41, 44, 45, 46, 47, 48, 49] h h1 := frp.mono (by intro a ha; simp at ha ⊢; omega)
    have fr2 : mh_fr [25, 36, 41, 44, 45, 46, 47, 48, 49] h h1 := (mh_fr.tr mh_fr.rf frS).mono (by simp)
    have hVn : sc_V h1 (sp_anew s k) := sc_V_ch hkk hV (by rw [qA]; exact sc_is_new hcs) (fun i hi2 => if_neg (by omega)) (fun a a1 a2 a3 a4 a5 => frp a (by simp; omega))
    refine mh_iload2 (pc := 39) F dX11_refill_39 ?_
    refine mh_top (y := s (41 + 9 * k + 3)) (mh_eqI d4) ?_
    exact mh_ireturn F Z dX11_refill_40 ⟨_, _, _, (by unfold sp_refill; (repeat' split) <;> first | rfl | (exfalso; omega)), rfl, F1, (fr2.mono (by simp)), hVn, (hE.of (fr2 24 (by simp)))⟩
  · refine mh_aload0 (pc := 8) F dX11_refill_8 ?_
    refine mh_iconst (pc := 9) F dX11_refill_9 ?_
    refine mh_callV0 (pc := 10) (As := [.int (Int32.ofInt (1))]) (st := []) F (by omega) (k8_refuse (by omega) hF rfl (by decide)) wv_RX11_90_yX11_refuse dX11_refill_10 sh_0 rfl (by decide) rfl rfl (Nat.le_of_ble_eq_true rfl) ⟨Nat.zero_le _, Nat.zero_le _⟩ (fun r3 h3 q3 => ?_)
    obtain ⟨rfl, F3, fr3, q3_0⟩ := q3
    have fr4 : mh_fr [24] h h3 := (mh_fr.tr mh_fr.rf fr3).mono (by simp)
    have hVr : sc_V h3 s := sc_V_fr hV (fun a a1 a2 a3 a4 => fr3 a (by simp; omega))
    have hEr : sc_E h3 (mh_ur er 1 (er 1 + 1)) := hE.up (by decide) q3_0
    exact mh_ireturn F Z dX11_refill_13 ⟨_, _, _, (by unfold sp_refill; (repeat' split) <;> first | rfl | (exfalso; omega)), rfl, F3, (fr4.mono (by simp)), hVr, hEr⟩

set_option maxRecDepth 100000 in
set_option maxHeartbeats 2000000 in
theorem q_churn {g : mh_G} {d : Nat} (hd : 16 ≤ d) {h : Nat → Int → Int} (hF : mh_FX h) {s er : Int → Int} {x : Int} (hx : -2147483648 ≤ x ∧ x < 2147483648) (hi : sp_inv s) (hV : sc_V h s) (hE : sc_E h er) (hKN : sc_KN h) : mh_M g d yX11_churn cX11_churn 3 (some .int) 96 0 0 [.ref 0, .int (Int32.ofInt (x))] h (fun r h2 => ∃ (vv : Int) (tt ee : Int → Int), (vv, tt, ee) = sp_churn x s er ∧ r = some (.int (Int32.ofInt vv)) ∧ mh_FX h2 ∧ mh_fr [25, 36, 41, 44, 45, 46, 47, 48, 49, 24] h h2 ∧ sc_V h2 tt ∧ sc_E h2 ee) := by
  refine mh_M_of RX11 rfl (by decide +kernel) [some (.ref 0), some (.int (Int32.ofInt (x))), none] rfl (Nat.le_of_ble_eq_true rfl) (fun f F Z hn0 hR => ?_)
  have hm := hi.1
  have hq0 := hi.2.1
  have hs1 := hi.2.2.1
  have hh := hi.2.2.2.1
  obtain ⟨n6, n7, n8, n10, n14, n15⟩ := hV.2.2
  refine mh_iload1 (pc := 0) F dX11_churn_0 ?_
  refine mh_iconst (pc := 1) F dX11_churn_1 ?_
  refine mh_bipush (pc := 2) F dX11_churn_2 rfl ?_
  refine mh_callSp (pc := 4) (As := [.int (Int32.ofInt (x)), .int (Int32.ofInt (0)), .int (Int32.ofInt (69))]) (st := []) F (by omega) (k4_within (by omega) (by omega) (by omega) (by omega)) ws_RX11_82 dX11_churn_4 rfl rfl (Nat.le_of_ble_eq_true rfl) ⟨Nat.zero_le _, Nat.zero_le _⟩ ?_
  refine mh_ifb_ne (pc := 7) (tgt := 16) F dX11_churn_7 rfl (fun c_7 => ?_) (fun c_7 => ?_)
  · refine mh_aload0 (pc := 16) F dX11_churn_16 ?_
    refine mh_getr (b := 25) (pc := 17) F sh_0 (by decide) fw_RX11_72_11 dX11_churn_17 rfl (fx_0_0 hF) ?_
    refine mh_geti (pc := 20) F sh_25 (by decide) fw_RX11_123_10 dX11_churn_20 rfl ?_
    refine mh_bipush (pc := 23) F dX11_churn_23 rfl ?_
    refine mh_icmp_lt (pc := 25) (tgt := 34) F dX11_churn_25 rfl (by omega) (by omega) (fun c_25 => ?_) (fun c_25 => ?_)
    · have hkk : 0 ≤ s 3 ∧ s 3 < 6 := by omega
      have zAk := sc_Aj hkk
      have hcs : sc_is (h (44 + (s 3).toNat)) (sp_row s (s 3)) (s 3) := hV.2.1 (s 3) hkk.1 hkk.2
      have hcr := hi.2.2.2.2.1 (s 3) hkk.1 hkk.2
      have hco := hcs.ok hcr
      have hcA := zAk.rg
      have hx10 := mh_tdivb (v := x) (k := 10) (by omega) (by decide)
      have hxm : x.tmod 10 = x % 10 := Int.tmod_eq_emod_of_nonneg (by omega)
      refine mh_aload0 (pc := 34) F dX11_churn_34 ?_
      refine mh_getr (b := 25) (pc := 35) F sh_0 (by decide) fw_RX11_72_11 dX11_churn_35 rfl (fx_0_0 hF) ?_
      refine mh_geti (pc := 38) F sh_25 (by decide) fw_RX11_123_10 dX11_churn_38 rfl ?_
      refine mh_top (y := s 3) (mh_eqI n6) ?_
      refine mh_istore2 (pc := 41) F dX11_churn_41 rfl (by decide) ?_
      refine mh_aload0 (pc := 42) F dX11_churn_42 ?_
      refine mh_getr (b := 25) (pc := 43) F sh_0 (by decide) fw_RX11_72_11 dX11_churn_43 rfl (fx_0_0 hF) ?_
      refine mh_dup (pc := 46) F dX11_churn_46 rfl ?_
      refine mh_geti (pc := 47) F sh_25 (by decide) fw_RX11_123_10 dX11_churn_47 rfl ?_
      refine mh_iconst (pc := 50) F dX11_churn_50 ?_
      refine mh_iadd (pc := 51) F dX11_churn_51 ?_
      refine mh_puti (pc := 52) F sh_25 (by decide) pw_RX11_123_10 dX11_churn_52 ?_
      refine mh_nmh (fun h1 e1 => ?_)
      have F1 : mh_FX h1 := by rw [e1]; exact hF.upz rfl
      have fr1 : mh_fr [25] h h1 := mh_fr.up mh_fr.rf e1
      refine mh_aload0 (pc := 55) F dX11_churn_55 ?_
      refine mh_getr (b := 25) (pc := 56) F sh_0 (by decide) fw_RX11_72_11 dX11_churn_56 rfl (fx_0_0 F1) ?_
      refine mh_getr (b := 31) (pc := 59) F sh_25 (by decide) fw_RX11_126_10 dX11_churn_59 rfl (fx_25_5 F1) ?_
      refine mh_iload2 (pc := 62) F dX11_churn_62 ?_
      refine mh_aaload (b := 44 + (s 3).toNat) (pc := 63) F sh_31 (by decide) (by decide) (by omega) dX11_churn_63 (fx_31 F1 hkk) ?_
      refine mh_aload0 (pc := 64) F dX11_churn_64 ?_
      refine mh_getr (b := 1) (pc := 65) F sh_0 (by decide) fw_RX11_30_11 dX11_churn_65 rfl (fx_0_3 F1) ?_
      refine mh_iload1 (pc := 68) F dX11_churn_68 ?_
      refine mh_bipush (pc := 69) F dX11_churn_69 rfl ?_
      refine mh_idiv (pc := 71) F dX11_churn_71 (by omega) (by omega) (by omega) ?_
      refine mh_aaload (b := 2 + (x.tdiv 10).toNat) (pc := 72) F sh_1 (by decide) (by decide) (by omega) dX11_churn_72 (fx_1 F1 (by omega)) ?_
      refine mh_putr (pc := 73) F zAk.sh zAk.lt pw_RX11_129_0 dX11_churn_73 rfl ?_
      refine mh_nmh (fun h2 e2 => ?_)
      have F2 : mh_FX h2 := by rw [e2]; exact F1.ups zAk.fx
      have fr2 : mh_fr [44 + (s 3).toNat, 25] h h2 := mh_fr.up fr1 e2
      refine mh_aload0 (pc := 76) F dX11_churn_76 ?_
      refine mh_getr (b := 25) (pc := 77) F sh_0 (by decide) fw_RX11_72_11 dX11_churn_77 rfl (fx_0_0 F2) ?_
      refine mh_getr (b := 31) (pc := 80) F sh_25 (by decide) fw_RX11_126_10 dX11_churn_80 rfl (fx_25_5 F2) ?_
      refine mh_iload2 (pc := 83) F dX11_churn_83 ?_
      refine mh_aaload (b := 44 + (s 3).toNat) (pc := 84) F sh_31 (by decide) (by decide) (by omega) dX11_churn_84 (fx_31 F2 hkk) ?_
      refine mh_iload1 (pc := 85) F dX11_churn_85 ?_
      refine mh_bipush (pc := 86) F dX11_churn_86 rfl ?_
      refine mh_irem (pc := 88) F dX11_churn_88 (by omega) (by omega) (by omega) ?_
      refine mh_puti (pc := 89) F zAk.sh zAk.lt pw_RX11_133_0 dX11_churn_89 ?_
      refine mh_nmh (fun h3 e3 => ?_)
      have F3 : mh_FX h3 := by rw [e3]; exact F2.ups zAk.fx
      have fr3 : mh_fr [44 + (s 3).toNat, 25] h h3 := mh_fr.upi fr2 e3 (by simp)
      refine mh_aload0 (pc := 92) F dX11_churn_92 ?_
      refine mh_getr (b := 25) (pc := 93) F sh_0 (by decide) fw_RX11_72_11 dX11_churn_93 rfl (fx_0_0 F3) ?_
      refine mh_getr (b := 31) (pc := 96) F sh_25 (by decide) fw_RX11_126_10 dX11_churn_96 rfl (fx_25_5 F3) ?_
      refine mh_iload2 (pc := 99) F dX11_churn_99 ?_
      refine mh_aaload (b := 44 + (s 3).toNat) (pc := 100) F sh_31 (by decide) (by decide) (by omega) dX11_churn_100 (fx_31 F3 hkk) ?_
      refine mh_callV0 (pc := 101) (As := []) (st := []) F (by omega) (k0_renew (by omega) F3 rfl zAk (by rw [e3, mh_up_rs, e2, mh_up_rs, e1, mh_up_row (by omega)]; unfold sc_ok; obtain ⟨o1, o2, o3, o4, o5, o6, o7, o8, o9⟩ := id hco; (repeat (first | rw [mh_ur_ne (by decide)] | rw [mh_ur_eq rfl])); omega)) wv_RX11_136_yX0_renew dX11_churn_101 zAk.sh rfl zAk.lt rfl rfl (Nat.le_of_ble_eq_true rfl) ⟨Nat.zero_le _, Nat.zero_le _⟩ (fun r4 h4 q4 => ?_)
      obtain ⟨rfl, F4, frp, qA⟩ := q4
      have frS : mh_fr [25, 36, 41, 44, 45, 46, 47, 48, 49] h3 h4 := frp.mono (by intro a ha; simp at ha ⊢; omega)
      have fr5 : mh_fr [36, 41, 44, 45, 46, 47, 48, 49, 44 + (s 3).toNat, 25] h h4 := (mh_fr.tr fr3 frS).mono (by simp)
      have hVn : sc_V h4 (sp_anew (mh_ur (mh_ur (mh_ur s 3 (s 3 + 1)) (41 + 9 * s 3 + 0) (x.tdiv 10)) (41 + 9 * s 3 + 1) (x.tmod 10)) (s 3)) := sc_V_churn hV hkk (by rw [frp 25 (by simp; omega), e3, mh_up_row (by omega), e2, mh_up_row (by omega), e1, mh_up_rs, n6]) (by rw [qA, e3, mh_up_rs, e2, mh_up_rs, e1, mh_up_row (by omega), show ((2 + (x.tdiv 10).toNat : Nat) : Int) + 1 = x.tdiv 10 + 3 by omega]) (fun a a1 a2 => by rw [frp a (by simp; omega), e3, mh_up_row a2, e2, mh_up_row a2, e1, mh_up_row a1])
      refine mh_iload2 (pc := 104) F dX11_churn_104 ?_
      exact mh_ireturn F Z dX11_churn_105 ⟨_, _, _, (by unfold sp_churn; (repeat' split) <;> first | rfl | (exfalso; omega)), rfl, F4, (fr5.mono (by intro a ha; simp at ha ⊢; omega)), hVn, (hE.of (fr5 24 (by simp; omega)))⟩
    · refine mh_aload0 (pc := 28) F dX11_churn_28 ?_
      refine mh_iconst (pc := 29) F dX11_churn_29 ?_
      refine mh_callV0 (pc := 30) (As := [.int (Int32.ofInt (4))]) (st := []) F (by omega) (k8_refuse (by omega) hF rfl (by decide)) wv_RX11_90_yX11_refuse dX11_churn_30 sh_0 rfl (by decide) rfl rfl (Nat.le_of_ble_eq_true rfl) ⟨Nat.zero_le _, Nat.zero_le _⟩ (fun r6 h6 q6 => ?_)
      obtain ⟨rfl, F6, fr6, q6_0⟩ := q6
      have fr7 : mh_fr [24] h h6 := (mh_fr.tr mh_fr.rf fr6).mono (by simp)
      have hVr : sc_V h6 s := sc_V_fr hV (fun a a1 a2 a3 a4 => fr6 a (by simp; omega))
      have hEr : sc_E h6 (mh_ur er 4 (er 4 + 1)) := hE.up (by decide) q6_0
      exact mh_ireturn F Z dX11_churn_33 ⟨_, _, _, (by unfold sp_churn; (repeat' split) <;> first | rfl | (exfalso; omega)), rfl, F6, (fr7.mono (by simp)), hVr, hEr⟩
  · refine mh_aload0 (pc := 10) F dX11_churn_10 ?_
    refine mh_iconst (pc := 11) F dX11_churn_11 ?_
    refine mh_callV0 (pc := 12) (As := [.int (Int32.ofInt (1))]) (st := []) F (by omega) (k8_refuse (by omega) hF rfl (by decide)) wv_RX11_90_yX11_refuse dX11_churn_12 sh_0 rfl (by decide) rfl rfl (Nat.le_of_ble_eq_true rfl) ⟨Nat.zero_le _, Nat.zero_le _⟩ (fun r8 h8 q8 => ?_)
    obtain ⟨rfl, F8, fr8, q8_0⟩ := q8
    have fr9 : mh_fr [24] h h8 := (mh_fr.tr mh_fr.rf fr8).mono (by simp)
    have hVr : sc_V h8 s := sc_V_fr hV (fun a a1 a2 a3 a4 => fr8 a (by simp; omega))
    have hEr : sc_E h8 (mh_ur er 1 (er 1 + 1)) := hE.up (by decide) q8_0
    exact mh_ireturn F Z dX11_churn_15 ⟨_, _, _, (by unfold sp_churn; (repeat' split) <;> first | rfl | (exfalso; omega)), rfl, F8, (fr9.mono (by simp)), hVr, hEr⟩

set_option maxRecDepth 100000 in
set_option maxHeartbeats 2000000 in
theorem q_law {g : mh_G} {d : Nat} (hd : 16 ≤ d) {h : Nat → Int → Int} (hF : mh_FX h) {s er : Int → Int} {u a b c : Int} (hu : -2147483648 ≤ u ∧ u < 2147483648) (ha : -2147483648 ≤ a ∧ a < 2147483648) (hb : -2147483648 ≤ b ∧ b < 2147483648) (hc : -2147483648 ≤ c ∧ c < 2147483648) (hi : sp_inv s) (hV : sc_V h s) (hE : sc_E h er) (hKN : sc_KN h) : mh_M g d yX11_law cX11_law 5 (some .int) 96 0 0 [.ref 0, .int (Int32.ofInt (u)), .int (Int32.ofInt (a)), .int (Int32.ofInt (b)), .int (Int32.ofInt (c))] h (fun r h2 => ∃ (vv : Int) (tt ee : Int → Int), (vv, tt, ee) = sp_lawP u a b c s er ∧ r = some (.int (Int32.ofInt vv)) ∧ mh_FX h2 ∧ mh_fr [25, 36, 41, 44, 45, 46, 47, 48, 49, 24] h h2 ∧ sc_V h2 tt ∧ sc_E h2 ee) := by
  refine mh_M_of RX11 rfl (by decide +kernel) [some (.ref 0), some (.int (Int32.ofInt (u))), some (.int (Int32.ofInt (a))), some (.int (Int32.ofInt (b))), some (.int (Int32.ofInt (c)))] rfl (Nat.le_of_ble_eq_true rfl) (fun f F Z hn0 hR => ?_)
  have hm := hi.1
  have hq0 := hi.2.1
  have hs1 := hi.2.2.1
  have hh := hi.2.2.2.1
  obtain ⟨n6, n7, n8, n10, n14, n15⟩ := hV.2.2
  refine mh_iload1 (pc := 0) F dX11_law_0 ?_
  refine mh_iconst (pc := 1) F dX11_law_1 ?_
  refine mh_iconst (pc := 2) F dX11_law_2 ?_
  refine mh_callSp (pc := 3) (As := [.int (Int32.ofInt (u)), .int (Int32.ofInt (0)), .int (Int32.ofInt (1))]) (st := []) F (by omega) (k4_within (by omega) (by omega) (by omega) (by omega)) ws_RX11_82 dX11_law_3 rfl rfl (Nat.le_of_ble_eq_true rfl) ⟨Nat.zero_le _, Nat.zero_le _⟩ ?_
  refine mh_ifb_ne (pc := 6) (tgt := 15) F dX11_law_6 rfl (fun c_6 => ?_) (fun c_6 => ?_)
  · have hL := hV.1
    rcases (show u = 0 ∨ u = 1 by omega) with hu0 | hu0
    · subst hu0
      refine mh_aload0 (pc := 15) F dX11_law_15 ?_
      refine mh_getr (b := 25) (pc := 16) F sh_0 (by decide) fw_RX11_72_11 dX11_law_16 rfl (fx_0_0 hF) ?_
      refine mh_iload1 (pc := 19) F dX11_law_19 ?_
      refine mh_callV0 (pc := 20) (As := [.int (Int32.ofInt (0))]) (st := []) F (by omega) (k4_lawOf0 (by omega) hF) wv_RX11_189_yX10_lawOf dX11_law_20 sh_25 rfl (by decide) rfl rfl (Nat.le_of_ble_eq_true rfl) ⟨Nat.zero_le _, Nat.zero_le _⟩ (fun r1 h1 q1 => ?_)
      obtain ⟨rfl, he⟩ := q1
      rw [he]
      refine mh_iload2 (pc := 23) F dX11_law_23 ?_
      refine mh_iload3 (pc := 24) F dX11_law_24 ?_
      refine mh_iload4 (pc := 25) F dX11_law_25 ?_
      refine mh_callV0 (pc := 27) (As := [.int (Int32.ofInt (a)), .int (Int32.ofInt (b)), .int (Int32.ofInt (c))]) (st := []) F (by omega) (k3_value_33 (by omega) hF rfl rfl rfl (by omega) (by omega) (by omega) hL.2.2.1.2.1 hL.2.2.1.2.2.1 hL.2.2.1.2.2.2.1 (sc_T_mo hL.2.2.1)) wv_RX11_199_yX9_value dX11_law_27 sh_33 rfl (by decide) rfl rfl (Nat.le_of_ble_eq_true rfl) ⟨Nat.zero_le _, Nat.zero_le _⟩ (fun r2 h2 q2 => ?_)
      obtain ⟨rfl, F2, fr2⟩ := q2
      have fr3 : mh_fr [36] h h2 := (mh_fr.tr mh_fr.rf fr2).mono (by simp)
      refine mh_top (y := sp_law s 0 a b c) (mh_eqI (sc_T_law hL.2.2.1 (by decide) (by omega))) ?_
      exact mh_ireturn F Z dX11_law_30 ⟨_, _, _, (by unfold sp_lawP; (repeat' split) <;> first | rfl | (exfalso; omega)), rfl, F2, (fr3.mono (by simp)), (sc_V_fr hV (fun a a1 a2 a3 a4 => fr3 a (by simp; omega))), (hE.of (fr3 24 (by simp)))⟩
    · subst hu0
      refine mh_aload0 (pc := 15) F dX11_law_15 ?_
      refine mh_getr (b := 25) (pc := 16) F sh_0 (by decide) fw_RX11_72_11 dX11_law_16 rfl (fx_0_0 hF) ?_
      refine mh_iload1 (pc := 19) F dX11_law_19 ?_
      refine mh_callV0 (pc := 20) (As := [.int (Int32.ofInt (1))]) (st := []) F (by omega) (k4_lawOf1 (by omega) hF) wv_RX11_189_yX10_lawOf dX11_law_20 sh_25 rfl (by decide) rfl rfl (Nat.le_of_ble_eq_true rfl) ⟨Nat.zero_le _, Nat.zero_le _⟩ (fun r4 h4 q4 => ?_)
      obtain ⟨rfl, he⟩ := q4
      rw [he]
      refine mh_iload2 (pc := 23) F dX11_law_23 ?_
      refine mh_iload3 (pc := 24) F dX11_law_24 ?_
      refine mh_iload4 (pc := 25) F dX11_law_25 ?_
      refine mh_callV0 (pc := 27) (As := [.int (Int32.ofInt (a)), .int (Int32.ofInt (b)), .int (Int32.ofInt (c))]) (st := []) F (by omega) (k3_value_38 (by omega) hF rfl rfl rfl (by omega) (by omega) (by omega) hL.2.2.2.2.1 hL.2.2.2.2.2.1 hL.2.2.2.2.2.2.1 (sc_T_mo hL.2.2.2)) wv_RX11_199_yX9_value dX11_law_27 sh_38 rfl (by decide) rfl rfl (Nat.le_of_ble_eq_true rfl) ⟨Nat.zero_le _, Nat.zero_le _⟩ (fun r5 h5 q5 => ?_)
      obtain ⟨rfl, F5, fr5⟩ := q5
      have fr6 : mh_fr [41] h h5 := (mh_fr.tr mh_fr.rf fr5).mono (by simp)
      refine mh_top (y := sp_law s 1 a b c) (mh_eqI (sc_T_law hL.2.2.2 (by decide) (by omega))) ?_
      exact mh_ireturn F Z dX11_law_30 ⟨_, _, _, (by unfold sp_lawP; (repeat' split) <;> first | rfl | (exfalso; omega)), rfl, F5, (fr6.mono (by simp)), (sc_V_fr hV (fun a a1 a2 a3 a4 => fr6 a (by simp; omega))), (hE.of (fr6 24 (by simp)))⟩
  · refine mh_aload0 (pc := 9) F dX11_law_9 ?_
    refine mh_iconst (pc := 10) F dX11_law_10 ?_
    refine mh_callV0 (pc := 11) (As := [.int (Int32.ofInt (1))]) (st := []) F (by omega) (k8_refuse (by omega) hF rfl (by decide)) wv_RX11_90_yX11_refuse dX11_law_11 sh_0 rfl (by decide) rfl rfl (Nat.le_of_ble_eq_true rfl) ⟨Nat.zero_le _, Nat.zero_le _⟩ (fun r7 h7 q7 => ?_)
    obtain ⟨rfl, F7, fr7, q7_0⟩ := q7
    have fr8 : mh_fr [24] h h7 := (mh_fr.tr mh_fr.rf fr7).mono (by simp)
    have hVr : sc_V h7 s := sc_V_fr hV (fun a a1 a2 a3 a4 => fr7 a (by simp; omega))
    have hEr : sc_E h7 (mh_ur er 1 (er 1 + 1)) := hE.up (by decide) q7_0
    exact mh_ireturn F Z dX11_law_14 ⟨_, _, _, (by unfold sp_lawP; (repeat' split) <;> first | rfl | (exfalso; omega)), rfl, F7, (fr8.mono (by simp)), hVr, hEr⟩

set_option maxRecDepth 100000 in
set_option maxHeartbeats 2000000 in
theorem q_quarters {g : mh_G} {d : Nat} (hd : 16 ≤ d) {h : Nat → Int → Int} (hF : mh_FX h) {s er : Int → Int} {n : Int} (hn : -2147483648 ≤ n ∧ n < 2147483648) (hi : sp_inv s) (hV : sc_V h s) (hE : sc_E h er) (hKN : sc_KN h) : mh_M g d yX11_quarters cX11_quarters 3 (some .int) 96 0 0 [.ref 0, .int (Int32.ofInt (n))] h (fun r h2 => ∃ (vv : Int) (tt ee : Int → Int), (vv, tt, ee) = sp_quarters n s er ∧ r = some (.int (Int32.ofInt vv)) ∧ mh_FX h2 ∧ mh_fr [25, 36, 41, 44, 45, 46, 47, 48, 49, 24] h h2 ∧ sc_V h2 tt ∧ sc_E h2 ee) := by
  refine mh_M_of RX11 rfl (by decide +kernel) [some (.ref 0), some (.int (Int32.ofInt (n))), none] rfl (Nat.le_of_ble_eq_true rfl) (fun f F Z hn0 hR => ?_)
  have hm := hi.1
  have hq0 := hi.2.1
  have hs1 := hi.2.2.1
  have hh := hi.2.2.2.1
  obtain ⟨n6, n7, n8, n10, n14, n15⟩ := hV.2.2
  refine mh_iload1 (pc := 0) F dX11_quarters_0 ?_
  refine mh_iconst (pc := 1) F dX11_quarters_1 ?_
  refine mh_sipush (pc := 2) F dX11_quarters_2 rfl ?_
  refine mh_callSp (pc := 5) (As := [.int (Int32.ofInt (n)), .int (Int32.ofInt (1)), .int (Int32.ofInt (300))]) (st := []) F (by omega) (k4_within (by omega) (by omega) (by omega) (by omega)) ws_RX11_82 dX11_quarters_5 rfl rfl (Nat.le_of_ble_eq_true rfl) ⟨Nat.zero_le _, Nat.zero_le _⟩ ?_
  refine mh_ifb_ne (pc := 8) (tgt := 17) F dX11_quarters_8 rfl (fun c_8 => ?_) (fun c_8 => ?_)
  · refine mh_aload0 (pc := 17) F dX11_quarters_17 ?_
    refine mh_getr (b := 25) (pc := 18) F sh_0 (by decide) fw_RX11_72_11 dX11_quarters_18 rfl (fx_0_0 hF) ?_
    refine mh_geti (pc := 21) F sh_25 (by decide) fw_RX11_105_10 dX11_quarters_21 rfl ?_
    refine mh_iload1 (pc := 24) F dX11_quarters_24 ?_
    refine mh_iadd (pc := 25) F dX11_quarters_25 ?_
    refine mh_sipush (pc := 26) F dX11_quarters_26 rfl ?_
    refine mh_icmp_le (pc := 29) (tgt := 38) F dX11_quarters_29 rfl (by omega) (by omega) (fun c_29 => ?_) (fun c_29 => ?_)
    · refine mh_iconst (pc := 38) F dX11_quarters_38 ?_
      refine mh_istore2 (pc := 39) F dX11_quarters_39 rfl (by decide) ?_
      have L40 : ∀ (m : Nat) (x : Int) (hh : Nat → Int → Int), (mh_FX hh) → (mh_fr [25, 36, 41, 44, 45, 46, 47, 48, 49] h hh) → (0 ≤ x ∧ x ≤ n) → (sc_V hh (sp_aqs s x.toNat)) → (n - x).toNat = m → mh_V g f 3 96 0 0 40 [some (.ref 0), some (.int (Int32.ofInt (n))), some (.int (Int32.ofInt (x)))] [] hh := by
        intro m
        induction m using Nat.strongRecOn with
        | _ m ihL40 =>
        intro x hh Fhh frhh hx hVL hmz
        refine mh_iload2 (pc := 40) F dX11_quarters_40 ?_
        obtain ⟨t, et⟩ : ∃ t : Int → Int, t = sp_aqs s x.toNat := ⟨_, rfl⟩
        rw [← et] at hVL
        obtain ⟨zHI, ha0, ha3⟩ := sp_aqs_all hi x.toNat (by omega)
        rw [← et] at zHI ha0 ha3
        obtain ⟨m6, m7, m8, m10, m14, m15⟩ := hVL.2.2
        refine mh_iload1 (pc := 41) F dX11_quarters_41 ?_
        refine mh_icmp_ge (pc := 42) (tgt := 58) F dX11_quarters_42 rfl (by omega) (by omega) (fun c_42 => ?_) (fun c_42 => ?_)
        · refine mh_aload0 (pc := 58) F dX11_quarters_58 ?_
          refine mh_getr (b := 25) (pc := 59) F sh_0 (by decide) fw_RX11_72_11 dX11_quarters_59 rfl (fx_0_0 Fhh) ?_
          refine mh_geti (pc := 62) F sh_25 (by decide) fw_RX11_206_10 dX11_quarters_62 rfl ?_
          refine mh_top (y := t 1) (mh_eqI m8) ?_
          exact mh_ireturn F Z dX11_quarters_65 ⟨_, _, _, (by unfold sp_quarters; (repeat' split) <;> first | rfl | (exfalso; omega) | (rw [show n = x by omega, ← et]; done)), rfl, Fhh, (frhh.mono (by simp)), hVL, (hE.of (frhh 24 (by simp)))⟩
        · refine mh_aload0 (pc := 45) F dX11_quarters_45 ?_
          refine mh_getr (b := 25) (pc := 46) F sh_0 (by decide) fw_RX11_72_11 dX11_quarters_46 rfl (fx_0_0 Fhh) ?_
          refine mh_callV0 (pc := 49) (As := []) (st := []) F (by omega) (k7_pq (by omega) Fhh zHI hVL (by omega)) wv_RX11_203_yX10_passQuarter dX11_quarters_49 sh_25 rfl (by decide) rfl rfl (Nat.le_of_ble_eq_true rfl) ⟨Nat.zero_le _, Nat.zero_le _⟩ (fun r1 h1 q1 => ?_)
          obtain ⟨rfl, F1, fr1, hVq1⟩ := q1
          have fr2 : mh_fr [25, 36, 41, 44, 45, 46, 47, 48, 49] h h1 := (mh_fr.tr frhh fr1).mono (by simp)
          refine mh_iinc2 (pc := 52) F dX11_quarters_52 rfl (by decide) ?_
          refine mh_goto (pc := 55) (tgt := 40) F dX11_quarters_55 rfl ?_
          exact ihL40 _ (by omega) (x + 1) h1 F1 (fr2.mono (by simp)) (by omega) (by rw [sp_aqs_at _ hx.1, ← et]; exact hVq1) rfl
      exact L40 _ 0 h hF (mh_fr.rf.mono (by simp)) (by omega) hV rfl
    · refine mh_aload0 (pc := 32) F dX11_quarters_32 ?_
      refine mh_iconst (pc := 33) F dX11_quarters_33 ?_
      refine mh_callV0 (pc := 34) (As := [.int (Int32.ofInt (3))]) (st := []) F (by omega) (k8_refuse (by omega) hF rfl (by decide)) wv_RX11_90_yX11_refuse dX11_quarters_34 sh_0 rfl (by decide) rfl rfl (Nat.le_of_ble_eq_true rfl) ⟨Nat.zero_le _, Nat.zero_le _⟩ (fun r3 h3 q3 => ?_)
      obtain ⟨rfl, F3, fr3, q3_0⟩ := q3
      have fr4 : mh_fr [24] h h3 := (mh_fr.tr mh_fr.rf fr3).mono (by simp)
      have hVr : sc_V h3 s := sc_V_fr hV (fun a a1 a2 a3 a4 => fr3 a (by simp; omega))
      have hEr : sc_E h3 (mh_ur er 3 (er 3 + 1)) := hE.up (by decide) q3_0
      exact mh_ireturn F Z dX11_quarters_37 ⟨_, _, _, (by unfold sp_quarters; (repeat' split) <;> first | rfl | (exfalso; omega)), rfl, F3, (fr4.mono (by simp)), hVr, hEr⟩
  · refine mh_aload0 (pc := 11) F dX11_quarters_11 ?_
    refine mh_iconst (pc := 12) F dX11_quarters_12 ?_
    refine mh_callV0 (pc := 13) (As := [.int (Int32.ofInt (1))]) (st := []) F (by omega) (k8_refuse (by omega) hF rfl (by decide)) wv_RX11_90_yX11_refuse dX11_quarters_13 sh_0 rfl (by decide) rfl rfl (Nat.le_of_ble_eq_true rfl) ⟨Nat.zero_le _, Nat.zero_le _⟩ (fun r5 h5 q5 => ?_)
    obtain ⟨rfl, F5, fr5, q5_0⟩ := q5
    have fr6 : mh_fr [24] h h5 := (mh_fr.tr mh_fr.rf fr5).mono (by simp)
    have hVr : sc_V h5 s := sc_V_fr hV (fun a a1 a2 a3 a4 => fr5 a (by simp; omega))
    have hEr : sc_E h5 (mh_ur er 1 (er 1 + 1)) := hE.up (by decide) q5_0
    exact mh_ireturn F Z dX11_quarters_16 ⟨_, _, _, (by unfold sp_quarters; (repeat' split) <;> first | rfl | (exfalso; omega)), rfl, F5, (fr6.mono (by simp)), hVr, hEr⟩

set_option maxRecDepth 100000 in
set_option maxHeartbeats 2000000 in
theorem q_thunder {g : mh_G} {d : Nat} (hd : 16 ≤ d) {h : Nat → Int → Int} (hF : mh_FX h) {s er : Int → Int}   (hi : sp_inv s) (hV : sc_V h s) (hE : sc_E h er) (hKN : sc_KN h) : mh_M g d yX11_thunder cX11_thunder 1 (some .int) 96 0 0 [.ref 0] h (fun r h2 => ∃ (vv : Int) (tt ee : Int → Int), (vv, tt, ee) = sp_thunP  s er ∧ r = some (.int (Int32.ofInt vv)) ∧ mh_FX h2 ∧ mh_fr [25, 36, 41, 44, 45, 46, 47, 48, 49, 24] h h2 ∧ sc_V h2 tt ∧ sc_E h2 ee) := by
  refine mh_M_of RX11 rfl (by decide +kernel) [some (.ref 0)] rfl (Nat.le_of_ble_eq_true rfl) (fun f F Z hn0 hR => ?_)
  have hm := hi.1
  have hq0 := hi.2.1
  have hs1 := hi.2.2.1
  have hh := hi.2.2.2.1
  obtain ⟨n6, n7, n8, n10, n14, n15⟩ := hV.2.2
  refine mh_aload0 (pc := 0) F dX11_thunder_0 ?_
  refine mh_getr (b := 25) (pc := 1) F sh_0 (by decide) fw_RX11_72_11 dX11_thunder_1 rfl (fx_0_0 hF) ?_
  refine mh_callV0 (pc := 4) (As := []) (st := []) F (by omega) (k7_strike (by omega) hF hi hV) wv_RX11_213_yX10_strike dX11_thunder_4 sh_25 rfl (by decide) rfl rfl (Nat.le_of_ble_eq_true rfl) ⟨Nat.zero_le _, Nat.zero_le _⟩ (fun r1 h1 q1 => ?_)
  obtain ⟨rfl, F1, fr1, hVq1⟩ := q1
  have fr2 : mh_fr [25, 36, 41, 44, 45, 46, 47, 48, 49] h h1 := (mh_fr.tr mh_fr.rf fr1).mono (by simp)
  exact mh_ireturn F Z dX11_thunder_7 ⟨_, _, _, (by unfold sp_thunP; (repeat' split) <;> first | rfl | (exfalso; omega)), rfl, F1, (fr2.mono (by simp)), hVq1, (hE.of (fr2 24 (by simp)))⟩

set_option maxRecDepth 100000 in
set_option maxHeartbeats 2000000 in
theorem q_days {g : mh_G} {d : Nat} (hd : 16 ≤ d) {h : Nat → Int → Int} (hF : mh_FX h) {s er : Int → Int} {n : Int} (hn : -2147483648 ≤ n ∧ n < 2147483648) (hi : sp_inv s) (hV : sc_V h s) (hE : sc_E h er) (hKN : sc_KN h) : mh_M g d yX11_days cX11_days 3 (some .int) 96 0 0 [.ref 0, .int (Int32.ofInt (n))] h (fun r h2 => ∃ (vv : Int) (tt ee : Int → Int), (vv, tt, ee) = sp_daysP n s er ∧ r = some (.int (Int32.ofInt vv)) ∧ mh_FX h2 ∧ mh_fr [25, 36, 41, 44, 45, 46, 47, 48, 49, 24] h h2 ∧ sc_V h2 tt ∧ sc_E h2 ee) := by
  refine mh_M_of RX11 rfl (by decide +kernel) [some (.ref 0), some (.int (Int32.ofInt (n))), none] rfl (Nat.le_of_ble_eq_true rfl) (fun f F Z hn0 hR => ?_)
  have hm := hi.1
  have hq0 := hi.2.1
  have hs1 := hi.2.2.1
  have hh := hi.2.2.2.1
  obtain ⟨n6, n7, n8, n10, n14, n15⟩ := hV.2.2
  refine mh_iload1 (pc := 0) F dX11_days_0 ?_
  refine mh_iconst (pc := 1) F dX11_days_1 ?_
  refine mh_bipush (pc := 2) F dX11_days_2 rfl ?_
  refine mh_callSp (pc := 4) (As := [.int (Int32.ofInt (n)), .int (Int32.ofInt (1)), .int (Int32.ofInt (20))]) (st := []) F (by omega) (k4_within (by omega) (by omega) (by omega) (by omega)) ws_RX11_82 dX11_days_4 rfl rfl (Nat.le_of_ble_eq_true rfl) ⟨Nat.zero_le _, Nat.zero_le _⟩ ?_
  refine mh_ifb_ne (pc := 7) (tgt := 16) F dX11_days_7 rfl (fun c_7 => ?_) (fun c_7 => ?_)
  · refine mh_aload0 (pc := 16) F dX11_days_16 ?_
    refine mh_getr (b := 25) (pc := 17) F sh_0 (by decide) fw_RX11_72_11 dX11_days_17 rfl (fx_0_0 hF) ?_
    refine mh_geti (pc := 20) F sh_25 (by decide) fw_RX11_105_10 dX11_days_20 rfl ?_
    refine mh_bipush (pc := 23) F dX11_days_23 rfl ?_
    refine mh_iload1 (pc := 25) F dX11_days_25 ?_
    refine mh_imul (pc := 26) F dX11_days_26 ?_
    refine mh_iadd (pc := 27) F dX11_days_27 ?_
    refine mh_sipush (pc := 28) F dX11_days_28 rfl ?_
    refine mh_icmp_le (pc := 31) (tgt := 40) F dX11_days_31 rfl (by omega) (by omega) (fun c_31 => ?_) (fun c_31 => ?_)
    · refine mh_iconst (pc := 40) F dX11_days_40 ?_
      refine mh_istore2 (pc := 41) F dX11_days_41 rfl (by decide) ?_
      have L42 : ∀ (m : Nat) (x : Int) (hh : Nat → Int → Int), (mh_FX hh) → (mh_fr [25, 36, 41, 44, 45, 46, 47, 48, 49] h hh) → (0 ≤ x ∧ x ≤ 16 * n) → (sc_V hh (sp_days s x.toNat)) → (16 * n - x).toNat = m → mh_V g f 3 96 0 0 42 [some (.ref 0), some (.int (Int32.ofInt (n))), some (.int (Int32.ofInt (x)))] [] hh := by
        intro m
        induction m using Nat.strongRecOn with
        | _ m ihL42 =>
        intro x hh Fhh frhh hx hVL hmz
        refine mh_iload2 (pc := 42) F dX11_days_42 ?_
        obtain ⟨t, et⟩ : ∃ t : Int → Int, t = sp_days s x.toNat := ⟨_, rfl⟩
        rw [← et] at hVL
        obtain ⟨zHI, ha0, ha3⟩ := sp_days_all hi x.toNat (by omega)
        rw [← et] at zHI ha0 ha3
        obtain ⟨m6, m7, m8, m10, m14, m15⟩ := hVL.2.2
        refine mh_bipush (pc := 43) F dX11_days_43 rfl ?_
        refine mh_iload1 (pc := 45) F dX11_days_45 ?_
        refine mh_imul (pc := 46) F dX11_days_46 ?_
        refine mh_icmp_ge (pc := 47) (tgt := 84) F dX11_days_47 rfl (by omega) (by omega) (fun c_47 => ?_) (fun c_47 => ?_)
        · refine mh_aload0 (pc := 84) F dX11_days_84 ?_
          refine mh_getr (b := 25) (pc := 85) F sh_0 (by decide) fw_RX11_72_11 dX11_days_85 rfl (fx_0_0 Fhh) ?_
          refine mh_geti (pc := 88) F sh_25 (by decide) fw_RX11_206_10 dX11_days_88 rfl ?_
          refine mh_top (y := t 1) (mh_eqI m8) ?_
          exact mh_ireturn F Z dX11_days_91 ⟨_, _, _, (by unfold sp_daysP; (repeat' split) <;> first | rfl | (exfalso; omega) | (rw [show 16 * n = x by omega, ← et]; done)), rfl, Fhh, (frhh.mono (by simp)), hVL, (hE.of (frhh 24 (by simp)))⟩
        · refine mh_aload0 (pc := 50) F dX11_days_50 ?_
          refine mh_getr (b := 25) (pc := 51) F sh_0 (by decide) fw_RX11_72_11 dX11_days_51 rfl (fx_0_0 Fhh) ?_
          refine mh_callV0 (pc := 54) (As := []) (st := []) F (by omega) (k4_draw (by omega) Fhh rfl) wv_RX11_209_yX10_draw dX11_days_54 sh_25 rfl (by decide) rfl rfl (Nat.le_of_ble_eq_true rfl) ⟨Nat.zero_le _, Nat.zero_le _⟩ (fun r1 h1 q1 => ?_)
          obtain ⟨rfl, F1, frD, qD⟩ := q1
          have fr2 : mh_fr [25, 36, 41, 44, 45, 46, 47, 48, 49] h h1 := (mh_fr.tr frhh frD).mono (by simp)
          have hVd : sc_V h1 (sp_draw t) := sc_V_draw hVL qD (fun a ha => frD a (by simp; omega))
          refine mh_top (y := mh_ushr (sp_draw t 2) 8) (mh_eqI (by unfold sp_draw; rw [mh_ur_eq rfl, m15])) ?_
          have hz := mh_ushrR (sp_draw t 2) 8
          have hzt := mh_tmodR (y := 16) hz
          have zHD : sp_inv (sp_draw t) := sp_inv_2 zHI (Or.inl rfl)
          have zd0 : sp_draw t 0 = t 0 := mh_ur_ne (by decide)
          obtain ⟨zHP, zHP0, zHP3⟩ := sp_day_pre zHI (s := t)
          refine mh_bipush (pc := 57) F dX11_days_57 rfl ?_
          refine mh_irem (pc := 59) F dX11_days_59 (by omega) (by omega) (by omega) ?_
          refine mh_if_ne (pc := 60) (tgt := 71) F dX11_days_60 rfl (by omega) (fun c_60 => ?_) (fun c_60 => ?_)
          · have zHI2 : sp_inv (sp_draw t) := by first | (rw [if_pos (by omega)] at zHP; exact zHP) | (rw [if_neg (by omega)] at zHP; exact zHP)
            have z20 : (sp_draw t) 0 = t 0 := by first | (rw [if_pos (by omega)] at zHP0; exact zHP0) | (rw [if_neg (by omega)] at zHP0; exact zHP0)
            refine mh_aload0 (pc := 71) F dX11_days_71 ?_
            refine mh_getr (b := 25) (pc := 72) F sh_0 (by decide) fw_RX11_72_11 dX11_days_72 rfl (fx_0_0 F1) ?_
            refine mh_callV0 (pc := 75) (As := []) (st := []) F (by omega) (k7_pq (by omega) F1 zHD hVd (by omega)) wv_RX11_203_yX10_passQuarter dX11_days_75 sh_25 rfl (by decide) rfl rfl (Nat.le_of_ble_eq_true rfl) ⟨Nat.zero_le _, Nat.zero_le _⟩ (fun r3 h3 q3 => ?_)
            obtain ⟨rfl, F3, fr3, hVq3⟩ := q3
            have fr4 : mh_fr [25, 36, 41, 44, 45, 46, 47, 48, 49] h h3 := (mh_fr.tr fr2 fr3).mono (by simp)
            refine mh_iinc2 (pc := 78) F dX11_days_78 rfl (by decide) ?_
            refine mh_goto (pc := 81) (tgt := 42) F dX11_days_81 rfl ?_
            exact ihL42 _ (by omega) (x + 1) h3 F3 (fr4.mono (by simp)) (by omega) (by rw [sp_days_at _ hx.1, ← et]; unfold sp_day; first | (rw [if_pos (by omega)]; exact hVq3) | (rw [if_neg (by omega)]; exact hVq3)) rfl
          · refine mh_aload0 (pc := 63) F dX11_days_63 ?_
            refine mh_getr (b := 25) (pc := 64) F sh_0 (by decide) fw_RX11_72_11 dX11_days_64 rfl (fx_0_0 F1) ?_
            refine mh_callV0 (pc := 67) (As := []) (st := []) F (by omega) (k7_strike (by omega) F1 zHD hVd) wv_RX11_213_yX10_strike dX11_days_67 sh_25 rfl (by decide) rfl rfl (Nat.le_of_ble_eq_true rfl) ⟨Nat.zero_le _, Nat.zero_le _⟩ (fun r5 h5 q5 => ?_)
            obtain ⟨rfl, F5, fr5, hVq5⟩ := q5
            have fr6 : mh_fr [25, 36, 41, 44, 45, 46, 47, 48, 49] h h5 := (mh_fr.tr fr2 fr5).mono (by simp)
            refine mh_pop (pc := 70) F dX11_days_70 rfl ?_
            have zHI2 : sp_inv ((sp_thun (sp_draw t)).2) := by first | (rw [if_pos (by omega)] at zHP; exact zHP) | (rw [if_neg (by omega)] at zHP; exact zHP)
            have z20 : ((sp_thun (sp_draw t)).2) 0 = t 0 := by first | (rw [if_pos (by omega)] at zHP0; exact zHP0) | (rw [if_neg (by omega)] at zHP0; exact zHP0)
            refine mh_aload0 (pc := 71) F dX11_days_71 ?_
            refine mh_getr (b := 25) (pc := 72) F sh_0 (by decide) fw_RX11_72_11 dX11_days_72 rfl (fx_0_0 F5) ?_
            refine mh_callV0 (pc := 75) (As := []) (st := []) F (by omega) (k7_pq (by omega) F5 zHI2 hVq5 (by omega)) wv_RX11_203_yX10_passQuarter dX11_days_75 sh_25 rfl (by decide) rfl rfl (Nat.le_of_ble_eq_true rfl) ⟨Nat.zero_le _, Nat.zero_le _⟩ (fun r7 h7 q7 => ?_)
            obtain ⟨rfl, F7, fr7, hVq7⟩ := q7
            have fr8 : mh_fr [25, 36, 41, 44, 45, 46, 47, 48, 49] h h7 := (mh_fr.tr fr6 fr7).mono (by simp)
            refine mh_iinc2 (pc := 78) F dX11_days_78 rfl (by decide) ?_
            refine mh_goto (pc := 81) (tgt := 42) F dX11_days_81 rfl ?_
            exact ihL42 _ (by omega) (x + 1) h7 F7 (fr8.mono (by simp)) (by omega) (by rw [sp_days_at _ hx.1, ← et]; unfold sp_day; first | (rw [if_pos (by omega)]; exact hVq7) | (rw [if_neg (by omega)]; exact hVq7)) rfl
      exact L42 _ 0 h hF (mh_fr.rf.mono (by simp)) (by omega) hV rfl
    · refine mh_aload0 (pc := 34) F dX11_days_34 ?_
      refine mh_iconst (pc := 35) F dX11_days_35 ?_
      refine mh_callV0 (pc := 36) (As := [.int (Int32.ofInt (3))]) (st := []) F (by omega) (k8_refuse (by omega) hF rfl (by decide)) wv_RX11_90_yX11_refuse dX11_days_36 sh_0 rfl (by decide) rfl rfl (Nat.le_of_ble_eq_true rfl) ⟨Nat.zero_le _, Nat.zero_le _⟩ (fun r9 h9 q9 => ?_)
      obtain ⟨rfl, F9, fr9, q9_0⟩ := q9
      have fr10 : mh_fr [24] h h9 := (mh_fr.tr mh_fr.rf fr9).mono (by simp)
      have hVr : sc_V h9 s := sc_V_fr hV (fun a a1 a2 a3 a4 => fr9 a (by simp; omega))
      have hEr : sc_E h9 (mh_ur er 3 (er 3 + 1)) := hE.up (by decide) q9_0
      exact mh_ireturn F Z dX11_days_39 ⟨_, _, _, (by unfold sp_daysP; (repeat' split) <;> first | rfl | (exfalso; omega)), rfl, F9, (fr10.mono (by simp)), hVr, hEr⟩
  · refine mh_aload0 (pc := 10) F dX11_days_10 ?_
    refine mh_iconst (pc := 11) F dX11_days_11 ?_
    refine mh_callV0 (pc := 12) (As := [.int (Int32.ofInt (1))]) (st := []) F (by omega) (k8_refuse (by omega) hF rfl (by decide)) wv_RX11_90_yX11_refuse dX11_days_12 sh_0 rfl (by decide) rfl rfl (Nat.le_of_ble_eq_true rfl) ⟨Nat.zero_le _, Nat.zero_le _⟩ (fun r11 h11 q11 => ?_)
    obtain ⟨rfl, F11, fr11, q11_0⟩ := q11
    have fr12 : mh_fr [24] h h11 := (mh_fr.tr mh_fr.rf fr11).mono (by simp)
    have hVr : sc_V h11 s := sc_V_fr hV (fun a a1 a2 a3 a4 => fr11 a (by simp; omega))
    have hEr : sc_E h11 (mh_ur er 1 (er 1 + 1)) := hE.up (by decide) q11_0
    exact mh_ireturn F Z dX11_days_15 ⟨_, _, _, (by unfold sp_daysP; (repeat' split) <;> first | rfl | (exfalso; omega)), rfl, F11, (fr12.mono (by simp)), hVr, hEr⟩

set_option maxRecDepth 100000 in
set_option maxHeartbeats 2000000 in
theorem q_seed {g : mh_G} {d : Nat} (hd : 16 ≤ d) {h : Nat → Int → Int} (hF : mh_FX h) {s er : Int → Int} {x : Int} (hx : -2147483648 ≤ x ∧ x < 2147483648) (hi : sp_inv s) (hV : sc_V h s) (hE : sc_E h er) (hKN : sc_KN h) : mh_M g d yX11_seed cX11_seed 3 (some .int) 96 0 0 [.ref 0, .int (Int32.ofInt (x))] h (fun r h2 => ∃ (vv : Int) (tt ee : Int → Int), (vv, tt, ee) = sp_seed x s er ∧ r = some (.int (Int32.ofInt vv)) ∧ mh_FX h2 ∧ mh_fr [25, 36, 41, 44, 45, 46, 47, 48, 49, 24] h h2 ∧ sc_V h2 tt ∧ sc_E h2 ee) := by
  refine mh_M_of RX11 rfl (by decide +kernel) [some (.ref 0), some (.int (Int32.ofInt (x))), none] rfl (Nat.le_of_ble_eq_true rfl) (fun f F Z hn0 hR => ?_)
  have hm := hi.1
  have hq0 := hi.2.1
  have hs1 := hi.2.2.1
  have hh := hi.2.2.2.1
  obtain ⟨n6, n7, n8, n10, n14, n15⟩ := hV.2.2
  refine mh_aload0 (pc := 0) F dX11_seed_0 ?_
  refine mh_getr (b := 25) (pc := 1) F sh_0 (by decide) fw_RX11_72_11 dX11_seed_1 rfl (fx_0_0 hF) ?_
  refine mh_geti (pc := 4) F sh_25 (by decide) fw_RX11_259_10 dX11_seed_4 rfl ?_
  refine mh_istore2 (pc := 7) F dX11_seed_7 rfl (by decide) ?_
  refine mh_aload0 (pc := 8) F dX11_seed_8 ?_
  refine mh_getr (b := 25) (pc := 9) F sh_0 (by decide) fw_RX11_72_11 dX11_seed_9 rfl (fx_0_0 hF) ?_
  refine mh_iload1 (pc := 12) F dX11_seed_12 ?_
  refine mh_puti (pc := 13) F sh_25 (by decide) pw_RX11_259_10 dX11_seed_13 ?_
  refine mh_nmh (fun h1 e1 => ?_)
  have F1 : mh_FX h1 := by rw [e1]; exact hF.upz rfl
  have fr1 : mh_fr [25] h h1 := mh_fr.up mh_fr.rf e1
  have hVn : sc_V h1 (mh_ur s 2 x) := sc_V_w (z := 15) hV (by omega) (by rw [e1, mh_up_rs]) (fun a ha => by rw [e1, mh_up_row ha])
  refine mh_iload2 (pc := 16) F dX11_seed_16 ?_
  refine mh_top (y := s 2) (mh_eqI n15) ?_
  exact mh_ireturn F Z dX11_seed_17 ⟨_, _, _, (by unfold sp_seed; (repeat' split) <;> first | rfl | (exfalso; omega)), rfl, F1, (fr1.mono (by simp)), hVn, (hE.of (fr1 24 (by simp)))⟩

