/-! restore -/
/-- what the image holds, if there is one -/
def sc_K (h : Nat → Int → Int) (kp o : Int → Int) : Prop := o 3 = 1 → (sp_inv kp ∧ (0 ≤ kp 4 ∧ kp 4 ≤ 50) ∧ (0 ≤ kp 5 ∧ kp 5 ≤ 20)) ∧ sc_VW h 50 kp ∧ sc_XW h 50 kp
theorem sc_X.of {h h2 : Nat → Int → Int} {s : Int → Int} (H : sc_X h s) (e1 : h2 32 = h 32) (e2 : h2 43 = h 43) : sc_X h2 s := by
  unfold sc_X at *
  rw [e1, e2]; exact H
set_option maxRecDepth 100000 in
set_option maxHeartbeats 2000000 in
theorem q_restore {g : mh_G} {d : Nat} (hd : 16 ≤ d) {h : Nat → Int → Int} (hF : mh_FX h) {s er kp o : Int → Int}  (hX : sc_X h s) (hKP : sc_KP h) (hI : sc_I h o) (hK : sc_K h kp o) (hi : sp_inv s) (hV : sc_V h s) (hE : sc_E h er) (hKN : sc_KN h) : mh_M g d yX11_restore cX11_restore 1 (some .int) 96 0 0 [.ref 0] h (fun r h2 => ∃ (vv : Int) (tt ee : Int → Int), (vv, tt, ee) = sp_restore  s er kp o ∧ r = some (.int (Int32.ofInt vv)) ∧ mh_FX h2 ∧ mh_fr [26, 27, 28, 29, 30, 44, 45, 46, 47, 48, 49, 25, 32, 33, 34, 38, 39, 43, 24] h h2 ∧ sc_V h2 tt ∧ sc_E h2 ee ∧ sc_X h2 tt) := by
  refine mh_M_of RX11 rfl (by decide +kernel) [some (.ref 0)] rfl (Nat.le_of_ble_eq_true rfl) (fun f F Z hn0 hR => ?_)
  have hm := hi.1
  have hq0 := hi.2.1
  have hs1 := hi.2.2.1
  have hh := hi.2.2.2.1
  obtain ⟨n6, n7, n8, n10, n14, n15⟩ := hV.2.2
  obtain ⟨i1, i2, i3⟩ := hI
  refine mh_aload0 (pc := 0) F dX11_restore_0 ?_
  refine mh_geti (pc := 1) F sh_0 (by decide) fw_RX11_303_11 dX11_restore_1 rfl ?_
  refine mh_if_ne (pc := 4) (tgt := 13) F dX11_restore_4 rfl (by omega) (fun c_4 => ?_) (fun c_4 => ?_)
  · obtain ⟨⟨hki, hk4, hk5⟩, hkV, hkX⟩ := hK (by omega)
    refine mh_aload0 (pc := 13) F dX11_restore_13 ?_
    refine mh_getr (b := 25) (pc := 14) F sh_0 (by decide) fw_RX11_72_11 dX11_restore_14 rfl (fx_0_0 hF) ?_
    refine mh_aload0 (pc := 17) F dX11_restore_17 ?_
    refine mh_getr (b := 50) (pc := 18) F sh_0 (by decide) fw_RX11_76_11 dX11_restore_18 rfl (fx_0_1 hF) ?_
    refine mh_callV0 (pc := 21) (As := [.ref 50]) (st := []) F (by omega) (k16_world_25 (by omega) hF (fun j j0 j1 => (hkV.2.1 j j0 j1).ok (hki.2.2.2.2.1 j j0 j1)) hKP.2.2.2.2) wv_RX11_300_yX10_copy dX11_restore_21 sh_25 rfl (by decide) rfl rfl (Nat.le_of_ble_eq_true rfl) ⟨Nat.zero_le _, Nat.zero_le _⟩ (fun r1 h1 q1 => ?_)
    obtain ⟨rfl, F1, frW, w1, w2, w3, w4, w5, w6, w7, w8, w9, w10, w11, w0, w12, w13, w14, w15, w16, w17⟩ := q1
    have fr2 : mh_fr [26, 27, 28, 29, 30, 44, 45, 46, 47, 48, 49, 25, 32, 33, 34, 38, 39, 43] h h1 := (mh_fr.tr mh_fr.rf frW).mono (by simp)
    obtain ⟨hVc, hXc⟩ := sc_copied (T := 25) (O := 50) (h := h) (h2 := h1) hki hkV hkX hk4.2 hk5.2 (fun j j0 j1 => (hV.2.1 j j0 j1).1) (hV.1.2.2.1.1.trans hKP.2.1.symm) (hV.1.2.2.2.1.trans hKP.2.2.1.symm) w1 w2 w3 w4 w5 (fun j j0 j1 => by rcases (show j = 0 ∨ j = 1 ∨ j = 2 ∨ j = 3 ∨ j = 4 ∨ j = 5 by omega) with z | z | z | z | z | z <;> subst z; exact w6; exact w7; exact w8; exact w9; exact w10; exact w11) w0 w12 w13 w14 w15 w16 w17
    refine mh_aload0 (pc := 24) F dX11_restore_24 ?_
    refine mh_getr (b := 25) (pc := 25) F sh_0 (by decide) fw_RX11_72_11 dX11_restore_25 rfl (fx_0_0 F1) ?_
    refine mh_geti (pc := 28) F sh_25 (by decide) fw_RX11_105_10 dX11_restore_28 rfl ?_
    refine mh_top (y := kp 0) (mh_eqI (hVc.2.2.2.1)) ?_
    exact mh_ireturn F Z dX11_restore_31 ⟨_, _, _, (by unfold sp_restore; (repeat' split) <;> first | rfl | (exfalso; omega)), rfl, F1, (fr2.mono (by simp)), (hVc.to (fun i i0 i1 => mh_cp_in i0 i1)), (hE.of (frW 24 (by simp))), (sc_XW.to (w := 25) hXc hk4.2 hk5.2 (fun i i0 i1 => mh_cp_in i0 i1))⟩
  · refine mh_aload0 (pc := 7) F dX11_restore_7 ?_
    refine mh_iconst (pc := 8) F dX11_restore_8 ?_
    refine mh_callV0 (pc := 9) (As := [.int (Int32.ofInt (2))]) (st := []) F (by omega) (k8_refuse (by omega) hF rfl (by decide)) wv_RX11_90_yX11_refuse dX11_restore_9 sh_0 rfl (by decide) rfl rfl (Nat.le_of_ble_eq_true rfl) ⟨Nat.zero_le _, Nat.zero_le _⟩ (fun r3 h3 q3 => ?_)
    obtain ⟨rfl, F3, fr3, q3_0⟩ := q3
    have fr4 : mh_fr [24] h h3 := (mh_fr.tr mh_fr.rf fr3).mono (by simp)
    have hVr : sc_V h3 s := sc_V_fr hV (fun a a1 a2 a3 a4 => fr3 a (by simp; omega))
    have hEr : sc_E h3 (mh_ur er 2 (er 2 + 1)) := hE.up (by decide) q3_0
    exact mh_ireturn F Z dX11_restore_12 ⟨_, _, _, (by unfold sp_restore; (repeat' split) <;> first | rfl | (exfalso; omega)), rfl, F3, (fr4.mono (by simp)), hVr, hEr, (hX.of (fr4 32 (by simp)) (fr4 43 (by simp)))⟩

theorem sc_V_fr2 {h h2 : Nat → Int → Int} {s : Int → Int} (hV : sc_V h s) (e : ∀ a, a ≠ 43 → h2 a = h a) : sc_V h2 s := by
  obtain ⟨a, b, c⟩ := hV
  refine ⟨a.of (fun x hx => e x (by omega)), fun j j0 j1 => ?_, ?_⟩
  · show sc_is (h2 (44 + j.toNat)) _ _
    rw [e (44 + j.toNat) (by omega)]; exact b j j0 j1
  · unfold sc_N; rw [e 25 (by decide)]; exact c
set_option maxRecDepth 100000 in
set_option maxHeartbeats 2000000 in
theorem q_tell {g : mh_G} {d : Nat} (hd : 16 ≤ d) {h : Nat → Int → Int} (hF : mh_FX h) {s er : Int → Int} {x : Int} (hx : -2147483648 ≤ x ∧ x < 2147483648) (hX : sc_X h s) (h5 : 0 ≤ s 5 ∧ s 5 ≤ 20) (h4 : 0 ≤ s 4 ∧ s 4 ≤ 50) (hi : sp_inv s) (hV : sc_V h s) (hE : sc_E h er) (hKN : sc_KN h) : mh_M g d yX11_tell cX11_tell 2 (some .int) 96 0 0 [.ref 0, .int (Int32.ofInt (x))] h (fun r h2 => ∃ (vv : Int) (tt ee : Int → Int), (vv, tt, ee) = sp_tell x s er ∧ r = some (.int (Int32.ofInt vv)) ∧ mh_FX h2 ∧ mh_fr [25, 36, 41, 44, 45, 46, 47, 48, 49, 24, 43] h h2 ∧ sc_V h2 tt ∧ sc_E h2 ee ∧ sc_X h2 tt) := by
  refine mh_M_of RX11 rfl (by decide +kernel) [some (.ref 0), some (.int (Int32.ofInt (x)))] rfl (Nat.le_of_ble_eq_true rfl) (fun f F Z hn0 hR => ?_)
  have hm := hi.1
  have hq0 := hi.2.1
  have hs1 := hi.2.2.1
  have hh := hi.2.2.2.1
  obtain ⟨n6, n7, n8, n10, n14, n15⟩ := hV.2.2
  refine mh_aload0 (pc := 0) F dX11_tell_0 ?_
  refine mh_getr (b := 25) (pc := 1) F sh_0 (by decide) fw_RX11_72_11 dX11_tell_1 rfl (fx_0_0 hF) ?_
  refine mh_geti (pc := 4) F sh_25 (by decide) fw_RX11_306_10 dX11_tell_4 rfl ?_
  refine mh_bipush (pc := 7) F dX11_tell_7 rfl ?_
  refine mh_icmp_lt (pc := 9) (tgt := 18) F dX11_tell_9 rfl (by omega) (by omega) (fun c_9 => ?_) (fun c_9 => ?_)
  · refine mh_aload0 (pc := 18) F dX11_tell_18 ?_
    refine mh_getr (b := 25) (pc := 19) F sh_0 (by decide) fw_RX11_72_11 dX11_tell_19 rfl (fx_0_0 hF) ?_
    refine mh_getr (b := 43) (pc := 22) F sh_25 (by decide) fw_RX11_309_10 dX11_tell_22 rfl (fx_25_13 hF) ?_
    refine mh_aload0 (pc := 25) F dX11_tell_25 ?_
    refine mh_getr (b := 25) (pc := 26) F sh_0 (by decide) fw_RX11_72_11 dX11_tell_26 rfl (fx_0_0 hF) ?_
    refine mh_geti (pc := 29) F sh_25 (by decide) fw_RX11_306_10 dX11_tell_29 rfl ?_
    refine mh_top (y := s 5) (mh_eqI n14) ?_
    refine mh_iload1 (pc := 32) F dX11_tell_32 ?_
    refine mh_iastore (pc := 33) F sh_43 (by decide) (by omega) dX11_tell_33 ?_
    refine mh_nmh (fun h1 e1 => ?_)
    have F1 : mh_FX h1 := by rw [e1]; exact hF.upa rfl
    have fr1 : mh_fr [43] h h1 := mh_fr.up mh_fr.rf e1
    refine mh_aload0 (pc := 34) F dX11_tell_34 ?_
    refine mh_getr (b := 25) (pc := 35) F sh_0 (by decide) fw_RX11_72_11 dX11_tell_35 rfl (fx_0_0 F1) ?_
    refine mh_dup (pc := 38) F dX11_tell_38 rfl ?_
    refine mh_geti (pc := 39) F sh_25 (by decide) fw_RX11_306_10 dX11_tell_39 rfl ?_
    refine mh_iconst (pc := 42) F dX11_tell_42 ?_
    refine mh_iadd (pc := 43) F dX11_tell_43 ?_
    refine mh_puti (pc := 44) F sh_25 (by decide) pw_RX11_306_10 dX11_tell_44 ?_
    refine mh_nmh (fun h2 e2 => ?_)
    have F2 : mh_FX h2 := by rw [e2]; exact F1.upz rfl
    have fr2 : mh_fr [25, 43] h h2 := mh_fr.up fr1 e2
    have hV43 : sc_V h1 s := sc_V_fr2 hV (fun a ha => by rw [e1, mh_up_row ha])
    have hVa : sc_V h1 (mh_ur s (247 + s 5) x) := sc_V_up hV43 (fun a ha => rfl) (fun i hi2 => mh_ur_ne (by omega)) (by unfold sc_N; rw [mh_ur_ne (by omega), mh_ur_ne (by omega), mh_ur_ne (by omega), mh_ur_ne (by omega), mh_ur_ne (by omega), mh_ur_ne (by omega)]; exact hV43.2.2)
    have hVn : sc_V h2 (mh_ur (mh_ur s (247 + s 5) x) 5 (s 5 + 1)) := sc_V_w (z := 14) hVa (by omega) (by rw [e2, mh_up_rs, show h1 25 14 = s 5 from hV43.2.2.2.2.2.2.1]) (fun a ha => by rw [e2, mh_up_row ha])
    have hXn : sc_X h2 (mh_ur (mh_ur s (247 + s 5) x) 5 (s 5 + 1)) := by
      refine ⟨fun i i0 i1 => ?_, fun i i0 i1 => ?_⟩
      · rw [mh_ur_ne (by decide), mh_ur_ne (by omega)] at i1; rw [mh_ur_ne (by omega), mh_ur_ne (by omega), e2, mh_up_row (by decide), e1, mh_up_row (by decide)]; exact hX.1 i i0 i1
      · rw [mh_ur_eq rfl] at i1; rw [mh_ur_ne (by omega), e2, mh_up_row (by decide), e1, mh_up_rs]
        by_cases z : i = s 5
        · rw [mh_ur_eq (by omega), mh_ur_eq (by omega)]
        · rw [mh_ur_ne (by omega), mh_ur_ne (by omega)]; exact hX.2 i i0 (by omega)
    refine mh_aload0 (pc := 47) F dX11_tell_47 ?_
    refine mh_getr (b := 25) (pc := 48) F sh_0 (by decide) fw_RX11_72_11 dX11_tell_48 rfl (fx_0_0 F2) ?_
    refine mh_geti (pc := 51) F sh_25 (by decide) fw_RX11_306_10 dX11_tell_51 rfl ?_
    refine mh_top (y := s 5 + 1) (mh_eqI (by rw [(sc_V_gets hVn).2.2.2.2.1, mh_ur_eq rfl])) ?_
    exact mh_ireturn F Z dX11_tell_54 ⟨_, _, _, (by unfold sp_tell; (repeat' split) <;> first | rfl | (exfalso; omega)), rfl, F2, (fr2.mono (by simp)), hVn, (hE.of (fr2 24 (by simp))), hXn⟩
  · refine mh_aload0 (pc := 12) F dX11_tell_12 ?_
    refine mh_iconst (pc := 13) F dX11_tell_13 ?_
    refine mh_callV0 (pc := 14) (As := [.int (Int32.ofInt (4))]) (st := []) F (by omega) (k8_refuse (by omega) hF rfl (by decide)) wv_RX11_90_yX11_refuse dX11_tell_14 sh_0 rfl (by decide) rfl rfl (Nat.le_of_ble_eq_true rfl) ⟨Nat.zero_le _, Nat.zero_le _⟩ (fun r3 h3 q3 => ?_)
    obtain ⟨rfl, F3, fr3, q3_0⟩ := q3
    have fr4 : mh_fr [24] h h3 := (mh_fr.tr mh_fr.rf fr3).mono (by simp)
    have hVr : sc_V h3 s := sc_V_fr hV (fun a a1 a2 a3 a4 => fr3 a (by simp; omega))
    have hEr : sc_E h3 (mh_ur er 4 (er 4 + 1)) := hE.up (by decide) q3_0
    exact mh_ireturn F Z dX11_tell_17 ⟨_, _, _, (by unfold sp_tell; (repeat' split) <;> first | rfl | (exfalso; omega)), rfl, F3, (fr4.mono (by simp)), hVr, hEr, (hX.of (fr4 32 (by simp)) (fr4 43 (by simp)))⟩

set_option maxRecDepth 100000 in
set_option maxHeartbeats 2000000 in
theorem q_count {g : mh_G} {d : Nat} (hd : 16 ≤ d) {h : Nat → Int → Int} (hF : mh_FX h) {s er o : Int → Int} {x : Int} (hx : -2147483648 ≤ x ∧ x < 2147483648) (ht : h 16 0 = o 22) (hi : sp_inv s) (hV : sc_V h s) (hE : sc_E h er) (hKN : sc_KN h) : mh_M g d yX11_count cX11_count 2 (some .int) 96 0 0 [.ref 0, .int (Int32.ofInt (x))] h (fun r h2 => ∃ (vv : Int) (tt ee : Int → Int), (vv, tt, ee) = sp_count x s er o ∧ r = some (.int (Int32.ofInt vv)) ∧ mh_FX h2 ∧ mh_fr [25, 36, 41, 44, 45, 46, 47, 48, 49, 24] h h2 ∧ sc_V h2 tt ∧ sc_E h2 ee) := by
  refine mh_M_of RX11 rfl (by decide +kernel) [some (.ref 0), some (.int (Int32.ofInt (x)))] rfl (Nat.le_of_ble_eq_true rfl) (fun f F Z hn0 hR => ?_)
  have hm := hi.1
  have hq0 := hi.2.1
  have hs1 := hi.2.2.1
  have hh := hi.2.2.2.1
  obtain ⟨n6, n7, n8, n10, n14, n15⟩ := hV.2.2
  refine mh_iload1 (pc := 0) F dX11_count_0 ?_
  by_cases c_1_0 : x = 0
  · refine mh_tabIn (pc := 1) (off := 55) (tgt := 56) F dX11_count_1 (by omega) (by omega) (by omega) (by rw [c_1_0]; rfl) rfl ?_
    refine mh_aload0 (pc := 56) F dX11_count_56 ?_
    refine mh_getr (b := 25) (pc := 57) F sh_0 (by decide) fw_RX11_72_11 dX11_count_57 rfl (fx_0_0 hF) ?_
    refine mh_geti (pc := 60) F sh_25 (by decide) fw_RX11_123_10 dX11_count_60 rfl ?_
    refine mh_top (y := s 3) (mh_eqI n6) ?_
    exact mh_ireturn F Z dX11_count_63 ⟨_, _, _, (by unfold sp_count; (repeat' split) <;> first | rfl | (exfalso; omega)), rfl, hF, (mh_fr.rf.mono (by simp)), hV, hE⟩
  by_cases c_1_1 : x = 1
  · refine mh_tabIn (pc := 1) (off := 63) (tgt := 64) F dX11_count_1 (by omega) (by omega) (by omega) (by rw [c_1_1]; rfl) rfl ?_
    refine mh_aload0 (pc := 64) F dX11_count_64 ?_
    refine mh_getr (b := 25) (pc := 65) F sh_0 (by decide) fw_RX11_72_11 dX11_count_65 rfl (fx_0_0 hF) ?_
    refine mh_geti (pc := 68) F sh_25 (by decide) fw_RX11_105_10 dX11_count_68 rfl ?_
    refine mh_top (y := s 0) (mh_eqI n7) ?_
    exact mh_ireturn F Z dX11_count_71 ⟨_, _, _, (by unfold sp_count; (repeat' split) <;> first | rfl | (exfalso; omega)), rfl, hF, (mh_fr.rf.mono (by simp)), hV, hE⟩
  by_cases c_1_2 : x = 2
  · refine mh_tabIn (pc := 1) (off := 71) (tgt := 72) F dX11_count_1 (by omega) (by omega) (by omega) (by rw [c_1_2]; rfl) rfl ?_
    refine mh_aload0 (pc := 72) F dX11_count_72 ?_
    refine mh_getr (b := 25) (pc := 73) F sh_0 (by decide) fw_RX11_72_11 dX11_count_73 rfl (fx_0_0 hF) ?_
    refine mh_geti (pc := 76) F sh_25 (by decide) fw_RX11_206_10 dX11_count_76 rfl ?_
    refine mh_top (y := s 1) (mh_eqI n8) ?_
    exact mh_ireturn F Z dX11_count_79 ⟨_, _, _, (by unfold sp_count; (repeat' split) <;> first | rfl | (exfalso; omega)), rfl, hF, (mh_fr.rf.mono (by simp)), hV, hE⟩
  by_cases c_1_3 : x = 3
  · refine mh_tabIn (pc := 1) (off := 79) (tgt := 80) F dX11_count_1 (by omega) (by omega) (by omega) (by rw [c_1_3]; rfl) rfl ?_
    refine mh_aload0 (pc := 80) F dX11_count_80 ?_
    refine mh_getr (b := 25) (pc := 81) F sh_0 (by decide) fw_RX11_72_11 dX11_count_81 rfl (fx_0_0 hF) ?_
    refine mh_iconst (pc := 84) F dX11_count_84 ?_
    refine mh_callVp (pc := 85) (As := [.int (Int32.ofInt (3))]) (st := []) F (by omega) (k4_howMany (by omega) hF hV.2.1 hV.2.2 (by omega) hi.2.2.2.2.1 (by omega)) wv_RX11_315_yX10_howMany dX11_count_85 sh_25 rfl (by decide) rfl rfl (Nat.le_of_ble_eq_true rfl) ⟨Nat.zero_le _, Nat.zero_le _⟩ ?_
    exact mh_ireturn F Z dX11_count_88 ⟨_, _, _, (by unfold sp_count; (repeat' split) <;> first | rfl | (exfalso; omega)), rfl, hF, (mh_fr.rf.mono (by simp)), hV, hE⟩
  by_cases c_1_4 : x = 4
  · refine mh_tabIn (pc := 1) (off := 88) (tgt := 89) F dX11_count_1 (by omega) (by omega) (by omega) (by rw [c_1_4]; rfl) rfl ?_
    refine mh_aload0 (pc := 89) F dX11_count_89 ?_
    refine mh_getr (b := 25) (pc := 90) F sh_0 (by decide) fw_RX11_72_11 dX11_count_90 rfl (fx_0_0 hF) ?_
    refine mh_iconst (pc := 93) F dX11_count_93 ?_
    refine mh_callVp (pc := 94) (As := [.int (Int32.ofInt (2))]) (st := []) F (by omega) (k4_howMany (by omega) hF hV.2.1 hV.2.2 (by omega) hi.2.2.2.2.1 (by omega)) wv_RX11_315_yX10_howMany dX11_count_94 sh_25 rfl (by decide) rfl rfl (Nat.le_of_ble_eq_true rfl) ⟨Nat.zero_le _, Nat.zero_le _⟩ ?_
    exact mh_ireturn F Z dX11_count_97 ⟨_, _, _, (by unfold sp_count; (repeat' split) <;> first | rfl | (exfalso; omega)), rfl, hF, (mh_fr.rf.mono (by simp)), hV, hE⟩
  by_cases c_1_5 : x = 5
  · refine mh_tabIn (pc := 1) (off := 97) (tgt := 98) F dX11_count_1 (by omega) (by omega) (by omega) (by rw [c_1_5]; rfl) rfl ?_
    refine mh_aload0 (pc := 98) F dX11_count_98 ?_
    refine mh_getr (b := 25) (pc := 99) F sh_0 (by decide) fw_RX11_72_11 dX11_count_99 rfl (fx_0_0 hF) ?_
    refine mh_callVp (pc := 102) (As := []) (st := []) F (by omega) (k4_sweetOnes (by omega) hF hV.2.1 hV.2.2 (by omega) hi.2.2.2.2.1) wv_RX11_318_yX10_sweetOnes dX11_count_102 sh_25 rfl (by decide) rfl rfl (Nat.le_of_ble_eq_true rfl) ⟨Nat.zero_le _, Nat.zero_le _⟩ ?_
    exact mh_ireturn F Z dX11_count_105 ⟨_, _, _, (by unfold sp_count; (repeat' split) <;> first | rfl | (exfalso; omega)), rfl, hF, (mh_fr.rf.mono (by simp)), hV, hE⟩
  by_cases c_1_6 : x = 6
  · refine mh_tabIn (pc := 1) (off := 105) (tgt := 106) F dX11_count_1 (by omega) (by omega) (by omega) (by rw [c_1_6]; rfl) rfl ?_
    refine mh_aload0 (pc := 106) F dX11_count_106 ?_
    refine mh_getr (b := 25) (pc := 107) F sh_0 (by decide) fw_RX11_72_11 dX11_count_107 rfl (fx_0_0 hF) ?_
    refine mh_geti (pc := 110) F sh_25 (by decide) fw_RX11_182_10 dX11_count_110 rfl ?_
    refine mh_top (y := s 4) (mh_eqI n10) ?_
    exact mh_ireturn F Z dX11_count_113 ⟨_, _, _, (by unfold sp_count; (repeat' split) <;> first | rfl | (exfalso; omega)), rfl, hF, (mh_fr.rf.mono (by simp)), hV, hE⟩
  by_cases c_1_7 : x = 7
  · refine mh_tabIn (pc := 1) (off := 113) (tgt := 114) F dX11_count_1 (by omega) (by omega) (by omega) (by rw [c_1_7]; rfl) rfl ?_
    refine mh_aload0 (pc := 114) F dX11_count_114 ?_
    refine mh_getr (b := 25) (pc := 115) F sh_0 (by decide) fw_RX11_72_11 dX11_count_115 rfl (fx_0_0 hF) ?_
    refine mh_geti (pc := 118) F sh_25 (by decide) fw_RX11_306_10 dX11_count_118 rfl ?_
    refine mh_top (y := s 5) (mh_eqI n14) ?_
    exact mh_ireturn F Z dX11_count_121 ⟨_, _, _, (by unfold sp_count; (repeat' split) <;> first | rfl | (exfalso; omega)), rfl, hF, (mh_fr.rf.mono (by simp)), hV, hE⟩
  by_cases c_1_8 : x = 8
  · refine mh_tabIn (pc := 1) (off := 121) (tgt := 122) F dX11_count_1 (by omega) (by omega) (by omega) (by rw [c_1_8]; rfl) rfl ?_
    refine mh_aload0 (pc := 122) F dX11_count_122 ?_
    refine mh_getr (b := 16) (pc := 123) F sh_0 (by decide) fw_RX11_49_11 dX11_count_123 rfl (fx_0_6 hF) ?_
    refine mh_iconst (pc := 126) F dX11_count_126 ?_
    refine mh_iaload (pc := 127) F sh_16 (by decide) (by omega) dX11_count_127 ?_
    refine mh_top (y := o 22) (mh_eqI ht) ?_
    exact mh_ireturn F Z dX11_count_128 ⟨_, _, _, (by unfold sp_count; (repeat' split) <;> first | rfl | (exfalso; omega)), rfl, hF, (mh_fr.rf.mono (by simp)), hV, hE⟩
  by_cases c_1_9 : x = 9
  · refine mh_tabIn (pc := 1) (off := 128) (tgt := 129) F dX11_count_1 (by omega) (by omega) (by omega) (by rw [c_1_9]; rfl) rfl ?_
    refine mh_aload0 (pc := 129) F dX11_count_129 ?_
    refine mh_getr (b := 25) (pc := 130) F sh_0 (by decide) fw_RX11_72_11 dX11_count_130 rfl (fx_0_0 hF) ?_
    refine mh_geti (pc := 133) F sh_25 (by decide) fw_RX11_259_10 dX11_count_133 rfl ?_
    refine mh_top (y := s 2) (mh_eqI n15) ?_
    exact mh_ireturn F Z dX11_count_136 ⟨_, _, _, (by unfold sp_count; (repeat' split) <;> first | rfl | (exfalso; omega)), rfl, hF, (mh_fr.rf.mono (by simp)), hV, hE⟩
  refine mh_tabOut (pc := 1) (tgt := 137) F dX11_count_1 (by omega) (by omega) rfl ?_
  refine mh_aload0 (pc := 137) F dX11_count_137 ?_
  refine mh_iconst (pc := 138) F dX11_count_138 ?_
  refine mh_callV0 (pc := 139) (As := [.int (Int32.ofInt (1))]) (st := []) F (by omega) (k8_refuse (by omega) hF rfl (by decide)) wv_RX11_90_yX11_refuse dX11_count_139 sh_0 rfl (by decide) rfl rfl (Nat.le_of_ble_eq_true rfl) ⟨Nat.zero_le _, Nat.zero_le _⟩ (fun r1 h1 q1 => ?_)
  obtain ⟨rfl, F1, fr1, q1_0⟩ := q1
  have fr2 : mh_fr [24] h h1 := (mh_fr.tr mh_fr.rf fr1).mono (by simp)
  have hVr : sc_V h1 s := sc_V_fr hV (fun a a1 a2 a3 a4 => fr1 a (by simp; omega))
  have hEr : sc_E h1 (mh_ur er 1 (er 1 + 1)) := hE.up (by decide) q1_0
  exact mh_ireturn F Z dX11_count_142 ⟨_, _, _, (by unfold sp_count; (repeat' split) <;> first | rfl | (exfalso; omega)), rfl, F1, (fr2.mono (by simp)), hVr, hEr⟩

