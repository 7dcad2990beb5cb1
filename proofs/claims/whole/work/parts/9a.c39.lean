/-! the class's reader: comparisons, brackets, names -/
set_option maxRecDepth 100000 in
set_option maxHeartbeats 2000000 in
theorem k39_cmp {g : mh_G} {d : Nat} (hd : 6 ≤ d) {h : Nat → Int → Int} {n t tp L U : Nat} {wr s : Int → Int} {p : sx_S} {x : Int} {G : sx_S → sx_S} (hq : sc_tq n t tp L s) (hD : sc_RD h t tp U wr s p) (hT : sc_TP h tp s) (hp : sx_pv s p) (hw : p.2.1 = 0) (hb : sx_by s) (hG : sx_gd s G) (HK : sc_rK g (d - 1) yX9_readSum cX9_readSum 5 n t tp U wr s x G) : mh_M g d yX9_readCompared cX9_readCompared 4 (some .boolean) n 0 0 [.ref t, .int (Int32.ofInt (x))] h (sc_rpo h t tp U wr s (sx_cm s G p)) := by
  refine mh_M_of RX9 rfl (by decide +kernel) [some (.ref t), some (.int (Int32.ofInt (x))), none, none] rfl (Nat.le_of_ble_eq_true rfl) (fun f F Z hn0 hR => ?_)
  obtain ⟨q1, q2, q3, q4, q5, q6, q7, zNE, q9⟩ := id hq
  obtain ⟨D9, D5, D8, D7, -, D4, D0⟩ := id hD
  have hT4 := hT.1
  have hb1 := hb.1
  refine mh_aload0 (pc := 0) F dX9_readCompared_0 ?_
  refine mh_iload1 (pc := 1) F dX9_readCompared_1 ?_
  refine mh_callV0 (pc := 2) (As := [.int (Int32.ofInt (x))]) (st := []) F (by omega) (HK _ _ hD hT hp hw) wv_RX9_99_yX9_readSum dX9_readCompared_2 hq.1 rfl hq.2.2.2.1 rfl rfl (Nat.le_of_ble_eq_true rfl) ⟨Nat.zero_le _, Nat.zero_le _⟩ (fun r1 h1 q1 => ?_)
  obtain ⟨rfl, frc1, hDc1⟩ := q1
  obtain ⟨p1, ep1⟩ : ∃ z : sx_S, z = G p := ⟨_, rfl⟩
  have hpg1 := hG p hp
  rw [← ep1] at hDc1 hpg1
  rw [← ep1]
  have fr2 : mh_fr [t, t + 2] h h1 := (mh_fr.tr mh_fr.rf frc1).mono (by simp)
  have hpv1 : sx_pv s p1 := hpg1.1
  have hsl1 := hpg1.2.1
  have hgo1 := hpg1.2.2.1
  obtain ⟨hp11, hp21, hp31⟩ := sx_pv_x hpv1
  have hrr1 := (sx_hr_z hb hpv1).1
  have hh1 := sx_hh hb hpv1
  refine mh_if_ne (pc := 5) (tgt := 10) F dX9_readCompared_5 rfl (by omega) (fun c_5 => ?_) (fun c_5 => ?_)
  · have hwq : p1.2.1 = 0 := by omega
    refine mh_aload0 (pc := 10) F dX9_readCompared_10 ?_
    refine mh_callVp (pc := 11) (As := []) (st := []) F (by omega) (k36_next (by omega) hq hDc1 (hT.fr (fr2 tp zNE)) hpv1 hwq) wv_RX9_102_yX9_next dX9_readCompared_11 hq.1 rfl hq.2.2.2.1 rfl rfl (Nat.le_of_ble_eq_true rfl) ⟨Nat.zero_le _, Nat.zero_le _⟩ ?_
    refine mh_istore2 (pc := 14) F dX9_readCompared_14 rfl (by decide) ?_
    refine mh_iload2 (pc := 15) F dX9_readCompared_15 ?_
    refine mh_bipush (pc := 16) F dX9_readCompared_16 rfl ?_
    refine mh_icmp_eq (pc := 18) (tgt := 35) F dX9_readCompared_18 rfl (by omega) (by omega) (fun c_18 => ?_) (fun c_18 => ?_)
    · have hq4 : p1.1 < s 4 ∧ p1.2.1 = 0 := by omega
      refine mh_aload0 (pc := 35) F dX9_readCompared_35 ?_
      refine mh_dup (pc := 36) F dX9_readCompared_36 rfl ?_
      refine mh_geti (pc := 37) F hq.1 hq.2.2.2.1 fw_RX9_67_9 dX9_readCompared_37 rfl ?_
      refine mh_iconst (pc := 40) F dX9_readCompared_40 ?_
      refine mh_iadd (pc := 41) F dX9_readCompared_41 ?_
      refine mh_puti (pc := 42) F hq.1 hq.2.2.2.1 pw_RX9_67_9 dX9_readCompared_42 ?_
      refine mh_nmh (fun h3 e3 => ?_)
      have fr3 : mh_fr [t, t + 2] h h3 := mh_fr.upi fr2 e3 (by simp)
      have hDn3 : sc_RD h3 t tp U wr s (sx_pa p1) := sc_RD_pa hDc1 (by rw [hDc1.1]) e3
      have hpn3 : sx_pv s (sx_pa p1) := sx_pa_pv (by omega) hpv1
      have e13 : (sx_pa p1).1 = p1.1 + 1 := rfl
      have e23 : (sx_pa p1).2.2.1 = p1.2.2.1 := rfl
      have e33 : (sx_pa p1).2.1 = p1.2.1 := rfl
      have hwn3 : (sx_pa p1).2.1 = 0 := by omega
      refine mh_aload0 (pc := 45) F dX9_readCompared_45 ?_
      refine mh_iload1 (pc := 46) F dX9_readCompared_46 ?_
      refine mh_callV0 (pc := 47) (As := [.int (Int32.ofInt (x))]) (st := []) F (by omega) (HK _ _ hDn3 (hT.fr (fr3 tp zNE)) hpn3 hwn3) wv_RX9_99_yX9_readSum dX9_readCompared_47 hq.1 rfl hq.2.2.2.1 rfl rfl (Nat.le_of_ble_eq_true rfl) ⟨Nat.zero_le _, Nat.zero_le _⟩ (fun r4 h4 q4 => ?_)
      obtain ⟨rfl, frc4, hDc4⟩ := q4
      obtain ⟨p4, ep4⟩ : ∃ z : sx_S, z = G (sx_pa p1) := ⟨_, rfl⟩
      have hpg4 := hG (sx_pa p1) hpn3
      rw [← ep4] at hDc4 hpg4
      rw [← ep4]
      have fr5 : mh_fr [t, t + 2] h h4 := (mh_fr.tr fr3 frc4).mono (by simp)
      have hpv4 : sx_pv s p4 := hpg4.1
      have hsl4 := hpg4.2.1
      have hgo4 := hpg4.2.2.1
      obtain ⟨hp14, hp24, hp34⟩ := sx_pv_x hpv4
      have hrr4 := (sx_hr_z hb hpv4).1
      have hh4 := sx_hh hb hpv4
      refine mh_istore3 (pc := 50) F dX9_readCompared_50 rfl (by decide) ?_
      have hm5 : sx_m5 p4 := fun z => by omega
      have hmp : 0 ≤ p4.2.2.1 := by omega
      refine mh_aload0 (pc := 51) F dX9_readCompared_51 ?_
      refine mh_iload2 (pc := 52) F dX9_readCompared_52 ?_
      refine mh_callV0 (pc := 53) (As := [.int (Int32.ofInt (sx_hr s p1))]) (st := []) F (by omega) (k36_write (c := sx_hr s p1) (v := -100 - sx_hr s p1) (by omega) hq hDc4 hm5 hmp (by rw [sc_de3 (by omega) (by omega)]) (by unfold sc_c1; omega)) wv_RX9_92_yX9_write dX9_readCompared_53 hq.1 rfl hq.2.2.2.1 rfl rfl (Nat.le_of_ble_eq_true rfl) ⟨Nat.zero_le _, Nat.zero_le _⟩ (fun r6 h6 q6 => ?_)
      obtain ⟨rfl, frw6, hDw6⟩ := q6
      have fr7 : mh_fr [t, t + 2] h h6 := (mh_fr.tr fr5 frw6).mono (by simp)
      refine mh_iload3 (pc := 56) F dX9_readCompared_56 ?_
      exact mh_zreturn F Z dX9_readCompared_57 (by omega) ⟨mh_sv (by unfold sx_cm; rw [← ep1, if_pos (by omega), ← ep4, sx_pp_e]), (fr7.mono (by simp)), (by unfold sx_cm; rw [← ep1, if_pos (by omega), ← ep4]; exact hDw6)⟩
    · refine mh_iload2 (pc := 21) F dX9_readCompared_21 ?_
      refine mh_bipush (pc := 22) F dX9_readCompared_22 rfl ?_
      refine mh_icmp_eq (pc := 24) (tgt := 35) F dX9_readCompared_24 rfl (by omega) (by omega) (fun c_24 => ?_) (fun c_24 => ?_)
      · have hq4 : p1.1 < s 4 ∧ p1.2.1 = 0 := by omega
        refine mh_aload0 (pc := 35) F dX9_readCompared_35 ?_
        refine mh_dup (pc := 36) F dX9_readCompared_36 rfl ?_
        refine mh_geti (pc := 37) F hq.1 hq.2.2.2.1 fw_RX9_67_9 dX9_readCompared_37 rfl ?_
        refine mh_iconst (pc := 40) F dX9_readCompared_40 ?_
        refine mh_iadd (pc := 41) F dX9_readCompared_41 ?_
        refine mh_puti (pc := 42) F hq.1 hq.2.2.2.1 pw_RX9_67_9 dX9_readCompared_42 ?_
        refine mh_nmh (fun h8 e8 => ?_)
        have fr8 : mh_fr [t, t + 2] h h8 := mh_fr.upi fr2 e8 (by simp)
        have hDn8 : sc_RD h8 t tp U wr s (sx_pa p1) := sc_RD_pa hDc1 (by rw [hDc1.1]) e8
        have hpn8 : sx_pv s (sx_pa p1) := sx_pa_pv (by omega) hpv1
        have e18 : (sx_pa p1).1 = p1.1 + 1 := rfl
        have e28 : (sx_pa p1).2.2.1 = p1.2.2.1 := rfl
        have e38 : (sx_pa p1).2.1 = p1.2.1 := rfl
        have hwn8 : (sx_pa p1).2.1 = 0 := by omega
        refine mh_aload0 (pc := 45) F dX9_readCompared_45 ?_
        refine mh_iload1 (pc := 46) F dX9_readCompared_46 ?_
        refine mh_callV0 (pc := 47) (As := [.int (Int32.ofInt (x))]) (st := []) F (by omega) (HK _ _ hDn8 (hT.fr (fr8 tp zNE)) hpn8 hwn8) wv_RX9_99_yX9_readSum dX9_readCompared_47 hq.1 rfl hq.2.2.2.1 rfl rfl (Nat.le_of_ble_eq_true rfl) ⟨Nat.zero_le _, Nat.zero_le _⟩ (fun r9 h9 q9 => ?_)
        obtain ⟨rfl, frc9, hDc9⟩ := q9
        obtain ⟨p9, ep9⟩ : ∃ z : sx_S, z = G (sx_pa p1) := ⟨_, rfl⟩
        have hpg9 := hG (sx_pa p1) hpn8
        rw [← ep9] at hDc9 hpg9
        rw [← ep9]
        have fr10 : mh_fr [t, t + 2] h h9 := (mh_fr.tr fr8 frc9).mono (by simp)
        have hpv9 : sx_pv s p9 := hpg9.1
        have hsl9 := hpg9.2.1
        have hgo9 := hpg9.2.2.1
        obtain ⟨hp19, hp29, hp39⟩ := sx_pv_x hpv9
        have hrr9 := (sx_hr_z hb hpv9).1
        have hh9 := sx_hh hb hpv9
        refine mh_istore3 (pc := 50) F dX9_readCompared_50 rfl (by decide) ?_
        have hm5 : sx_m5 p9 := fun z => by omega
        have hmp : 0 ≤ p9.2.2.1 := by omega
        refine mh_aload0 (pc := 51) F dX9_readCompared_51 ?_
        refine mh_iload2 (pc := 52) F dX9_readCompared_52 ?_
        refine mh_callV0 (pc := 53) (As := [.int (Int32.ofInt (sx_hr s p1))]) (st := []) F (by omega) (k36_write (c := sx_hr s p1) (v := -100 - sx_hr s p1) (by omega) hq hDc9 hm5 hmp (by rw [sc_de3 (by omega) (by omega)]) (by unfold sc_c1; omega)) wv_RX9_92_yX9_write dX9_readCompared_53 hq.1 rfl hq.2.2.2.1 rfl rfl (Nat.le_of_ble_eq_true rfl) ⟨Nat.zero_le _, Nat.zero_le _⟩ (fun r11 h11 q11 => ?_)
        obtain ⟨rfl, frw11, hDw11⟩ := q11
        have fr12 : mh_fr [t, t + 2] h h11 := (mh_fr.tr fr10 frw11).mono (by simp)
        refine mh_iload3 (pc := 56) F dX9_readCompared_56 ?_
        exact mh_zreturn F Z dX9_readCompared_57 (by omega) ⟨mh_sv (by unfold sx_cm; rw [← ep1, if_pos (by omega), ← ep9, sx_pp_e]), (fr12.mono (by simp)), (by unfold sx_cm; rw [← ep1, if_pos (by omega), ← ep9]; exact hDw11)⟩
      · refine mh_iload2 (pc := 27) F dX9_readCompared_27 ?_
        refine mh_bipush (pc := 28) F dX9_readCompared_28 rfl ?_
        refine mh_icmp_eq (pc := 30) (tgt := 35) F dX9_readCompared_30 rfl (by omega) (by omega) (fun c_30 => ?_) (fun c_30 => ?_)
        · have hq4 : p1.1 < s 4 ∧ p1.2.1 = 0 := by omega
          refine mh_aload0 (pc := 35) F dX9_readCompared_35 ?_
          refine mh_dup (pc := 36) F dX9_readCompared_36 rfl ?_
          refine mh_geti (pc := 37) F hq.1 hq.2.2.2.1 fw_RX9_67_9 dX9_readCompared_37 rfl ?_
          refine mh_iconst (pc := 40) F dX9_readCompared_40 ?_
          refine mh_iadd (pc := 41) F dX9_readCompared_41 ?_
          refine mh_puti (pc := 42) F hq.1 hq.2.2.2.1 pw_RX9_67_9 dX9_readCompared_42 ?_
          refine mh_nmh (fun h13 e13 => ?_)
          have fr13 : mh_fr [t, t + 2] h h13 := mh_fr.upi fr2 e13 (by simp)
          have hDn13 : sc_RD h13 t tp U wr s (sx_pa p1) := sc_RD_pa hDc1 (by rw [hDc1.1]) e13
          have hpn13 : sx_pv s (sx_pa p1) := sx_pa_pv (by omega) hpv1
          have e113 : (sx_pa p1).1 = p1.1 + 1 := rfl
          have e213 : (sx_pa p1).2.2.1 = p1.2.2.1 := rfl
          have e313 : (sx_pa p1).2.1 = p1.2.1 := rfl
          have hwn13 : (sx_pa p1).2.1 = 0 := by omega
          refine mh_aload0 (pc := 45) F dX9_readCompared_45 ?_
          refine mh_iload1 (pc := 46) F dX9_readCompared_46 ?_
          refine mh_callV0 (pc := 47) (As := [.int (Int32.ofInt (x))]) (st := []) F (by omega) (HK _ _ hDn13 (hT.fr (fr13 tp zNE)) hpn13 hwn13) wv_RX9_99_yX9_readSum dX9_readCompared_47 hq.1 rfl hq.2.2.2.1 rfl rfl (Nat.le_of_ble_eq_true rfl) ⟨Nat.zero_le _, Nat.zero_le _⟩ (fun r14 h14 q14 => ?_)
          obtain ⟨rfl, frc14, hDc14⟩ := q14
          obtain ⟨p14, ep14⟩ : ∃ z : sx_S, z = G (sx_pa p1) := ⟨_, rfl⟩
          have hpg14 := hG (sx_pa p1) hpn13
          rw [← ep14] at hDc14 hpg14
          rw [← ep14]
          have fr15 : mh_fr [t, t + 2] h h14 := (mh_fr.tr fr13 frc14).mono (by simp)
          have hpv14 : sx_pv s p14 := hpg14.1
          have hsl14 := hpg14.2.1
          have hgo14 := hpg14.2.2.1
          obtain ⟨hp114, hp214, hp314⟩ := sx_pv_x hpv14
          have hrr14 := (sx_hr_z hb hpv14).1
          have hh14 := sx_hh hb hpv14
          refine mh_istore3 (pc := 50) F dX9_readCompared_50 rfl (by decide) ?_
          have hm5 : sx_m5 p14 := fun z => by omega
          have hmp : 0 ≤ p14.2.2.1 := by omega
          refine mh_aload0 (pc := 51) F dX9_readCompared_51 ?_
          refine mh_iload2 (pc := 52) F dX9_readCompared_52 ?_
          refine mh_callV0 (pc := 53) (As := [.int (Int32.ofInt (sx_hr s p1))]) (st := []) F (by omega) (k36_write (c := sx_hr s p1) (v := -100 - sx_hr s p1) (by omega) hq hDc14 hm5 hmp (by rw [sc_de3 (by omega) (by omega)]) (by unfold sc_c1; omega)) wv_RX9_92_yX9_write dX9_readCompared_53 hq.1 rfl hq.2.2.2.1 rfl rfl (Nat.le_of_ble_eq_true rfl) ⟨Nat.zero_le _, Nat.zero_le _⟩ (fun r16 h16 q16 => ?_)
          obtain ⟨rfl, frw16, hDw16⟩ := q16
          have fr17 : mh_fr [t, t + 2] h h16 := (mh_fr.tr fr15 frw16).mono (by simp)
          refine mh_iload3 (pc := 56) F dX9_readCompared_56 ?_
          exact mh_zreturn F Z dX9_readCompared_57 (by omega) ⟨mh_sv (by unfold sx_cm; rw [← ep1, if_pos (by omega), ← ep14, sx_pp_e]), (fr17.mono (by simp)), (by unfold sx_cm; rw [← ep1, if_pos (by omega), ← ep14]; exact hDw16)⟩
        · refine mh_iconst (pc := 33) F dX9_readCompared_33 ?_
          exact mh_zreturn F Z dX9_readCompared_34 (by omega) ⟨mh_sv (by unfold sx_cm; rw [← ep1, if_neg (by omega)]; omega), (fr2.mono (by simp)), (by unfold sx_cm; rw [← ep1, if_neg (by omega)]; exact hDc1)⟩
  · refine mh_iconst (pc := 8) F dX9_readCompared_8 ?_
    exact mh_zreturn F Z dX9_readCompared_9 (by omega) ⟨mh_sv (by unfold sx_cm; rw [← ep1, if_neg (by omega)]; omega), (fr2.mono (by simp)), (by unfold sx_cm; rw [← ep1, if_neg (by omega)]; exact hDc1)⟩

set_option maxRecDepth 100000 in
set_option maxHeartbeats 2000000 in
theorem k39_open {g : mh_G} {d : Nat} (hd : 6 ≤ d) {h : Nat → Int → Int} {n t tp L U : Nat} {wr s : Int → Int} {p : sx_S} {x : Int} (hq : sc_tq n t tp L s) (hD : sc_RD h t tp U wr s p) (hT : sc_TP h tp s) (hp : sx_pv s p) (hw : p.2.1 = 0) (hb : sx_by s) (hho : sx_hr s p = 33 ∨ sx_hr s p = 40) (HS : sc_rK g (d - 1) yX9_readSingle cX9_readSingle 3 n t tp U wr s x (sx_Q s (U : Int) (5 - x).toNat)) (HA : sc_rK g (d - 1) yX9_readAny cX9_readAny 4 n t tp U wr s x (sx_T s (sx_Q s (U : Int) (5 - x).toNat))) : mh_M g d yX9_readOpened cX9_readOpened 4 (some .boolean) n 0 0 [.ref t, .int (Int32.ofInt (x))] h (sc_rpo h t tp U wr s (sc_rO s (U : Int) (5 - x).toNat p)) := by
  refine mh_M_of RX9 rfl (by decide +kernel) [some (.ref t), some (.int (Int32.ofInt (x))), none, none] rfl (Nat.le_of_ble_eq_true rfl) (fun f F Z hn0 hR => ?_)
  obtain ⟨q1, q2, q3, q4, q5, q6, q7, zNE, q9⟩ := id hq
  obtain ⟨D9, D5, D8, D7, -, D4, D0⟩ := id hD
  have hT4 := hT.1
  have hb1 := hb.1
  obtain ⟨hp1, hp2, hp3⟩ := sx_pv_x hp
  have hrr := (sx_hr_z hb hp).1
  have hh := sx_hh hb hp
  refine mh_aload0 (pc := 0) F dX9_readOpened_0 ?_
  refine mh_bipush (pc := 1) F dX9_readOpened_1 rfl ?_
  refine mh_callVp (pc := 3) (As := [.int (Int32.ofInt (33))]) (st := []) F (by omega) (k36_sees (x := 33) (by omega) hq hD hT hp hw hb (by omega)) wv_RX9_88_yX9_sees dX9_readOpened_3 hq.1 rfl hq.2.2.2.1 rfl rfl (Nat.le_of_ble_eq_true rfl) ⟨Nat.zero_le _, Nat.zero_le _⟩ ?_
  refine mh_istore2 (pc := 6) F dX9_readOpened_6 rfl (by decide) ?_
  have hq4 : p.1 < s 4 ∧ p.2.1 = 0 := by omega
  refine mh_aload0 (pc := 7) F dX9_readOpened_7 ?_
  refine mh_dup (pc := 8) F dX9_readOpened_8 rfl ?_
  refine mh_geti (pc := 9) F hq.1 hq.2.2.2.1 fw_RX9_67_9 dX9_readOpened_9 rfl ?_
  refine mh_iconst (pc := 12) F dX9_readOpened_12 ?_
  refine mh_iadd (pc := 13) F dX9_readOpened_13 ?_
  refine mh_puti (pc := 14) F hq.1 hq.2.2.2.1 pw_RX9_67_9 dX9_readOpened_14 ?_
  refine mh_nmh (fun h1 e1 => ?_)
  have fr1 : mh_fr [t] h h1 := mh_fr.up mh_fr.rf e1
  have hDn1 : sc_RD h1 t tp U wr s (sx_pa p) := sc_RD_pa hD (by rw [hD.1]) e1
  have hpn1 : sx_pv s (sx_pa p) := sx_pa_pv (by omega) hp
  have e11 : (sx_pa p).1 = p.1 + 1 := rfl
  have e21 : (sx_pa p).2.2.1 = p.2.2.1 := rfl
  have e31 : (sx_pa p).2.1 = p.2.1 := rfl
  have hwn1 : (sx_pa p).2.1 = 0 := by omega
  refine mh_iload2 (pc := 17) F dX9_readOpened_17 ?_
  refine mh_ifb_eq (pc := 18) (tgt := 35) F dX9_readOpened_18 rfl (fun c_18 => ?_) (fun c_18 => ?_)
  · refine mh_aload0 (pc := 35) F dX9_readOpened_35 ?_
    refine mh_iload1 (pc := 36) F dX9_readOpened_36 ?_
    refine mh_callV0 (pc := 37) (As := [.int (Int32.ofInt (x))]) (st := []) F (by omega) (HA _ _ hDn1 (hT.fr ((mh_fr.mono (S' := [t, t + 2]) fr1 (by simp)) tp zNE)) hpn1 hwn1) wv_RX9_73_yX9_readAny dX9_readOpened_37 hq.1 rfl hq.2.2.2.1 rfl rfl (Nat.le_of_ble_eq_true rfl) ⟨Nat.zero_le _, Nat.zero_le _⟩ (fun r2 h2 q2 => ?_)
    obtain ⟨rfl, frc2, hDc2⟩ := q2
    obtain ⟨p2, ep2⟩ : ∃ z : sx_S, z = (sx_T s (sx_Q s (U : Int) (5 - x).toNat)) (sx_pa p) := ⟨_, rfl⟩
    have hpg2 := (sx_T_gd hb (sx_Q_gd (u := (U : Int)) hb (5 - x).toNat)) (sx_pa p) hpn1
    rw [← ep2] at hDc2 hpg2
    rw [← ep2]
    have fr3 : mh_fr [t + 2, t] h h2 := (mh_fr.tr fr1 frc2).mono (by simp)
    have hpv2 : sx_pv s p2 := hpg2.1
    have hsl2 := hpg2.2.1
    have hgo2 := hpg2.2.2.1
    obtain ⟨hp12, hp22, hp32⟩ := sx_pv_x hpv2
    have hrr2 := (sx_hr_z hb hpv2).1
    have hh2 := sx_hh hb hpv2
    refine mh_if_eq (pc := 40) (tgt := 52) F dX9_readOpened_40 rfl (by omega) (fun c_40 => ?_) (fun c_40 => ?_)
    · refine mh_iconst (pc := 52) F dX9_readOpened_52 ?_
      exact mh_zreturn F Z dX9_readOpened_53 (by omega) ⟨mh_sv (by unfold sc_rO sx_cl; rw [if_neg (by omega), ← ep2, if_neg (by omega)]; rfl), (fr3.mono (by simp)), (by unfold sc_rO sx_cl; rw [if_neg (by omega), ← ep2, if_neg (by omega)]; exact sc_RD_pw hDc2)⟩
    · have hwq : p2.2.1 = 0 := by omega
      refine mh_aload0 (pc := 43) F dX9_readOpened_43 ?_
      refine mh_bipush (pc := 44) F dX9_readOpened_44 rfl ?_
      refine mh_callVp (pc := 46) (As := [.int (Int32.ofInt (41))]) (st := []) F (by omega) (k36_sees (x := 41) (by omega) hq hDc2 (hT.fr ((mh_fr.mono (S' := [t, t + 2]) fr3 (by simp)) tp zNE)) hpv2 hwq hb (by omega)) wv_RX9_88_yX9_sees dX9_readOpened_46 hq.1 rfl hq.2.2.2.1 rfl rfl (Nat.le_of_ble_eq_true rfl) ⟨Nat.zero_le _, Nat.zero_le _⟩ ?_
      refine mh_ifb_ne (pc := 49) (tgt := 54) F dX9_readOpened_49 rfl (fun c_49 => ?_) (fun c_49 => ?_)
      · have hq4 : p2.1 < s 4 ∧ p2.2.1 = 0 := by omega
        refine mh_aload0 (pc := 54) F dX9_readOpened_54 ?_
        refine mh_dup (pc := 55) F dX9_readOpened_55 rfl ?_
        refine mh_geti (pc := 56) F hq.1 hq.2.2.2.1 fw_RX9_67_9 dX9_readOpened_56 rfl ?_
        refine mh_iconst (pc := 59) F dX9_readOpened_59 ?_
        refine mh_iadd (pc := 60) F dX9_readOpened_60 ?_
        refine mh_puti (pc := 61) F hq.1 hq.2.2.2.1 pw_RX9_67_9 dX9_readOpened_61 ?_
        refine mh_nmh (fun h4 e4 => ?_)
        have fr4 : mh_fr [t + 2, t] h h4 := mh_fr.upi fr3 e4 (by simp)
        have hDn4 : sc_RD h4 t tp U wr s (sx_pa p2) := sc_RD_pa hDc2 (by rw [hDc2.1]) e4
        have hpn4 : sx_pv s (sx_pa p2) := sx_pa_pv (by omega) hpv2
        have e14 : (sx_pa p2).1 = p2.1 + 1 := rfl
        have e24 : (sx_pa p2).2.2.1 = p2.2.2.1 := rfl
        have e34 : (sx_pa p2).2.1 = p2.2.1 := rfl
        have hwn4 : (sx_pa p2).2.1 = 0 := by omega
        refine mh_iconst (pc := 64) F dX9_readOpened_64 ?_
        exact mh_zreturn F Z dX9_readOpened_65 (by omega) ⟨mh_sv (by unfold sc_rO sx_cl; rw [if_neg (by omega), ← ep2, if_pos (by omega)]; omega), (fr4.mono (by simp)), (by unfold sc_rO sx_cl; rw [if_neg (by omega), ← ep2, if_pos (by omega)]; exact hDn4)⟩
      · refine mh_iconst (pc := 52) F dX9_readOpened_52 ?_
        exact mh_zreturn F Z dX9_readOpened_53 (by omega) ⟨mh_sv (by unfold sc_rO sx_cl; rw [if_neg (by omega), ← ep2, if_neg (by omega)]; rfl), (fr3.mono (by simp)), (by unfold sc_rO sx_cl; rw [if_neg (by omega), ← ep2, if_neg (by omega)]; exact sc_RD_pw hDc2)⟩
  · refine mh_aload0 (pc := 21) F dX9_readOpened_21 ?_
    refine mh_iload1 (pc := 22) F dX9_readOpened_22 ?_
    refine mh_callV0 (pc := 23) (As := [.int (Int32.ofInt (x))]) (st := []) F (by omega) (HS _ _ hDn1 (hT.fr ((mh_fr.mono (S' := [t, t + 2]) fr1 (by simp)) tp zNE)) hpn1 hwn1) wv_RX9_108_yX9_readSingle dX9_readOpened_23 hq.1 rfl hq.2.2.2.1 rfl rfl (Nat.le_of_ble_eq_true rfl) ⟨Nat.zero_le _, Nat.zero_le _⟩ (fun r5 h5 q5 => ?_)
    obtain ⟨rfl, frc5, hDc5⟩ := q5
    obtain ⟨p5, ep5⟩ : ∃ z : sx_S, z = (sx_Q s (U : Int) (5 - x).toNat) (sx_pa p) := ⟨_, rfl⟩
    have hpg5 := (sx_Q_gd (u := (U : Int)) hb (5 - x).toNat) (sx_pa p) hpn1
    rw [← ep5] at hDc5 hpg5
    rw [← ep5]
    have fr6 : mh_fr [t + 2, t] h h5 := (mh_fr.tr fr1 frc5).mono (by simp)
    have hpv5 : sx_pv s p5 := hpg5.1
    have hsl5 := hpg5.2.1
    have hgo5 := hpg5.2.2.1
    obtain ⟨hp15, hp25, hp35⟩ := sx_pv_x hpv5
    have hrr5 := (sx_hr_z hb hpv5).1
    have hh5 := sx_hh hb hpv5
    refine mh_istore3 (pc := 26) F dX9_readOpened_26 rfl (by decide) ?_
    have hm5 : sx_m5 p5 := fun z => by omega
    have hmp : 0 ≤ p5.2.2.1 := by omega
    refine mh_aload0 (pc := 27) F dX9_readOpened_27 ?_
    refine mh_bipush (pc := 28) F dX9_readOpened_28 rfl ?_
    refine mh_callV0 (pc := 30) (As := [.int (Int32.ofInt (33))]) (st := []) F (by omega) (k36_write (c := 33) (v := -133) (by omega) hq hDc5 hm5 hmp (by rw [sc_de3 (by decide) (by decide)]; rfl) (by unfold sc_c1; omega)) wv_RX9_92_yX9_write dX9_readOpened_30 hq.1 rfl hq.2.2.2.1 rfl rfl (Nat.le_of_ble_eq_true rfl) ⟨Nat.zero_le _, Nat.zero_le _⟩ (fun r7 h7 q7 => ?_)
    obtain ⟨rfl, frw7, hDw7⟩ := q7
    have fr8 : mh_fr [t + 2, t] h h7 := (mh_fr.tr fr6 frw7).mono (by simp)
    refine mh_iload3 (pc := 33) F dX9_readOpened_33 ?_
    exact mh_zreturn F Z dX9_readOpened_34 (by omega) ⟨mh_sv (by unfold sc_rO; rw [if_pos (by omega), ← ep5, sx_pp_e]), (fr8.mono (by simp)), (by unfold sc_rO; rw [if_pos (by omega), ← ep5]; exact hDw7)⟩

set_option maxRecDepth 100000 in
set_option maxHeartbeats 2000000 in
theorem k39_single {g : mh_G} {d : Nat} (hd : 7 ≤ d) {h : Nat → Int → Int} {n t tp L U : Nat} {wr s : Int → Int} {p : sx_S} {x : Int} (hq : sc_tq n t tp L s) (hD : sc_RD h t tp U wr s p) (hT : sc_TP h tp s) (hp : sx_pv s p) (hw : p.2.1 = 0) (hb : sx_by s) (hU : U = 0 ∨ U = 1) (hx : 0 ≤ x ∧ x ≤ 5) (HO : x < 5 → sc_rKO g (d - 1) n t tp U wr s (x + 1) (5 - (x + 1)).toNat) : mh_M g d yX9_readSingle cX9_readSingle 3 (some .boolean) n 0 0 [.ref t, .int (Int32.ofInt (x))] h (sc_rpo h t tp U wr s (sx_Q s (U : Int) (5 - x).toNat p)) := by
  refine mh_M_of RX9 rfl (by decide +kernel) [some (.ref t), some (.int (Int32.ofInt (x))), none] rfl (Nat.le_of_ble_eq_true rfl) (fun f F Z hn0 hR => ?_)
  obtain ⟨q1, q2, q3, q4, q5, q6, q7, zNE, q9⟩ := id hq
  obtain ⟨D9, D5, D8, D7, -, D4, D0⟩ := id hD
  have hT4 := hT.1
  have hb1 := hb.1
  have hnm := sx_nm_rg (U : Int) (sx_hr s p)
  obtain ⟨hp1, hp2, hp3⟩ := sx_pv_x hp
  have hrr := (sx_hr_z hb hp).1
  have hh := sx_hh hb hp
  refine mh_aload0 (pc := 0) F dX9_readSingle_0 ?_
  refine mh_callVp (pc := 1) (As := []) (st := []) F (by omega) (k36_digit (by omega) hq hD hT hp hw hb) wv_RX9_111_yX9_seesDigit dX9_readSingle_1 hq.1 rfl hq.2.2.2.1 rfl rfl (Nat.le_of_ble_eq_true rfl) ⟨Nat.zero_le _, Nat.zero_le _⟩ ?_
  refine mh_ifb_eq (pc := 4) (tgt := 13) F dX9_readSingle_4 rfl (fun c_4 => ?_) (fun c_4 => ?_)
  · refine mh_aload0 (pc := 13) F dX9_readSingle_13 ?_
    refine mh_bipush (pc := 14) F dX9_readSingle_14 rfl ?_
    refine mh_callVp (pc := 16) (As := [.int (Int32.ofInt (33))]) (st := []) F (by omega) (k36_sees (x := 33) (by omega) hq hD hT hp hw hb (by omega)) wv_RX9_88_yX9_sees dX9_readSingle_16 hq.1 rfl hq.2.2.2.1 rfl rfl (Nat.le_of_ble_eq_true rfl) ⟨Nat.zero_le _, Nat.zero_le _⟩ ?_
    refine mh_ifb_ne (pc := 19) (tgt := 31) F dX9_readSingle_19 rfl (fun c_19 => ?_) (fun c_19 => ?_)
    · refine mh_iload1 (pc := 31) F dX9_readSingle_31 ?_
      refine mh_iconst (pc := 32) F dX9_readSingle_32 ?_
      refine mh_icmp_ge (pc := 33) (tgt := 50) F dX9_readSingle_33 rfl (by omega) (by omega) (fun c_33 => ?_) (fun c_33 => ?_)
      · refine mh_iconst (pc := 50) F dX9_readSingle_50 ?_
        exact mh_zreturn F Z dX9_readSingle_51 (by omega) ⟨mh_sv (by rw [show sx_Q s (U : Int) (5 - x).toNat p = sx_pw p from (by first | (rw [show (5 - x).toNat = 0 by omega, sx_Q_0 (by omega) (by omega)]; done) | exact sx_Q_oth _ (by omega) (by omega) (by omega) (by omega))]; rfl), (mh_fr.rf.mono (by simp)), (by rw [show sx_Q s (U : Int) (5 - x).toNat p = sx_pw p from (by first | (rw [show (5 - x).toNat = 0 by omega, sx_Q_0 (by omega) (by omega)]; done) | exact sx_Q_oth _ (by omega) (by omega) (by omega) (by omega))]; exact sc_RD_pw hD)⟩
      · refine mh_aload0 (pc := 36) F dX9_readSingle_36 ?_
        refine mh_iload1 (pc := 37) F dX9_readSingle_37 ?_
        refine mh_iconst (pc := 38) F dX9_readSingle_38 ?_
        refine mh_iadd (pc := 39) F dX9_readSingle_39 ?_
        refine mh_callV0 (pc := 40) (As := [.int (Int32.ofInt (x + 1))]) (st := []) F (by omega) (HO (by omega) _ _ hD hT hp hw (by omega)) wv_RX9_118_yX9_readOpened dX9_readSingle_40 hq.1 rfl hq.2.2.2.1 rfl rfl (Nat.le_of_ble_eq_true rfl) ⟨Nat.zero_le _, Nat.zero_le _⟩ (fun r1 h1 q1 => ?_)
        obtain ⟨rfl, frw1, hDw1⟩ := q1
        have hOe : sc_rO s (U : Int) (5 - (x + 1)).toNat p = sx_Q s (U : Int) (5 - x).toNat p := by
          rw [show (5 - x).toNat = (5 - (x + 1)).toNat + 1 by omega]
          unfold sc_rO
          rcases (show sx_hr s p = 33 ∨ sx_hr s p = 40 by omega) with z | z
          · rw [if_pos z, sx_Q_33 _ (by omega) z]
          · rw [if_neg (by omega), sx_Q_40 _ (by omega) z]
        rw [hOe] at hDw1
        rw [hOe]
        have hpr := (sx_pv_x (sx_Q_gd (u := (U : Int)) hb (5 - x).toNat p hp).1).2.2
        have fr2 : mh_fr [t, t + 2] h h1 := (mh_fr.tr mh_fr.rf frw1).mono (by simp)
        refine mh_if_eq (pc := 43) (tgt := 50) F dX9_readSingle_43 rfl (by omega) (fun c_43 => ?_) (fun c_43 => ?_)
        · refine mh_iconst (pc := 50) F dX9_readSingle_50 ?_
          exact mh_zreturn F Z dX9_readSingle_51 (by omega) ⟨mh_sv (by omega), (fr2.mono (by simp)), hDw1⟩
        · refine mh_iconst (pc := 46) F dX9_readSingle_46 ?_
          refine mh_goto (pc := 47) (tgt := 51) F dX9_readSingle_47 rfl ?_
          exact mh_zreturn F Z dX9_readSingle_51 (by omega) ⟨mh_sv (by omega), (fr2.mono (by simp)), hDw1⟩
    · refine mh_aload0 (pc := 22) F dX9_readSingle_22 ?_
      refine mh_bipush (pc := 23) F dX9_readSingle_23 rfl ?_
      refine mh_callVp (pc := 25) (As := [.int (Int32.ofInt (40))]) (st := []) F (by omega) (k36_sees (x := 40) (by omega) hq hD hT hp hw hb (by omega)) wv_RX9_88_yX9_sees dX9_readSingle_25 hq.1 rfl hq.2.2.2.1 rfl rfl (Nat.le_of_ble_eq_true rfl) ⟨Nat.zero_le _, Nat.zero_le _⟩ ?_
      refine mh_ifb_eq (pc := 28) (tgt := 52) F dX9_readSingle_28 rfl (fun c_28 => ?_) (fun c_28 => ?_)
      · refine mh_aload0 (pc := 52) F dX9_readSingle_52 ?_
        refine mh_callVp (pc := 53) (As := []) (st := []) F (by omega) (k36_next (by omega) hq hD hT hp hw) wv_RX9_102_yX9_next dX9_readSingle_53 hq.1 rfl hq.2.2.2.1 rfl rfl (Nat.le_of_ble_eq_true rfl) ⟨Nat.zero_le _, Nat.zero_le _⟩ ?_
        refine mh_if_ge (pc := 56) (tgt := 63) F dX9_readSingle_56 rfl (by omega) (fun c_56 => ?_) (fun c_56 => ?_)
        · refine mh_aload0 (pc := 63) F dX9_readSingle_63 ?_
          refine mh_getr (b := 1000000 + U) (pc := 64) F hq.1 hq.2.2.2.1 fw_RX9_21_9 dX9_readSingle_64 rfl hD.2.2.2.2.2.2.1 ?_
          refine mh_aload0 (pc := 67) F dX9_readSingle_67 ?_
          refine mh_callVp (pc := 68) (As := []) (st := [.ref (1000000 + U)]) F (by omega) (k36_next (by omega) hq hD hT hp hw) wv_RX9_102_yX9_next dX9_readSingle_68 hq.1 rfl hq.2.2.2.1 rfl rfl (Nat.le_of_ble_eq_true rfl) ⟨Nat.zero_le _, Nat.zero_le _⟩ ?_
          refine mh_i2c (pc := 71) F dX9_readSingle_71 ?_
          refine mh_top (y := sx_hr s p) (mh_eqI (mh_c16v (by omega))) ?_
          refine mh_callVSp (pc := 72) (As := [.int (Int32.ofInt (sx_hr s p))]) (st := []) F (by omega) (i := U) (by omega) rfl (ks_ixU (x := sx_hr s p) (by omega) hU (by omega)) wv_RX9_121_yJ0_indexOf_0f7a4 dX9_readSingle_72 rfl rfl rfl (Nat.le_of_ble_eq_true rfl) ⟨Nat.zero_le _, Nat.zero_le _⟩ ?_
          refine mh_istore2 (pc := 75) F dX9_readSingle_75 rfl (by decide) ?_
          refine mh_iload2 (pc := 76) F dX9_readSingle_76 ?_
          refine mh_if_ge (pc := 77) (tgt := 82) F dX9_readSingle_77 rfl (by omega) (fun c_77 => ?_) (fun c_77 => ?_)
          · have hq4 : p.1 < s 4 ∧ p.2.1 = 0 := by omega
            refine mh_aload0 (pc := 82) F dX9_readSingle_82 ?_
            refine mh_dup (pc := 83) F dX9_readSingle_83 rfl ?_
            refine mh_geti (pc := 84) F hq.1 hq.2.2.2.1 fw_RX9_67_9 dX9_readSingle_84 rfl ?_
            refine mh_iconst (pc := 87) F dX9_readSingle_87 ?_
            refine mh_iadd (pc := 88) F dX9_readSingle_88 ?_
            refine mh_puti (pc := 89) F hq.1 hq.2.2.2.1 pw_RX9_67_9 dX9_readSingle_89 ?_
            refine mh_nmh (fun h3 e3 => ?_)
            have fr3 : mh_fr [t] h h3 := mh_fr.up mh_fr.rf e3
            have hDn3 : sc_RD h3 t tp U wr s (sx_pa p) := sc_RD_pa hD (by rw [hD.1]) e3
            have hpn3 : sx_pv s (sx_pa p) := sx_pa_pv (by omega) hp
            have e13 : (sx_pa p).1 = p.1 + 1 := rfl
            have e23 : (sx_pa p).2.2.1 = p.2.2.1 := rfl
            have e33 : (sx_pa p).2.1 = p.2.1 := rfl
            have hwn3 : (sx_pa p).2.1 = 0 := by omega
            have hm5 : sx_m5 (sx_pa p) := fun z => by omega
            have hmp : 0 ≤ (sx_pa p).2.2.1 := by omega
            refine mh_aload0 (pc := 92) F dX9_readSingle_92 ?_
            refine mh_iload2 (pc := 93) F dX9_readSingle_93 ?_
            refine mh_callV0 (pc := 94) (As := [.int (Int32.ofInt (sx_nm (U : Int) (sx_hr s p)))]) (st := []) F (by omega) (k36_write (c := sx_nm (U : Int) (sx_hr s p)) (v := -1 - sx_nm (U : Int) (sx_hr s p)) (by omega) hq hDn3 hm5 hmp (by rw [sc_de2 (by omega)]) (by unfold sc_c1; omega)) wv_RX9_92_yX9_write dX9_readSingle_94 hq.1 rfl hq.2.2.2.1 rfl rfl (Nat.le_of_ble_eq_true rfl) ⟨Nat.zero_le _, Nat.zero_le _⟩ (fun r4 h4 q4 => ?_)
            obtain ⟨rfl, frw4, hDw4⟩ := q4
            have fr5 : mh_fr [t + 2, t] h h4 := (mh_fr.tr fr3 frw4).mono (by simp)
            refine mh_iconst (pc := 97) F dX9_readSingle_97 ?_
            exact mh_zreturn F Z dX9_readSingle_98 (by omega) ⟨mh_sv (by rw [sx_Q_nam _ (by omega) (by omega), sx_pp_e]; omega), (fr5.mono (by simp)), (by rw [sx_Q_nam _ (by omega) (by omega)]; exact hDw4)⟩
          · refine mh_iconst (pc := 80) F dX9_readSingle_80 ?_
            exact mh_zreturn F Z dX9_readSingle_81 (by omega) ⟨mh_sv (by rw [show sx_Q s (U : Int) (5 - x).toNat p = sx_pw p from (by first | (rw [show (5 - x).toNat = 0 by omega, sx_Q_0 (by omega) (by omega)]; done) | exact sx_Q_oth _ (by omega) (by omega) (by omega) (by omega))]; rfl), (mh_fr.rf.mono (by simp)), (by rw [show sx_Q s (U : Int) (5 - x).toNat p = sx_pw p from (by first | (rw [show (5 - x).toNat = 0 by omega, sx_Q_0 (by omega) (by omega)]; done) | exact sx_Q_oth _ (by omega) (by omega) (by omega) (by omega))]; exact sc_RD_pw hD)⟩
        · refine mh_iconst (pc := 59) F dX9_readSingle_59 ?_
          refine mh_goto (pc := 60) (tgt := 75) F dX9_readSingle_60 rfl ?_
          refine mh_istore2 (pc := 75) F dX9_readSingle_75 rfl (by decide) ?_
          refine mh_iload2 (pc := 76) F dX9_readSingle_76 ?_
          refine mh_if_ge (pc := 77) (tgt := 82) F dX9_readSingle_77 rfl (by omega) (fun c_77 => ?_) (fun c_77 => ?_)
          · exact absurd c_77 (by decide)
          · refine mh_iconst (pc := 80) F dX9_readSingle_80 ?_
            exact mh_zreturn F Z dX9_readSingle_81 (by omega) ⟨mh_sv (by rw [show sx_Q s (U : Int) (5 - x).toNat p = sx_pw p from (by first | (rw [show (5 - x).toNat = 0 by omega, sx_Q_0 (by omega) (by omega)]; done) | exact sx_Q_oth _ (by omega) (by omega) (by omega) (by omega))]; rfl), (mh_fr.rf.mono (by simp)), (by rw [show sx_Q s (U : Int) (5 - x).toNat p = sx_pw p from (by first | (rw [show (5 - x).toNat = 0 by omega, sx_Q_0 (by omega) (by omega)]; done) | exact sx_Q_oth _ (by omega) (by omega) (by omega) (by omega))]; exact sc_RD_pw hD)⟩
      · refine mh_iload1 (pc := 31) F dX9_readSingle_31 ?_
        refine mh_iconst (pc := 32) F dX9_readSingle_32 ?_
        refine mh_icmp_ge (pc := 33) (tgt := 50) F dX9_readSingle_33 rfl (by omega) (by omega) (fun c_33 => ?_) (fun c_33 => ?_)
        · refine mh_iconst (pc := 50) F dX9_readSingle_50 ?_
          exact mh_zreturn F Z dX9_readSingle_51 (by omega) ⟨mh_sv (by rw [show sx_Q s (U : Int) (5 - x).toNat p = sx_pw p from (by first | (rw [show (5 - x).toNat = 0 by omega, sx_Q_0 (by omega) (by omega)]; done) | exact sx_Q_oth _ (by omega) (by omega) (by omega) (by omega))]; rfl), (mh_fr.rf.mono (by simp)), (by rw [show sx_Q s (U : Int) (5 - x).toNat p = sx_pw p from (by first | (rw [show (5 - x).toNat = 0 by omega, sx_Q_0 (by omega) (by omega)]; done) | exact sx_Q_oth _ (by omega) (by omega) (by omega) (by omega))]; exact sc_RD_pw hD)⟩
        · refine mh_aload0 (pc := 36) F dX9_readSingle_36 ?_
          refine mh_iload1 (pc := 37) F dX9_readSingle_37 ?_
          refine mh_iconst (pc := 38) F dX9_readSingle_38 ?_
          refine mh_iadd (pc := 39) F dX9_readSingle_39 ?_
          refine mh_callV0 (pc := 40) (As := [.int (Int32.ofInt (x + 1))]) (st := []) F (by omega) (HO (by omega) _ _ hD hT hp hw (by omega)) wv_RX9_118_yX9_readOpened dX9_readSingle_40 hq.1 rfl hq.2.2.2.1 rfl rfl (Nat.le_of_ble_eq_true rfl) ⟨Nat.zero_le _, Nat.zero_le _⟩ (fun r6 h6 q6 => ?_)
          obtain ⟨rfl, frw6, hDw6⟩ := q6
          have hOe : sc_rO s (U : Int) (5 - (x + 1)).toNat p = sx_Q s (U : Int) (5 - x).toNat p := by
            rw [show (5 - x).toNat = (5 - (x + 1)).toNat + 1 by omega]
            unfold sc_rO
            rcases (show sx_hr s p = 33 ∨ sx_hr s p = 40 by omega) with z | z
            · rw [if_pos z, sx_Q_33 _ (by omega) z]
            · rw [if_neg (by omega), sx_Q_40 _ (by omega) z]
          rw [hOe] at hDw6
          rw [hOe]
          have hpr := (sx_pv_x (sx_Q_gd (u := (U : Int)) hb (5 - x).toNat p hp).1).2.2
          have fr7 : mh_fr [t, t + 2] h h6 := (mh_fr.tr mh_fr.rf frw6).mono (by simp)
          refine mh_if_eq (pc := 43) (tgt := 50) F dX9_readSingle_43 rfl (by omega) (fun c_43 => ?_) (fun c_43 => ?_)
          · refine mh_iconst (pc := 50) F dX9_readSingle_50 ?_
            exact mh_zreturn F Z dX9_readSingle_51 (by omega) ⟨mh_sv (by omega), (fr7.mono (by simp)), hDw6⟩
          · refine mh_iconst (pc := 46) F dX9_readSingle_46 ?_
            refine mh_goto (pc := 47) (tgt := 51) F dX9_readSingle_47 rfl ?_
            exact mh_zreturn F Z dX9_readSingle_51 (by omega) ⟨mh_sv (by omega), (fr7.mono (by simp)), hDw6⟩
  · have hq4 : p.1 < s 4 ∧ p.2.1 = 0 := by omega
    refine mh_aload0 (pc := 7) F dX9_readSingle_7 ?_
    refine mh_callV0 (pc := 8) (As := []) (st := []) F (by omega) (k37_num (by omega) hq hD hT hp hw hb (by omega)) wv_RX9_115_yX9_readNumber dX9_readSingle_8 hq.1 rfl hq.2.2.2.1 rfl rfl (Nat.le_of_ble_eq_true rfl) ⟨Nat.zero_le _, Nat.zero_le _⟩ (fun r8 h8 q8 => ?_)
    obtain ⟨rfl, frw8, hDw8⟩ := q8
    have fr9 : mh_fr [t, t + 2] h h8 := (mh_fr.tr mh_fr.rf frw8).mono (by simp)
    refine mh_iconst (pc := 11) F dX9_readSingle_11 ?_
    exact mh_zreturn F Z dX9_readSingle_12 (by omega) ⟨mh_sv (by rw [sx_Q_dig _ (by omega), sx_nu_w]; omega), (fr9.mono (by simp)), (by rw [sx_Q_dig _ (by omega)]; exact hDw8)⟩

/-- the whole reader, by the depth of what is open -/
theorem k39_anyK {g : mh_G} {d : Nat} (hd : 20 ≤ d) {n t tp L U : Nat} {wr s : Int → Int} (hq : sc_tq n t tp L s) (hb : sx_by s) {x : Int} {G : sx_S → sx_S} (hG : sx_gd s G) (HQ : sc_rK g (d - 1 - 1 - 1 - 1 - 1) yX9_readSingle cX9_readSingle 3 n t tp U wr s x G) : sc_rK g d yX9_readAny cX9_readAny 4 n t tp U wr s x (sx_T s G) := by
  have Kp : sc_rK g (d - 1 - 1 - 1 - 1) yX9_readProduct cX9_readProduct 5 n t tp U wr s x (sx_P s G) := fun h p a1 a2 a3 a4 => k38_prod (by omega) hq a1 a2 a3 a4 hb hG HQ
  have Ku : sc_rK g (d - 1 - 1 - 1) yX9_readSum cX9_readSum 5 n t tp U wr s x (sx_U s G) := fun h p a1 a2 a3 a4 => k38_sum (by omega) hq a1 a2 a3 a4 hb (sx_P_gd hb hG) Kp
  have Kb : sc_rK g (d - 1 - 1) yX9_readCompared cX9_readCompared 4 n t tp U wr s x (sx_B s G) := fun h p a1 a2 a3 a4 => k39_cmp (by omega) hq a1 a2 a3 a4 hb (sx_U_gd hb hG) Ku
  have Ka : sc_rK g (d - 1) yX9_readAll cX9_readAll 4 n t tp U wr s x (sx_A s G) := fun h p a1 a2 a3 a4 => k38_all (by omega) hq a1 a2 a3 a4 hb (sx_B_gd hb hG) Kb
  exact fun h p a1 a2 a3 a4 => k38_any (by omega) hq a1 a2 a3 a4 hb (sx_A_gd hb hG) Ka
theorem k39_sK {g : mh_G} {n t tp L U : Nat} {wr s : Int → Int} (hq : sc_tq n t tp L s) (hb : sx_by s) (hU : U = 0 ∨ U = 1) (m : Nat) : ∀ (x : Int) (d : Nat), (5 - x).toNat = m → 0 ≤ x → x ≤ 5 → 7 * m + 20 ≤ d → sc_rK g d yX9_readSingle cX9_readSingle 3 n t tp U wr s x (sx_Q s (U : Int) (5 - x).toNat) := by
  induction m with
  | zero => exact fun x d hm h0 h1 hd h p a1 a2 a3 a4 => k39_single (by omega) hq a1 a2 a3 a4 hb hU ⟨h0, h1⟩ (fun z => by omega)
  | succ m ih =>
    intro x d hm h0 h1 hd h p a1 a2 a3 a4
    exact k39_single (by omega) hq a1 a2 a3 a4 hb hU ⟨h0, h1⟩ (fun z h p b1 b2 b3 b4 b5 => k39_open (by omega) hq b1 b2 b3 b4 hb b5 (ih (x + 1) (d - 1 - 1) (by omega) (by omega) (by omega) (by omega)) (k39_anyK (by omega) hq hb (sx_Q_gd hb _) (ih (x + 1) (d - 1 - 1 - 1 - 1 - 1 - 1 - 1) (by omega) (by omega) (by omega) (by omega))))
theorem k39_anyT {g : mh_G} {d : Nat} (hd : 70 ≤ d) {n t tp L U : Nat} {wr s : Int → Int} (hq : sc_tq n t tp L s) (hb : sx_by s) (hU : U = 0 ∨ U = 1) : sc_rK g d yX9_readAny cX9_readAny 4 n t tp U wr s 0 (sx_T s (sx_Q s (U : Int) 5)) := k39_anyK (by omega) hq hb (sx_Q_gd hb _) (k39_sK hq hb hU 5 0 _ rfl (by decide) (by decide) (by omega))
