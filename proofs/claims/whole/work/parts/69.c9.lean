/-! more of the class's public acts -/
theorem sc_V_w {h h2 : Nat → Int → Int} {s : Int → Int} {z i v : Int} (hV : sc_V h s) (hz : (z = 6 ∧ i = 3) ∨ (z = 7 ∧ i = 0) ∨ (z = 8 ∧ i = 1) ∨ (z = 10 ∧ i = 4) ∨ (z = 14 ∧ i = 5) ∨ (z = 15 ∧ i = 2)) (e1 : h2 25 = mh_ur (h 25) z v) (e2 : ∀ a, a ≠ 25 → h2 a = h a) : sc_V h2 (mh_ur s i v) := by
  obtain ⟨n6, n7, n8, n10, n14, n15⟩ := hV.2.2
  refine sc_V_up hV e2 (fun j hj => mh_ur_ne (by omega)) ?_
  unfold sc_N
  rw [e1]
  rcases hz with ⟨a, b⟩ | ⟨a, b⟩ | ⟨a, b⟩ | ⟨a, b⟩ | ⟨a, b⟩ | ⟨a, b⟩ <;> subst a <;> subst b <;> refine ⟨?_, ?_, ?_, ?_, ?_, ?_⟩ <;> (repeat (first | rw [mh_ur_ne (by omega)] | rw [mh_ur_eq (by omega)])) <;> assumption
theorem sc_V_take {h h2 : Nat → Int → Int} {t : Int → Int} {v : Int} (hV : sc_V h t) (e1 : h2 25 = mh_ur (h 25) 8 (sp_held (h 25 8 + v) (-99999) 99999)) (e2 : ∀ a, a ≠ 25 → h2 a = h a) : sc_V h2 (sp_takes t v) := by
  unfold sp_takes
  rw [← hV.2.2.2.2.1]
  exact sc_V_w hV (by omega) e1 e2
theorem sp_inv_cok {s t : Int → Int} (h : sp_inv s) {k : Int} (hk : 0 ≤ k ∧ k < 6) (ho : ∀ i, (i < 41 + 9 * k ∨ 41 + 9 * k + 9 ≤ i) → t i = s i) (hc : sp_cok (sp_row t k)) : sp_inv t :=
  sp_inv_row h hk (ho _ (by omega)) (by rw [ho _ (by omega)]; exact h.2.2.1) (ho _ (by omega)) (fun i i0 i1 => ho _ (by omega)) (fun i i0 => ho _ (by omega)) (fun i i0 i1 i2 => ho _ i2) hc
theorem sp_inv_how {s : Int → Int} {k v : Int} (h : sp_inv s) (hk : 0 ≤ k ∧ k < 6) (h3 : s (41 + 9 * k + 3) < 2) (hv : 0 ≤ v ∧ v < 2) (h8 : v = 0 ∨ s (41 + 9 * k + 8) = 0) : sp_inv (mh_ur s (41 + 9 * k + 3) v) := by
  have hc := h.2.2.2.2.1 k hk.1 hk.2
  refine sp_inv_cok h hk (fun i hi => mh_ur_ne (by omega)) ?_
  obtain ⟨b0, b1, b2, b3, b4, b5, b6, b7, b8, b9, b10, b11, b12, b13⟩ := hc
  unfold sp_row at b0 b1 b2 b3 b4 b5 b6 b7 b8 b9 b10 b11 b12 b13
  unfold sp_cok sp_row
  rw [mh_ur_eq rfl, mh_ur_ne (by omega), mh_ur_ne (by omega), mh_ur_ne (by omega), mh_ur_ne (by omega), mh_ur_ne (by omega), mh_ur_ne (by omega), mh_ur_ne (by omega), mh_ur_ne (by omega)]
  omega
theorem sc_V_gets {h : Nat → Int → Int} {s : Int → Int} (hV : sc_V h s) : h 25 6 = s 3 ∧ h 25 7 = s 0 ∧ h 25 8 = s 1 ∧ h 25 10 = s 4 ∧ h 25 14 = s 5 ∧ h 25 15 = s 2 := hV.2.2
set_option maxRecDepth 100000 in
set_option maxHeartbeats 2000000 in
theorem q_become {g : mh_G} {d : Nat} (hd : 16 ≤ d) {h : Nat → Int → Int} (hF : mh_FX h) {s er : Int → Int} {k x : Int} (hk : -2147483648 ≤ k ∧ k < 2147483648) (hx : -2147483648 ≤ x ∧ x < 2147483648) (hi : sp_inv s) (hV : sc_V h s) (hE : sc_E h er) (hKN : sc_KN h) : mh_M g d yX11_become cX11_become 5 (some .int) 96 0 0 [.ref 0, .int (Int32.ofInt (k)), .int (Int32.ofInt (x))] h (fun r h2 => ∃ (vv : Int) (tt ee : Int → Int), (vv, tt, ee) = sp_become k x s er ∧ r = some (.int (Int32.ofInt vv)) ∧ mh_FX h2 ∧ mh_fr [25, 36, 41, 44, 45, 46, 47, 48, 49, 24] h h2 ∧ sc_V h2 tt ∧ sc_E h2 ee) := by
  refine mh_M_of RX11 rfl (by decide +kernel) [some (.ref 0), some (.int (Int32.ofInt (k))), some (.int (Int32.ofInt (x))), none, none] rfl (Nat.le_of_ble_eq_true rfl) (fun f F Z hn0 hR => ?_)
  have hm := hi.1
  have hq0 := hi.2.1
  have hs1 := hi.2.2.1
  have hh := hi.2.2.2.1
  obtain ⟨n6, n7, n8, n10, n14, n15⟩ := hV.2.2
  refine mh_aload0 (pc := 0) F dX11_become_0 ?_
  refine mh_iload1 (pc := 1) F dX11_become_1 ?_
  refine mh_callVp (pc := 2) (As := [.int (Int32.ofInt (k))]) (st := []) F (by omega) (k8_isChurn (by omega) hF (by omega) hV.2.2 (by omega)) wv_RX11_139_yX11_isChurn dX11_become_2 sh_0 rfl (by decide) rfl rfl (Nat.le_of_ble_eq_true rfl) ⟨Nat.zero_le _, Nat.zero_le _⟩ ?_
  refine mh_ifb_eq (pc := 5) (tgt := 18) F dX11_become_5 rfl (fun c_5 => ?_) (fun c_5 => ?_)
  · refine mh_aload0 (pc := 18) F dX11_become_18 ?_
    refine mh_iconst (pc := 19) F dX11_become_19 ?_
    refine mh_callV0 (pc := 20) (As := [.int (Int32.ofInt (1))]) (st := []) F (by omega) (k8_refuse (by omega) hF rfl (by decide)) wv_RX11_90_yX11_refuse dX11_become_20 sh_0 rfl (by decide) rfl rfl (Nat.le_of_ble_eq_true rfl) ⟨Nat.zero_le _, Nat.zero_le _⟩ (fun r1 h1 q1 => ?_)
    obtain ⟨rfl, F1, fr1, q1_0⟩ := q1
    have fr2 : mh_fr [24] h h1 := (mh_fr.tr mh_fr.rf fr1).mono (by simp)
    have hVr : sc_V h1 s := sc_V_fr hV (fun a a1 a2 a3 a4 => fr1 a (by simp; omega))
    have hEr : sc_E h1 (mh_ur er 1 (er 1 + 1)) := hE.up (by decide) q1_0
    exact mh_ireturn F Z dX11_become_23 ⟨_, _, _, (by unfold sp_become; (repeat' split) <;> first | rfl | (exfalso; omega)), rfl, F1, (fr2.mono (by simp)), hVr, hEr⟩
  · refine mh_iload2 (pc := 8) F dX11_become_8 ?_
    refine mh_iconst (pc := 9) F dX11_become_9 ?_
    refine mh_bipush (pc := 10) F dX11_become_10 rfl ?_
    refine mh_callSp (pc := 12) (As := [.int (Int32.ofInt (x)), .int (Int32.ofInt (0)), .int (Int32.ofInt (69))]) (st := []) F (by omega) (k4_within (by omega) (by omega) (by omega) (by omega)) ws_RX11_82 dX11_become_12 rfl rfl (Nat.le_of_ble_eq_true rfl) ⟨Nat.zero_le _, Nat.zero_le _⟩ ?_
    refine mh_ifb_ne (pc := 15) (tgt := 24) F dX11_become_15 rfl (fun c_15 => ?_) (fun c_15 => ?_)
    · have hkk : 0 ≤ k ∧ k < 6 := by omega
      have zAk := sc_Aj hkk
      have hcs : sc_is (h (44 + k.toNat)) (sp_row s k) k := hV.2.1 k hkk.1 hkk.2
      have hcr := hi.2.2.2.2.1 k hkk.1 hkk.2
      have hco := hcs.ok hcr
      obtain ⟨d0, d1, d2, d3, d4, d5, d6, d7, d8, d9⟩ := id hcs
      unfold sp_row at d1 d2 d3 d4 d5 d6 d7 d8 d9
      obtain ⟨c0, c1, c2, c3, c4, c5, c6, c7, c8, c9, c10, c11, c12, c13⟩ := id hcr
      unfold sp_row at c0 c1 c2 c3 c4 c5 c6 c7 c8 c9 c10 c11 c12 c13
      have hcA := zAk.rg
      have hx10 := mh_tdivb (v := x) (k := 10) (by omega) (by decide)
      have hxm : x.tmod 10 = x % 10 := Int.tmod_eq_emod_of_nonneg (by omega)
      refine mh_aload0 (pc := 24) F dX11_become_24 ?_
      refine mh_getr (b := 25) (pc := 25) F sh_0 (by decide) fw_RX11_72_11 dX11_become_25 rfl (fx_0_0 hF) ?_
      refine mh_getr (b := 31) (pc := 28) F sh_25 (by decide) fw_RX11_126_10 dX11_become_28 rfl (fx_25_5 hF) ?_
      refine mh_iload1 (pc := 31) F dX11_become_31 ?_
      refine mh_aaload (b := 44 + (k).toNat) (pc := 32) F sh_31 (by decide) (by decide) (by omega) dX11_become_32 (fx_31 hF (by omega)) ?_
      refine mh_astore3 (pc := 33) F dX11_become_33 rfl (by decide) ?_
      refine mh_aload3 (pc := 34) F dX11_become_34 ?_
      refine mh_getr (b := 2 + (h (44 + (k).toNat) 1 - 3).toNat) (pc := 35) F zAk.sh zAk.lt fw_RX11_129_0 dX11_become_35 rfl (by omega) ?_
      refine kd_number_RX11_145 (pc := 38) F (k := (h (44 + (k).toNat) 1 - 3)) (by omega) hKN dX11_become_38 rfl ?_
      refine mh_istore4 (pc := 41) F dX11_become_41 rfl (by decide) ?_
      refine mh_aload3 (pc := 43) F dX11_become_43 ?_
      refine mh_aload0 (pc := 44) F dX11_become_44 ?_
      refine mh_getr (b := 1) (pc := 45) F sh_0 (by decide) fw_RX11_30_11 dX11_become_45 rfl (fx_0_3 hF) ?_
      refine mh_iload2 (pc := 48) F dX11_become_48 ?_
      refine mh_bipush (pc := 49) F dX11_become_49 rfl ?_
      refine mh_idiv (pc := 51) F dX11_become_51 (by omega) (by omega) (by omega) ?_
      refine mh_aaload (b := 2 + (x.tdiv 10).toNat) (pc := 52) F sh_1 (by decide) (by decide) (by omega) dX11_become_52 (fx_1 hF (by omega)) ?_
      refine mh_putr (pc := 53) F zAk.sh zAk.lt pw_RX11_129_0 dX11_become_53 rfl ?_
      refine mh_nmh (fun h3 e3 => ?_)
      have F3 : mh_FX h3 := by rw [e3]; exact hF.ups zAk.fx
      have fr3 : mh_fr [44 + (k).toNat] h h3 := mh_fr.up mh_fr.rf e3
      refine mh_aload3 (pc := 56) F dX11_become_56 ?_
      refine mh_iload2 (pc := 57) F dX11_become_57 ?_
      refine mh_bipush (pc := 58) F dX11_become_58 rfl ?_
      refine mh_irem (pc := 60) F dX11_become_60 (by omega) (by omega) (by omega) ?_
      refine mh_puti (pc := 61) F zAk.sh zAk.lt pw_RX11_133_0 dX11_become_61 ?_
      refine mh_nmh (fun h4 e4 => ?_)
      have F4 : mh_FX h4 := by rw [e4]; exact F3.ups zAk.fx
      have fr4 : mh_fr [44 + (k).toNat] h h4 := mh_fr.upi fr3 e4 (by simp)
      have hVn : sc_V h4 (mh_ur (mh_ur s (41 + 9 * k + 0) (x.tdiv 10)) (41 + 9 * k + 1) (x.tmod 10)) := sc_V_ch hkk hV (by rw [e4, mh_up_rs, e3, mh_up_rs]; exact (by unfold sc_is sp_row; refine ⟨?_, ?_, ?_, ?_, ?_, ?_, ?_, ?_, ?_, ?_⟩ <;> (repeat (first | rw [mh_ur_ne (by omega)] | rw [mh_ur_eq (by omega)])) <;> first | assumption | rfl | omega | (rw [if_neg (by omega)]; omega) | (rw [if_pos (by omega)]; omega))) (fun i hi2 => by (repeat rw [mh_ur_ne (by omega)])) (fun a a1 a2 a3 a4 a5 => by rw [e4, mh_up_row a5, e3, mh_up_row a5])
      refine mh_iload4 (pc := 64) F dX11_become_64 ?_
      refine mh_top (y := s (41 + 9 * k + 0)) (mh_eqI (by omega)) ?_
      exact mh_ireturn F Z dX11_become_66 ⟨_, _, _, (by unfold sp_become; (repeat' split) <;> first | rfl | (exfalso; omega)), rfl, F4, (fr4.mono (by intro a ha; simp at ha ⊢; omega)), hVn, (hE.of (fr4 24 (by simp; omega)))⟩
    · refine mh_aload0 (pc := 18) F dX11_become_18 ?_
      refine mh_iconst (pc := 19) F dX11_become_19 ?_
      refine mh_callV0 (pc := 20) (As := [.int (Int32.ofInt (1))]) (st := []) F (by omega) (k8_refuse (by omega) hF rfl (by decide)) wv_RX11_90_yX11_refuse dX11_become_20 sh_0 rfl (by decide) rfl rfl (Nat.le_of_ble_eq_true rfl) ⟨Nat.zero_le _, Nat.zero_le _⟩ (fun r5 h5 q5 => ?_)
      obtain ⟨rfl, F5, fr5, q5_0⟩ := q5
      have fr6 : mh_fr [24] h h5 := (mh_fr.tr mh_fr.rf fr5).mono (by simp)
      have hVr : sc_V h5 s := sc_V_fr hV (fun a a1 a2 a3 a4 => fr5 a (by simp; omega))
      have hEr : sc_E h5 (mh_ur er 1 (er 1 + 1)) := hE.up (by decide) q5_0
      exact mh_ireturn F Z dX11_become_23 ⟨_, _, _, (by unfold sp_become; (repeat' split) <;> first | rfl | (exfalso; omega)), rfl, F5, (fr6.mono (by simp)), hVr, hEr⟩

set_option maxRecDepth 100000 in
set_option maxHeartbeats 2000000 in
theorem k9_under_2 {g : mh_G} {d : Nat} (hd : 1 ≤ d) {h : Nat → Int → Int} {k x : Int} (hk : 0 ≤ k ∧ k ≤ 6) (hx : 0 ≤ x ∧ x ≤ 6) (h0 : h 2 0 = k) : mh_MP g d yX3_isUnder cX3_isUnder 2 (some .boolean) 96 [.ref 2, .int (Int32.ofInt (x))] h (some (.int (Int32.ofInt (mh_B (x = 0 ∨ k = x ∨ x + 3 = k))))) := by
  refine mh_M_of RX3 rfl (by decide +kernel) [some (.ref 2), some (.int (Int32.ofInt (x)))] rfl (Nat.le_of_ble_eq_true rfl) (fun f F Z hn0 hR => ?_)
  refine mh_iload1 (pc := 0) F dX3_isUnder_0 ?_
  refine mh_if_eq (pc := 1) (tgt := 22) F dX3_isUnder_1 rfl (by omega) (fun c_1 => ?_) (fun c_1 => ?_)
  · refine mh_iconst (pc := 22) F dX3_isUnder_22 ?_
    refine mh_goto (pc := 23) (tgt := 27) F dX3_isUnder_23 rfl ?_
    exact mh_zreturnp F Z dX3_isUnder_27 (Or.inl ⟨rfl, (by omega)⟩) rfl
  · refine mh_iload1 (pc := 4) F dX3_isUnder_4 ?_
    refine mh_aload0 (pc := 5) F dX3_isUnder_5 ?_
    refine mh_geti (pc := 6) F sh_2 (by decide) fw_RX3_9_3 dX3_isUnder_6 rfl ?_
    refine mh_icmp_eq (pc := 9) (tgt := 22) F dX3_isUnder_9 rfl (by omega) (by omega) (fun c_9 => ?_) (fun c_9 => ?_)
    · refine mh_iconst (pc := 22) F dX3_isUnder_22 ?_
      refine mh_goto (pc := 23) (tgt := 27) F dX3_isUnder_23 rfl ?_
      exact mh_zreturnp F Z dX3_isUnder_27 (Or.inl ⟨rfl, (by omega)⟩) rfl
    · refine mh_iload1 (pc := 12) F dX3_isUnder_12 ?_
      refine mh_iconst (pc := 13) F dX3_isUnder_13 ?_
      refine mh_iadd (pc := 14) F dX3_isUnder_14 ?_
      refine mh_aload0 (pc := 15) F dX3_isUnder_15 ?_
      refine mh_geti (pc := 16) F sh_2 (by decide) fw_RX3_9_3 dX3_isUnder_16 rfl ?_
      refine mh_icmp_ne (pc := 19) (tgt := 26) F dX3_isUnder_19 rfl (by omega) (by omega) (fun c_19 => ?_) (fun c_19 => ?_)
      · refine mh_iconst (pc := 26) F dX3_isUnder_26 ?_
        exact mh_zreturnp F Z dX3_isUnder_27 (Or.inr ⟨rfl, (by omega)⟩) rfl
      · refine mh_iconst (pc := 22) F dX3_isUnder_22 ?_
        refine mh_goto (pc := 23) (tgt := 27) F dX3_isUnder_23 rfl ?_
        exact mh_zreturnp F Z dX3_isUnder_27 (Or.inl ⟨rfl, (by omega)⟩) rfl

set_option maxRecDepth 100000 in
set_option maxHeartbeats 2000000 in
theorem k9_under_3 {g : mh_G} {d : Nat} (hd : 1 ≤ d) {h : Nat → Int → Int} {k x : Int} (hk : 0 ≤ k ∧ k ≤ 6) (hx : 0 ≤ x ∧ x ≤ 6) (h0 : h 3 0 = k) : mh_MP g d yX3_isUnder cX3_isUnder 2 (some .boolean) 96 [.ref 3, .int (Int32.ofInt (x))] h (some (.int (Int32.ofInt (mh_B (x = 0 ∨ k = x ∨ x + 3 = k))))) := by
  refine mh_M_of RX3 rfl (by decide +kernel) [some (.ref 3), some (.int (Int32.ofInt (x)))] rfl (Nat.le_of_ble_eq_true rfl) (fun f F Z hn0 hR => ?_)
  refine mh_iload1 (pc := 0) F dX3_isUnder_0 ?_
  refine mh_if_eq (pc := 1) (tgt := 22) F dX3_isUnder_1 rfl (by omega) (fun c_1 => ?_) (fun c_1 => ?_)
  · refine mh_iconst (pc := 22) F dX3_isUnder_22 ?_
    refine mh_goto (pc := 23) (tgt := 27) F dX3_isUnder_23 rfl ?_
    exact mh_zreturnp F Z dX3_isUnder_27 (Or.inl ⟨rfl, (by omega)⟩) rfl
  · refine mh_iload1 (pc := 4) F dX3_isUnder_4 ?_
    refine mh_aload0 (pc := 5) F dX3_isUnder_5 ?_
    refine mh_geti (pc := 6) F sh_3 (by decide) fw_RX3_9_2 dX3_isUnder_6 rfl ?_
    refine mh_icmp_eq (pc := 9) (tgt := 22) F dX3_isUnder_9 rfl (by omega) (by omega) (fun c_9 => ?_) (fun c_9 => ?_)
    · refine mh_iconst (pc := 22) F dX3_isUnder_22 ?_
      refine mh_goto (pc := 23) (tgt := 27) F dX3_isUnder_23 rfl ?_
      exact mh_zreturnp F Z dX3_isUnder_27 (Or.inl ⟨rfl, (by omega)⟩) rfl
    · refine mh_iload1 (pc := 12) F dX3_isUnder_12 ?_
      refine mh_iconst (pc := 13) F dX3_isUnder_13 ?_
      refine mh_iadd (pc := 14) F dX3_isUnder_14 ?_
      refine mh_aload0 (pc := 15) F dX3_isUnder_15 ?_
      refine mh_geti (pc := 16) F sh_3 (by decide) fw_RX3_9_2 dX3_isUnder_16 rfl ?_
      refine mh_icmp_ne (pc := 19) (tgt := 26) F dX3_isUnder_19 rfl (by omega) (by omega) (fun c_19 => ?_) (fun c_19 => ?_)
      · refine mh_iconst (pc := 26) F dX3_isUnder_26 ?_
        exact mh_zreturnp F Z dX3_isUnder_27 (Or.inr ⟨rfl, (by omega)⟩) rfl
      · refine mh_iconst (pc := 22) F dX3_isUnder_22 ?_
        refine mh_goto (pc := 23) (tgt := 27) F dX3_isUnder_23 rfl ?_
        exact mh_zreturnp F Z dX3_isUnder_27 (Or.inl ⟨rfl, (by omega)⟩) rfl

set_option maxRecDepth 100000 in
set_option maxHeartbeats 2000000 in
theorem k9_under_4 {g : mh_G} {d : Nat} (hd : 1 ≤ d) {h : Nat → Int → Int} {k x : Int} (hk : 0 ≤ k ∧ k ≤ 6) (hx : 0 ≤ x ∧ x ≤ 6) (h0 : h 4 0 = k) : mh_MP g d yX3_isUnder cX3_isUnder 2 (some .boolean) 96 [.ref 4, .int (Int32.ofInt (x))] h (some (.int (Int32.ofInt (mh_B (x = 0 ∨ k = x ∨ x + 3 = k))))) := by
  refine mh_M_of RX3 rfl (by decide +kernel) [some (.ref 4), some (.int (Int32.ofInt (x)))] rfl (Nat.le_of_ble_eq_true rfl) (fun f F Z hn0 hR => ?_)
  refine mh_iload1 (pc := 0) F dX3_isUnder_0 ?_
  refine mh_if_eq (pc := 1) (tgt := 22) F dX3_isUnder_1 rfl (by omega) (fun c_1 => ?_) (fun c_1 => ?_)
  · refine mh_iconst (pc := 22) F dX3_isUnder_22 ?_
    refine mh_goto (pc := 23) (tgt := 27) F dX3_isUnder_23 rfl ?_
    exact mh_zreturnp F Z dX3_isUnder_27 (Or.inl ⟨rfl, (by omega)⟩) rfl
  · refine mh_iload1 (pc := 4) F dX3_isUnder_4 ?_
    refine mh_aload0 (pc := 5) F dX3_isUnder_5 ?_
    refine mh_geti (pc := 6) F sh_4 (by decide) fw_RX3_9_4 dX3_isUnder_6 rfl ?_
    refine mh_icmp_eq (pc := 9) (tgt := 22) F dX3_isUnder_9 rfl (by omega) (by omega) (fun c_9 => ?_) (fun c_9 => ?_)
    · refine mh_iconst (pc := 22) F dX3_isUnder_22 ?_
      refine mh_goto (pc := 23) (tgt := 27) F dX3_isUnder_23 rfl ?_
      exact mh_zreturnp F Z dX3_isUnder_27 (Or.inl ⟨rfl, (by omega)⟩) rfl
    · refine mh_iload1 (pc := 12) F dX3_isUnder_12 ?_
      refine mh_iconst (pc := 13) F dX3_isUnder_13 ?_
      refine mh_iadd (pc := 14) F dX3_isUnder_14 ?_
      refine mh_aload0 (pc := 15) F dX3_isUnder_15 ?_
      refine mh_geti (pc := 16) F sh_4 (by decide) fw_RX3_9_4 dX3_isUnder_16 rfl ?_
      refine mh_icmp_ne (pc := 19) (tgt := 26) F dX3_isUnder_19 rfl (by omega) (by omega) (fun c_19 => ?_) (fun c_19 => ?_)
      · refine mh_iconst (pc := 26) F dX3_isUnder_26 ?_
        exact mh_zreturnp F Z dX3_isUnder_27 (Or.inr ⟨rfl, (by omega)⟩) rfl
      · refine mh_iconst (pc := 22) F dX3_isUnder_22 ?_
        refine mh_goto (pc := 23) (tgt := 27) F dX3_isUnder_23 rfl ?_
        exact mh_zreturnp F Z dX3_isUnder_27 (Or.inl ⟨rfl, (by omega)⟩) rfl

set_option maxRecDepth 100000 in
set_option maxHeartbeats 2000000 in
theorem k9_under_5 {g : mh_G} {d : Nat} (hd : 1 ≤ d) {h : Nat → Int → Int} {k x : Int} (hk : 0 ≤ k ∧ k ≤ 6) (hx : 0 ≤ x ∧ x ≤ 6) (h0 : h 5 0 = k) : mh_MP g d yX3_isUnder cX3_isUnder 2 (some .boolean) 96 [.ref 5, .int (Int32.ofInt (x))] h (some (.int (Int32.ofInt (mh_B (x = 0 ∨ k = x ∨ x + 3 = k))))) := by
  refine mh_M_of RX3 rfl (by decide +kernel) [some (.ref 5), some (.int (Int32.ofInt (x)))] rfl (Nat.le_of_ble_eq_true rfl) (fun f F Z hn0 hR => ?_)
  refine mh_iload1 (pc := 0) F dX3_isUnder_0 ?_
  refine mh_if_eq (pc := 1) (tgt := 22) F dX3_isUnder_1 rfl (by omega) (fun c_1 => ?_) (fun c_1 => ?_)
  · refine mh_iconst (pc := 22) F dX3_isUnder_22 ?_
    refine mh_goto (pc := 23) (tgt := 27) F dX3_isUnder_23 rfl ?_
    exact mh_zreturnp F Z dX3_isUnder_27 (Or.inl ⟨rfl, (by omega)⟩) rfl
  · refine mh_iload1 (pc := 4) F dX3_isUnder_4 ?_
    refine mh_aload0 (pc := 5) F dX3_isUnder_5 ?_
    refine mh_geti (pc := 6) F sh_5 (by decide) fw_RX3_9_1 dX3_isUnder_6 rfl ?_
    refine mh_icmp_eq (pc := 9) (tgt := 22) F dX3_isUnder_9 rfl (by omega) (by omega) (fun c_9 => ?_) (fun c_9 => ?_)
    · refine mh_iconst (pc := 22) F dX3_isUnder_22 ?_
      refine mh_goto (pc := 23) (tgt := 27) F dX3_isUnder_23 rfl ?_
      exact mh_zreturnp F Z dX3_isUnder_27 (Or.inl ⟨rfl, (by omega)⟩) rfl
    · refine mh_iload1 (pc := 12) F dX3_isUnder_12 ?_
      refine mh_iconst (pc := 13) F dX3_isUnder_13 ?_
      refine mh_iadd (pc := 14) F dX3_isUnder_14 ?_
      refine mh_aload0 (pc := 15) F dX3_isUnder_15 ?_
      refine mh_geti (pc := 16) F sh_5 (by decide) fw_RX3_9_1 dX3_isUnder_16 rfl ?_
      refine mh_icmp_ne (pc := 19) (tgt := 26) F dX3_isUnder_19 rfl (by omega) (by omega) (fun c_19 => ?_) (fun c_19 => ?_)
      · refine mh_iconst (pc := 26) F dX3_isUnder_26 ?_
        exact mh_zreturnp F Z dX3_isUnder_27 (Or.inr ⟨rfl, (by omega)⟩) rfl
      · refine mh_iconst (pc := 22) F dX3_isUnder_22 ?_
        refine mh_goto (pc := 23) (tgt := 27) F dX3_isUnder_23 rfl ?_
        exact mh_zreturnp F Z dX3_isUnder_27 (Or.inl ⟨rfl, (by omega)⟩) rfl

set_option maxRecDepth 100000 in
set_option maxHeartbeats 2000000 in
theorem k9_under_6 {g : mh_G} {d : Nat} (hd : 1 ≤ d) {h : Nat → Int → Int} {k x : Int} (hk : 0 ≤ k ∧ k ≤ 6) (hx : 0 ≤ x ∧ x ≤ 6) (h0 : h 6 0 = k) : mh_MP g d yX3_isUnder cX3_isUnder 2 (some .boolean) 96 [.ref 6, .int (Int32.ofInt (x))] h (some (.int (Int32.ofInt (mh_B (x = 0 ∨ k = x ∨ x + 3 = k))))) := by
  refine mh_M_of RX3 rfl (by decide +kernel) [some (.ref 6), some (.int (Int32.ofInt (x)))] rfl (Nat.le_of_ble_eq_true rfl) (fun f F Z hn0 hR => ?_)
  refine mh_iload1 (pc := 0) F dX3_isUnder_0 ?_
  refine mh_if_eq (pc := 1) (tgt := 22) F dX3_isUnder_1 rfl (by omega) (fun c_1 => ?_) (fun c_1 => ?_)
  · refine mh_iconst (pc := 22) F dX3_isUnder_22 ?_
    refine mh_goto (pc := 23) (tgt := 27) F dX3_isUnder_23 rfl ?_
    exact mh_zreturnp F Z dX3_isUnder_27 (Or.inl ⟨rfl, (by omega)⟩) rfl
  · refine mh_iload1 (pc := 4) F dX3_isUnder_4 ?_
    refine mh_aload0 (pc := 5) F dX3_isUnder_5 ?_
    refine mh_geti (pc := 6) F sh_6 (by decide) fw_RX3_9_7 dX3_isUnder_6 rfl ?_
    refine mh_icmp_eq (pc := 9) (tgt := 22) F dX3_isUnder_9 rfl (by omega) (by omega) (fun c_9 => ?_) (fun c_9 => ?_)
    · refine mh_iconst (pc := 22) F dX3_isUnder_22 ?_
      refine mh_goto (pc := 23) (tgt := 27) F dX3_isUnder_23 rfl ?_
      exact mh_zreturnp F Z dX3_isUnder_27 (Or.inl ⟨rfl, (by omega)⟩) rfl
    · refine mh_iload1 (pc := 12) F dX3_isUnder_12 ?_
      refine mh_iconst (pc := 13) F dX3_isUnder_13 ?_
      refine mh_iadd (pc := 14) F dX3_isUnder_14 ?_
      refine mh_aload0 (pc := 15) F dX3_isUnder_15 ?_
      refine mh_geti (pc := 16) F sh_6 (by decide) fw_RX3_9_7 dX3_isUnder_16 rfl ?_
      refine mh_icmp_ne (pc := 19) (tgt := 26) F dX3_isUnder_19 rfl (by omega) (by omega) (fun c_19 => ?_) (fun c_19 => ?_)
      · refine mh_iconst (pc := 26) F dX3_isUnder_26 ?_
        exact mh_zreturnp F Z dX3_isUnder_27 (Or.inr ⟨rfl, (by omega)⟩) rfl
      · refine mh_iconst (pc := 22) F dX3_isUnder_22 ?_
        refine mh_goto (pc := 23) (tgt := 27) F dX3_isUnder_23 rfl ?_
        exact mh_zreturnp F Z dX3_isUnder_27 (Or.inl ⟨rfl, (by omega)⟩) rfl

set_option maxRecDepth 100000 in
set_option maxHeartbeats 2000000 in
theorem k9_under_7 {g : mh_G} {d : Nat} (hd : 1 ≤ d) {h : Nat → Int → Int} {k x : Int} (hk : 0 ≤ k ∧ k ≤ 6) (hx : 0 ≤ x ∧ x ≤ 6) (h0 : h 7 0 = k) : mh_MP g d yX3_isUnder cX3_isUnder 2 (some .boolean) 96 [.ref 7, .int (Int32.ofInt (x))] h (some (.int (Int32.ofInt (mh_B (x = 0 ∨ k = x ∨ x + 3 = k))))) := by
  refine mh_M_of RX3 rfl (by decide +kernel) [some (.ref 7), some (.int (Int32.ofInt (x)))] rfl (Nat.le_of_ble_eq_true rfl) (fun f F Z hn0 hR => ?_)
  refine mh_iload1 (pc := 0) F dX3_isUnder_0 ?_
  refine mh_if_eq (pc := 1) (tgt := 22) F dX3_isUnder_1 rfl (by omega) (fun c_1 => ?_) (fun c_1 => ?_)
  · refine mh_iconst (pc := 22) F dX3_isUnder_22 ?_
    refine mh_goto (pc := 23) (tgt := 27) F dX3_isUnder_23 rfl ?_
    exact mh_zreturnp F Z dX3_isUnder_27 (Or.inl ⟨rfl, (by omega)⟩) rfl
  · refine mh_iload1 (pc := 4) F dX3_isUnder_4 ?_
    refine mh_aload0 (pc := 5) F dX3_isUnder_5 ?_
    refine mh_geti (pc := 6) F sh_7 (by decide) fw_RX3_9_8 dX3_isUnder_6 rfl ?_
    refine mh_icmp_eq (pc := 9) (tgt := 22) F dX3_isUnder_9 rfl (by omega) (by omega) (fun c_9 => ?_) (fun c_9 => ?_)
    · refine mh_iconst (pc := 22) F dX3_isUnder_22 ?_
      refine mh_goto (pc := 23) (tgt := 27) F dX3_isUnder_23 rfl ?_
      exact mh_zreturnp F Z dX3_isUnder_27 (Or.inl ⟨rfl, (by omega)⟩) rfl
    · refine mh_iload1 (pc := 12) F dX3_isUnder_12 ?_
      refine mh_iconst (pc := 13) F dX3_isUnder_13 ?_
      refine mh_iadd (pc := 14) F dX3_isUnder_14 ?_
      refine mh_aload0 (pc := 15) F dX3_isUnder_15 ?_
      refine mh_geti (pc := 16) F sh_7 (by decide) fw_RX3_9_8 dX3_isUnder_16 rfl ?_
      refine mh_icmp_ne (pc := 19) (tgt := 26) F dX3_isUnder_19 rfl (by omega) (by omega) (fun c_19 => ?_) (fun c_19 => ?_)
      · refine mh_iconst (pc := 26) F dX3_isUnder_26 ?_
        exact mh_zreturnp F Z dX3_isUnder_27 (Or.inr ⟨rfl, (by omega)⟩) rfl
      · refine mh_iconst (pc := 22) F dX3_isUnder_22 ?_
        refine mh_goto (pc := 23) (tgt := 27) F dX3_isUnder_23 rfl ?_
        exact mh_zreturnp F Z dX3_isUnder_27 (Or.inl ⟨rfl, (by omega)⟩) rfl

set_option maxRecDepth 100000 in
set_option maxHeartbeats 2000000 in
theorem k9_under_8 {g : mh_G} {d : Nat} (hd : 1 ≤ d) {h : Nat → Int → Int} {k x : Int} (hk : 0 ≤ k ∧ k ≤ 6) (hx : 0 ≤ x ∧ x ≤ 6) (h0 : h 8 0 = k) : mh_MP g d yX3_isUnder cX3_isUnder 2 (some .boolean) 96 [.ref 8, .int (Int32.ofInt (x))] h (some (.int (Int32.ofInt (mh_B (x = 0 ∨ k = x ∨ x + 3 = k))))) := by
  refine mh_M_of RX3 rfl (by decide +kernel) [some (.ref 8), some (.int (Int32.ofInt (x)))] rfl (Nat.le_of_ble_eq_true rfl) (fun f F Z hn0 hR => ?_)
  refine mh_iload1 (pc := 0) F dX3_isUnder_0 ?_
  refine mh_if_eq (pc := 1) (tgt := 22) F dX3_isUnder_1 rfl (by omega) (fun c_1 => ?_) (fun c_1 => ?_)
  · refine mh_iconst (pc := 22) F dX3_isUnder_22 ?_
    refine mh_goto (pc := 23) (tgt := 27) F dX3_isUnder_23 rfl ?_
    exact mh_zreturnp F Z dX3_isUnder_27 (Or.inl ⟨rfl, (by omega)⟩) rfl
  · refine mh_iload1 (pc := 4) F dX3_isUnder_4 ?_
    refine mh_aload0 (pc := 5) F dX3_isUnder_5 ?_
    refine mh_geti (pc := 6) F sh_8 (by decide) fw_RX3_9_5 dX3_isUnder_6 rfl ?_
    refine mh_icmp_eq (pc := 9) (tgt := 22) F dX3_isUnder_9 rfl (by omega) (by omega) (fun c_9 => ?_) (fun c_9 => ?_)
    · refine mh_iconst (pc := 22) F dX3_isUnder_22 ?_
      refine mh_goto (pc := 23) (tgt := 27) F dX3_isUnder_23 rfl ?_
      exact mh_zreturnp F Z dX3_isUnder_27 (Or.inl ⟨rfl, (by omega)⟩) rfl
    · refine mh_iload1 (pc := 12) F dX3_isUnder_12 ?_
      refine mh_iconst (pc := 13) F dX3_isUnder_13 ?_
      refine mh_iadd (pc := 14) F dX3_isUnder_14 ?_
      refine mh_aload0 (pc := 15) F dX3_isUnder_15 ?_
      refine mh_geti (pc := 16) F sh_8 (by decide) fw_RX3_9_5 dX3_isUnder_16 rfl ?_
      refine mh_icmp_ne (pc := 19) (tgt := 26) F dX3_isUnder_19 rfl (by omega) (by omega) (fun c_19 => ?_) (fun c_19 => ?_)
      · refine mh_iconst (pc := 26) F dX3_isUnder_26 ?_
        exact mh_zreturnp F Z dX3_isUnder_27 (Or.inr ⟨rfl, (by omega)⟩) rfl
      · refine mh_iconst (pc := 22) F dX3_isUnder_22 ?_
        refine mh_goto (pc := 23) (tgt := 27) F dX3_isUnder_23 rfl ?_
        exact mh_zreturnp F Z dX3_isUnder_27 (Or.inl ⟨rfl, (by omega)⟩) rfl

theorem kd_isUnder {g : mh_G} {f : mh_F} {cc : ByteArray} {nL d n cl sl pc : Nat} {loc : List (Option Value)} {st : List Value} {h : Nat → Int → Int} (F : mh_Fr g f RX11 cc nL d) (hd1 : 5 ≤ d) {k x : Int} (hKN : sc_KN h) (hk : 0 ≤ k ∧ k ≤ 6) (hx : 0 ≤ x ∧ x ≤ 6) (hd : decode cc pc = .ok (.invokevirtual 148, 3)) (hn : n = 96) (h8 : (st.map fun v => v.category).sum ≤ 8) (hc : cl ≤ (mh_R f).cells ∧ sl ≤ (mh_R f).slots) (kk : mh_V g f nL n cl sl (pc + 3) loc (.int (Int32.ofInt (mh_B (x = 0 ∨ k = x ∨ x + 3 = k))) :: st) h) : mh_V g f nL n cl sl pc loc (.int (Int32.ofInt x) :: .ref (2 + k.toNat) :: st) h := by
  subst hn
  have hk0 := hKN k hk.1 hk.2
  rcases (show k = 0 ∨ k = 1 ∨ k = 2 ∨ k = 3 ∨ k = 4 ∨ k = 5 ∨ k = 6 by omega) with z | z | z | z | z | z | z
  · subst z
    exact mh_callVp (As := [.int (Int32.ofInt x)]) (st := st) F (by omega) (k9_under_2 (by omega) hk hx hk0) wv_RX11_148_yX3_isUnder hd sh_2 rfl (by decide) rfl rfl h8 hc kk
  · subst z
    exact mh_callUp (As := [.int (Int32.ofInt x)]) (st := st) F (by omega) (k9_under_3 (by omega) hk hx hk0) wu_RX11_148_RX2 hd sh_3 (by decide) rfl rfl h8 hc kk
  · subst z
    exact mh_callUp (As := [.int (Int32.ofInt x)]) (st := st) F (by omega) (k9_under_4 (by omega) hk hx hk0) wu_RX11_148_RX4 hd sh_4 (by decide) rfl rfl h8 hc kk
  · subst z
    exact mh_callUp (As := [.int (Int32.ofInt x)]) (st := st) F (by omega) (k9_under_5 (by omega) hk hx hk0) wu_RX11_148_RX1 hd sh_5 (by decide) rfl rfl h8 hc kk
  · subst z
    exact mh_callUp (As := [.int (Int32.ofInt x)]) (st := st) F (by omega) (k9_under_6 (by omega) hk hx hk0) wu_RX11_148_RX7 hd sh_6 (by decide) rfl rfl h8 hc kk
  · subst z
    exact mh_callUp (As := [.int (Int32.ofInt x)]) (st := st) F (by omega) (k9_under_7 (by omega) hk hx hk0) wu_RX11_148_RX8 hd sh_7 (by decide) rfl rfl h8 hc kk
  · subst z
    exact mh_callUp (As := [.int (Int32.ofInt x)]) (st := st) F (by omega) (k9_under_8 (by omega) hk hx hk0) wu_RX11_148_RX5 hd sh_8 (by decide) rfl rfl h8 hc kk

set_option maxRecDepth 100000 in
set_option maxHeartbeats 2000000 in
theorem q_as {g : mh_G} {d : Nat} (hd : 16 ≤ d) {h : Nat → Int → Int} (hF : mh_FX h) {s er : Int → Int} {k x : Int} (hk : -2147483648 ≤ k ∧ k < 2147483648) (hx : -2147483648 ≤ x ∧ x < 2147483648) (hi : sp_inv s) (hV : sc_V h s) (hE : sc_E h er) (hKN : sc_KN h) : mh_M g d yX11_as cX11_as 4 (some .int) 96 0 0 [.ref 0, .int (Int32.ofInt (k)), .int (Int32.ofInt (x))] h (fun r h2 => ∃ (vv : Int) (tt ee : Int → Int), (vv, tt, ee) = sp_as k x s er ∧ r = some (.int (Int32.ofInt vv)) ∧ mh_FX h2 ∧ mh_fr [25, 36, 41, 44, 45, 46, 47, 48, 49, 24] h h2 ∧ sc_V h2 tt ∧ sc_E h2 ee) := by
  refine mh_M_of RX11 rfl (by decide +kernel) [some (.ref 0), some (.int (Int32.ofInt (k))), some (.int (Int32.ofInt (x))), none] rfl (Nat.le_of_ble_eq_true rfl) (fun f F Z hn0 hR => ?_)
  have hm := hi.1
  have hq0 := hi.2.1
  have hs1 := hi.2.2.1
  have hh := hi.2.2.2.1
  obtain ⟨n6, n7, n8, n10, n14, n15⟩ := hV.2.2
  refine mh_aload0 (pc := 0) F dX11_as_0 ?_
  refine mh_iload1 (pc := 1) F dX11_as_1 ?_
  refine mh_callVp (pc := 2) (As := [.int (Int32.ofInt (k))]) (st := []) F (by omega) (k8_isChurn (by omega) hF (by omega) hV.2.2 (by omega)) wv_RX11_139_yX11_isChurn dX11_as_2 sh_0 rfl (by decide) rfl rfl (Nat.le_of_ble_eq_true rfl) ⟨Nat.zero_le _, Nat.zero_le _⟩ ?_
  refine mh_ifb_eq (pc := 5) (tgt := 18) F dX11_as_5 rfl (fun c_5 => ?_) (fun c_5 => ?_)
  · refine mh_aload0 (pc := 18) F dX11_as_18 ?_
    refine mh_iconst (pc := 19) F dX11_as_19 ?_
    refine mh_callV0 (pc := 20) (As := [.int (Int32.ofInt (1))]) (st := []) F (by omega) (k8_refuse (by omega) hF rfl (by decide)) wv_RX11_90_yX11_refuse dX11_as_20 sh_0 rfl (by decide) rfl rfl (Nat.le_of_ble_eq_true rfl) ⟨Nat.zero_le _, Nat.zero_le _⟩ (fun r1 h1 q1 => ?_)
    obtain ⟨rfl, F1, fr1, q1_0⟩ := q1
    have fr2 : mh_fr [24] h h1 := (mh_fr.tr mh_fr.rf fr1).mono (by simp)
    have hVr : sc_V h1 s := sc_V_fr hV (fun a a1 a2 a3 a4 => fr1 a (by simp; omega))
    have hEr : sc_E h1 (mh_ur er 1 (er 1 + 1)) := hE.up (by decide) q1_0
    exact mh_ireturn F Z dX11_as_23 ⟨_, _, _, (by unfold sp_as sp_above; (repeat' split) <;> first | rfl | (exfalso; omega)), rfl, F1, (fr2.mono (by simp)), hVr, hEr⟩
  · refine mh_iload2 (pc := 8) F dX11_as_8 ?_
    refine mh_iconst (pc := 9) F dX11_as_9 ?_
    refine mh_bipush (pc := 10) F dX11_as_10 rfl ?_
    refine mh_callSp (pc := 12) (As := [.int (Int32.ofInt (x)), .int (Int32.ofInt (0)), .int (Int32.ofInt (6))]) (st := []) F (by omega) (k4_within (by omega) (by omega) (by omega) (by omega)) ws_RX11_82 dX11_as_12 rfl rfl (Nat.le_of_ble_eq_true rfl) ⟨Nat.zero_le _, Nat.zero_le _⟩ ?_
    refine mh_ifb_ne (pc := 15) (tgt := 24) F dX11_as_15 rfl (fun c_15 => ?_) (fun c_15 => ?_)
    · have hkk : 0 ≤ k ∧ k < 6 := by omega
      have zAk := sc_Aj hkk
      have hcs : sc_is (h (44 + k.toNat)) (sp_row s k) k := hV.2.1 k hkk.1 hkk.2
      have hcr := hi.2.2.2.2.1 k hkk.1 hkk.2
      have hco := hcs.ok hcr
      obtain ⟨d0, d1, d2, d3, d4, d5, d6, d7, d8, d9⟩ := id hcs
      unfold sp_row at d1 d2 d3 d4 d5 d6 d7 d8 d9
      obtain ⟨c0, c1, c2, c3, c4, c5, c6, c7, c8, c9, c10, c11, c12, c13⟩ := id hcr
      unfold sp_row at c0 c1 c2 c3 c4 c5 c6 c7 c8 c9 c10 c11 c12 c13
      have hcA := zAk.rg
      refine mh_aload0 (pc := 24) F dX11_as_24 ?_
      refine mh_getr (b := 25) (pc := 25) F sh_0 (by decide) fw_RX11_72_11 dX11_as_25 rfl (fx_0_0 hF) ?_
      refine mh_getr (b := 31) (pc := 28) F sh_25 (by decide) fw_RX11_126_10 dX11_as_28 rfl (fx_25_5 hF) ?_
      refine mh_iload1 (pc := 31) F dX11_as_31 ?_
      refine mh_aaload (b := 44 + (k).toNat) (pc := 32) F sh_31 (by decide) (by decide) (by omega) dX11_as_32 (fx_31 hF (by omega)) ?_
      refine mh_astore3 (pc := 33) F dX11_as_33 rfl (by decide) ?_
      refine mh_aload3 (pc := 34) F dX11_as_34 ?_
      refine mh_getr (b := 2 + (h (44 + (k).toNat) 1 - 3).toNat) (pc := 35) F zAk.sh zAk.lt fw_RX11_129_0 dX11_as_35 rfl (by omega) ?_
      refine mh_iload2 (pc := 38) F dX11_as_38 ?_
      refine kd_isUnder (pc := 39) F (by omega) (k := (h (44 + (k).toNat) 1 - 3)) hKN (by omega) (by omega) dX11_as_39 rfl (Nat.le_of_ble_eq_true rfl) ⟨Nat.zero_le _, Nat.zero_le _⟩ ?_
      refine mh_ifb_eq (pc := 42) (tgt := 52) F dX11_as_42 rfl (fun c_42 => ?_) (fun c_42 => ?_)
      · refine mh_aload0 (pc := 52) F dX11_as_52 ?_
        refine mh_iconst (pc := 53) F dX11_as_53 ?_
        refine mh_callV0 (pc := 54) (As := [.int (Int32.ofInt (5))]) (st := []) F (by omega) (k8_refuse (by omega) hF rfl (by decide)) wv_RX11_90_yX11_refuse dX11_as_54 sh_0 rfl (by decide) rfl rfl (Nat.le_of_ble_eq_true rfl) ⟨Nat.zero_le _, Nat.zero_le _⟩ (fun r3 h3 q3 => ?_)
        obtain ⟨rfl, F3, fr3, q3_0⟩ := q3
        have fr4 : mh_fr [24] h h3 := (mh_fr.tr mh_fr.rf fr3).mono (by simp)
        have hVr : sc_V h3 s := sc_V_fr hV (fun a a1 a2 a3 a4 => fr3 a (by simp; omega))
        have hEr : sc_E h3 (mh_ur er 5 (er 5 + 1)) := hE.up (by decide) q3_0
        exact mh_ireturn F Z dX11_as_57 ⟨_, _, _, (by unfold sp_as sp_above; (repeat' split) <;> first | rfl | (exfalso; omega)), rfl, F3, (fr4.mono (by simp)), hVr, hEr⟩
      · refine mh_aload3 (pc := 45) F dX11_as_45 ?_
        refine mh_geti (pc := 46) F zAk.sh zAk.lt fw_RX11_133_0 dX11_as_46 rfl ?_
        refine mh_top (y := s (41 + 9 * k + 1)) (mh_eqI d2) ?_
        refine mh_goto (pc := 49) (tgt := 57) F dX11_as_49 rfl ?_
        exact mh_ireturn F Z dX11_as_57 ⟨_, _, _, (by unfold sp_as sp_above; (repeat' split) <;> first | rfl | (exfalso; omega)), rfl, hF, (mh_fr.rf.mono (by simp)), hV, hE⟩
    · refine mh_aload0 (pc := 18) F dX11_as_18 ?_
      refine mh_iconst (pc := 19) F dX11_as_19 ?_
      refine mh_callV0 (pc := 20) (As := [.int (Int32.ofInt (1))]) (st := []) F (by omega) (k8_refuse (by omega) hF rfl (by decide)) wv_RX11_90_yX11_refuse dX11_as_20 sh_0 rfl (by decide) rfl rfl (Nat.le_of_ble_eq_true rfl) ⟨Nat.zero_le _, Nat.zero_le _⟩ (fun r5 h5 q5 => ?_)
      obtain ⟨rfl, F5, fr5, q5_0⟩ := q5
      have fr6 : mh_fr [24] h h5 := (mh_fr.tr mh_fr.rf fr5).mono (by simp)
      have hVr : sc_V h5 s := sc_V_fr hV (fun a a1 a2 a3 a4 => fr5 a (by simp; omega))
      have hEr : sc_E h5 (mh_ur er 1 (er 1 + 1)) := hE.up (by decide) q5_0
      exact mh_ireturn F Z dX11_as_23 ⟨_, _, _, (by unfold sp_as sp_above; (repeat' split) <;> first | rfl | (exfalso; omega)), rfl, F5, (fr6.mono (by simp)), hVr, hEr⟩

def sc_off (c : Int → Int) (b p : Int) : Int → Int := mh_ur (mh_ur (mh_ur c 4 2) 6 b) 5 p
set_option maxRecDepth 100000 in
set_option maxHeartbeats 2000000 in
theorem k9_setOff {g : mh_G} {d : Nat} (hd : 4 ≤ d) {h : Nat → Int → Int} (hF : mh_FX h) {A : Nat} {b : Int} {c : Int → Int} (rA : h A = c) {pa : Int → Int} (r29 : h 29 = pa) (zA : sc_A A) (hb : 0 ≤ b ∧ b ≤ 3) : mh_M g d yX10_setOff cX10_setOff 3 none 96 0 0 [.ref 25, .ref A, .int (Int32.ofInt (b))] h (fun r h2 => r = none ∧ mh_FX h2 ∧ mh_fr [A] h h2 ∧ h2 A = sc_off c b (pa b)) := by
  refine mh_M_of RX10 rfl (by decide +kernel) [some (.ref 25), some (.ref A), some (.int (Int32.ofInt (b)))] rfl (Nat.le_of_ble_eq_true rfl) (fun f F Z hn0 hR => ?_)
  have hA1 := zA.rg
  refine mh_iload2 (pc := 0) F dX10_setOff_0 ?_
  refine mh_callNp (pc := 1) (As := [.int (Int32.ofInt (b))]) (st := []) F (by omega) (k4_isCarrier (by omega) (by omega)) wn_RX10_171 dX10_setOff_1 rfl rfl (Nat.le_of_ble_eq_true rfl) ⟨Nat.zero_le _, Nat.zero_le _⟩ ?_
  refine mh_ifb_eq (pc := 4) (tgt := 27) F dX10_setOff_4 rfl (fun c_4 => ?_) (fun c_4 => ?_)
  · exact mh_return F Z dX10_setOff_27 ⟨rfl, hF, (mh_fr.rf.mono (by simp)), (rA.trans (by exfalso; omega))⟩
  · refine mh_aload1 (pc := 7) F dX10_setOff_7 ?_
    refine mh_iconst (pc := 8) F dX10_setOff_8 ?_
    refine mh_puti (pc := 9) F zA.sh zA.lt pw_RX10_133_0 dX10_setOff_9 ?_
    refine mh_nmh (fun h1 e1 => ?_)
    have F1 : mh_FX h1 := by rw [e1]; exact hF.ups zA.fx
    have rA_1 : h1 A = mh_ur c 4 2 := by rw [e1, mh_up_rs, rA]
    have r29_1 : h1 29 = pa := by rw [e1, mh_up_row (by omega)]; exact r29
    have fr1 : mh_fr [A] h h1 := mh_fr.up mh_fr.rf e1
    refine mh_aload1 (pc := 12) F dX10_setOff_12 ?_
    refine mh_iload2 (pc := 13) F dX10_setOff_13 ?_
    refine mh_puti (pc := 14) F zA.sh zA.lt pw_RX10_168_0 dX10_setOff_14 ?_
    refine mh_nmh (fun h2 e2 => ?_)
    have F2 : mh_FX h2 := by rw [e2]; exact F1.ups zA.fx
    have rA_2 : h2 A = mh_ur (mh_ur c 4 2) 6 b := by rw [e2, mh_up_rs, rA_1]
    have r29_2 : h2 29 = pa := by rw [e2, mh_up_row (by omega)]; exact r29_1
    have fr2 : mh_fr [A] h h2 := mh_fr.upi fr1 e2 (by simp)
    refine mh_aload1 (pc := 17) F dX10_setOff_17 ?_
    refine mh_aload0 (pc := 18) F dX10_setOff_18 ?_
    refine mh_getr (b := 29) (pc := 19) F sh_25 (by decide) fw_RX10_21_10 dX10_setOff_19 rfl (fx_25_3 F2) ?_
    refine mh_iload2 (pc := 22) F dX10_setOff_22 ?_
    refine mh_ialoadr (pc := 23) F sh_29 (by decide) (by omega) dX10_setOff_23 r29_2 ?_
    refine mh_puti (pc := 24) F zA.sh zA.lt pw_RX10_181_0 dX10_setOff_24 ?_
    refine mh_nmh (fun h3 e3 => ?_)
    have F3 : mh_FX h3 := by rw [e3]; exact F2.ups zA.fx
    have rA_3 : h3 A = mh_ur (mh_ur (mh_ur c 4 2) 6 b) 5 (pa b) := by rw [e3, mh_up_rs, rA_2]
    have r29_3 : h3 29 = pa := by rw [e3, mh_up_row (by omega)]; exact r29_2
    have fr3 : mh_fr [A] h h3 := mh_fr.upi fr2 e3 (by simp)
    exact mh_return F Z dX10_setOff_27 ⟨rfl, F3, (fr3.mono (by simp)), rA_3⟩

set_option maxRecDepth 100000 in
set_option maxHeartbeats 2000000 in
theorem q_go {g : mh_G} {d : Nat} (hd : 16 ≤ d) {h : Nat → Int → Int} (hF : mh_FX h) {s er : Int → Int} {k c : Int} (hk : -2147483648 ≤ k ∧ k < 2147483648) (hc : -2147483648 ≤ c ∧ c < 2147483648) (hi : sp_inv s) (hV : sc_V h s) (hE : sc_E h er) (hKN : sc_KN h) : mh_M g d yX11_go cX11_go 4 (some .int) 96 0 0 [.ref 0, .int (Int32.ofInt (k)), .int (Int32.ofInt (c))] h (fun r h2 => ∃ (vv : Int) (tt ee : Int → Int), (vv, tt, ee) = sp_goP k c s er ∧ r = some (.int (Int32.ofInt vv)) ∧ mh_FX h2 ∧ mh_fr [25, 36, 41, 44, 45, 46, 47, 48, 49, 24] h h2 ∧ sc_V h2 tt ∧ sc_E h2 ee) := by
  refine mh_M_of RX11 rfl (by decide +kernel) [some (.ref 0), some (.int (Int32.ofInt (k))), some (.int (Int32.ofInt (c))), none] rfl (Nat.le_of_ble_eq_true rfl) (fun f F Z hn0 hR => ?_)
  have hm := hi.1
  have hq0 := hi.2.1
  have hs1 := hi.2.2.1
  have hh := hi.2.2.2.1
  obtain ⟨n6, n7, n8, n10, n14, n15⟩ := hV.2.2
  refine mh_aload0 (pc := 0) F dX11_go_0 ?_
  refine mh_iload1 (pc := 1) F dX11_go_1 ?_
  refine mh_callVp (pc := 2) (As := [.int (Int32.ofInt (k))]) (st := []) F (by omega) (k8_isChurn (by omega) hF (by omega) hV.2.2 (by omega)) wv_RX11_139_yX11_isChurn dX11_go_2 sh_0 rfl (by decide) rfl rfl (Nat.le_of_ble_eq_true rfl) ⟨Nat.zero_le _, Nat.zero_le _⟩ ?_
  refine mh_ifb_eq (pc := 5) (tgt := 15) F dX11_go_5 rfl (fun c_5 => ?_) (fun c_5 => ?_)
  · refine mh_aload0 (pc := 15) F dX11_go_15 ?_
    refine mh_iconst (pc := 16) F dX11_go_16 ?_
    refine mh_callV0 (pc := 17) (As := [.int (Int32.ofInt (1))]) (st := []) F (by omega) (k8_refuse (by omega) hF rfl (by decide)) wv_RX11_90_yX11_refuse dX11_go_17 sh_0 rfl (by decide) rfl rfl (Nat.le_of_ble_eq_true rfl) ⟨Nat.zero_le _, Nat.zero_le _⟩ (fun r1 h1 q1 => ?_)
    obtain ⟨rfl, F1, fr1, q1_0⟩ := q1
    have fr2 : mh_fr [24] h h1 := (mh_fr.tr mh_fr.rf fr1).mono (by simp)
    have hVr : sc_V h1 s := sc_V_fr hV (fun a a1 a2 a3 a4 => fr1 a (by simp; omega))
    have hEr : sc_E h1 (mh_ur er 1 (er 1 + 1)) := hE.up (by decide) q1_0
    exact mh_ireturn F Z dX11_go_20 ⟨_, _, _, (by unfold sp_goP; (repeat' split) <;> first | rfl | (exfalso; omega)), rfl, F1, (fr2.mono (by simp)), hVr, hEr⟩
  · refine mh_iload2 (pc := 8) F dX11_go_8 ?_
    refine mh_callSp (pc := 9) (As := [.int (Int32.ofInt (c))]) (st := []) F (by omega) (k4_isCarrier (by omega) (by omega)) ws_RX11_113 dX11_go_9 rfl rfl (Nat.le_of_ble_eq_true rfl) ⟨Nat.zero_le _, Nat.zero_le _⟩ ?_
    refine mh_ifb_ne (pc := 12) (tgt := 21) F dX11_go_12 rfl (fun c_12 => ?_) (fun c_12 => ?_)
    · have hkk : 0 ≤ k ∧ k < 6 := by omega
      have zAk := sc_Aj hkk
      have hcs : sc_is (h (44 + k.toNat)) (sp_row s k) k := hV.2.1 k hkk.1 hkk.2
      have hcr := hi.2.2.2.2.1 k hkk.1 hkk.2
      have hco := hcs.ok hcr
      obtain ⟨d0, d1, d2, d3, d4, d5, d6, d7, d8, d9⟩ := id hcs
      unfold sp_row at d1 d2 d3 d4 d5 d6 d7 d8 d9
      obtain ⟨c0, c1, c2, c3, c4, c5, c6, c7, c8, c9, c10, c11, c12, c13⟩ := id hcr
      unfold sp_row at c0 c1 c2 c3 c4 c5 c6 c7 c8 c9 c10 c11 c12 c13
      have hcA := zAk.rg
      refine mh_aload0 (pc := 21) F dX11_go_21 ?_
      refine mh_getr (b := 25) (pc := 22) F sh_0 (by decide) fw_RX11_72_11 dX11_go_22 rfl (fx_0_0 hF) ?_
      refine mh_getr (b := 31) (pc := 25) F sh_25 (by decide) fw_RX11_126_10 dX11_go_25 rfl (fx_25_5 hF) ?_
      refine mh_iload1 (pc := 28) F dX11_go_28 ?_
      refine mh_aaload (b := 44 + (k).toNat) (pc := 29) F sh_31 (by decide) (by decide) (by omega) dX11_go_29 (fx_31 hF (by omega)) ?_
      refine mh_astore3 (pc := 30) F dX11_go_30 rfl (by decide) ?_
      refine mh_aload3 (pc := 31) F dX11_go_31 ?_
      refine mh_callVp (pc := 32) (As := []) (st := []) F (by omega) (k0_stands (by omega) hF rfl zAk hco) wv_RX11_151_yX0_stands dX11_go_32 zAk.sh rfl zAk.lt rfl rfl (Nat.le_of_ble_eq_true rfl) ⟨Nat.zero_le _, Nat.zero_le _⟩ ?_
      refine mh_ifb_ne (pc := 35) (tgt := 44) F dX11_go_35 rfl (fun c_35 => ?_) (fun c_35 => ?_)
      · have hLc : h 29 c = s (33 + 2 * c) := (hV.1.2.1 c (by omega) (by omega)).1
        refine mh_aload0 (pc := 44) F dX11_go_44 ?_
        refine mh_getr (b := 25) (pc := 45) F sh_0 (by decide) fw_RX11_72_11 dX11_go_45 rfl (fx_0_0 hF) ?_
        refine mh_aload3 (pc := 48) F dX11_go_48 ?_
        refine mh_iload2 (pc := 49) F dX11_go_49 ?_
        refine mh_callV0 (pc := 50) (As := [.ref (44 + (k).toNat), .int (Int32.ofInt (c))]) (st := []) F (by omega) (k9_setOff (by omega) hF rfl rfl zAk (by omega)) wv_RX11_155_yX10_setOff dX11_go_50 sh_25 rfl (by decide) rfl rfl (Nat.le_of_ble_eq_true rfl) ⟨Nat.zero_le _, Nat.zero_le _⟩ (fun r3 h3 q3 => ?_)
        obtain ⟨rfl, F3, frp, qA⟩ := q3
        have frS : mh_fr [25, 36, 41, 44, 45, 46, 47, 48, 49] h h3 := frp.mono (by intro a ha; simp at ha ⊢; omega)
        have fr4 : mh_fr [25, 36, 41, 44, 45, 46, 47, 48, 49] h h3 := (mh_fr.tr mh_fr.rf frS).mono (by simp)
        have hVn : sc_V h3 (sp_leaves s k c) := sc_V_ch hkk hV (by rw [qA]; unfold sc_off; rw [hLc]; exact (by unfold sc_is sp_row sp_leaves; refine ⟨?_, ?_, ?_, ?_, ?_, ?_, ?_, ?_, ?_, ?_⟩ <;> (repeat (first | rw [mh_ur_ne (by omega)] | rw [mh_ur_eq (by omega)])) <;> first | assumption | rfl | omega | (rw [if_neg (by omega)]; omega) | (rw [if_pos (by omega)]; omega))) (fun i hi2 => by unfold sp_leaves; (repeat rw [mh_ur_ne (by omega)])) (fun a a1 a2 a3 a4 a5 => frp a (by simp; omega))
        refine mh_aload3 (pc := 53) F dX11_go_53 ?_
        refine mh_geti (pc := 54) F zAk.sh zAk.lt fw_RX11_159_0 dX11_go_54 rfl ?_
        refine mh_top (y := s (33 + 2 * c)) (mh_eqI (by rw [qA]; unfold sc_off; rw [mh_ur_eq rfl]; exact hLc)) ?_
        exact mh_ireturn F Z dX11_go_57 ⟨_, _, _, (by unfold sp_goP; (repeat' split) <;> first | rfl | (exfalso; omega)), rfl, F3, (fr4.mono (by simp)), hVn, (hE.of (fr4 24 (by simp)))⟩
      · refine mh_aload0 (pc := 38) F dX11_go_38 ?_
        refine mh_iconst (pc := 39) F dX11_go_39 ?_
        refine mh_callV0 (pc := 40) (As := [.int (Int32.ofInt (3))]) (st := []) F (by omega) (k8_refuse (by omega) hF rfl (by decide)) wv_RX11_90_yX11_refuse dX11_go_40 sh_0 rfl (by decide) rfl rfl (Nat.le_of_ble_eq_true rfl) ⟨Nat.zero_le _, Nat.zero_le _⟩ (fun r5 h5 q5 => ?_)
        obtain ⟨rfl, F5, fr5, q5_0⟩ := q5
        have fr6 : mh_fr [24] h h5 := (mh_fr.tr mh_fr.rf fr5).mono (by simp)
        have hVr : sc_V h5 s := sc_V_fr hV (fun a a1 a2 a3 a4 => fr5 a (by simp; omega))
        have hEr : sc_E h5 (mh_ur er 3 (er 3 + 1)) := hE.up (by decide) q5_0
        exact mh_ireturn F Z dX11_go_43 ⟨_, _, _, (by unfold sp_goP; (repeat' split) <;> first | rfl | (exfalso; omega)), rfl, F5, (fr6.mono (by simp)), hVr, hEr⟩
    · refine mh_aload0 (pc := 15) F dX11_go_15 ?_
      refine mh_iconst (pc := 16) F dX11_go_16 ?_
      refine mh_callV0 (pc := 17) (As := [.int (Int32.ofInt (1))]) (st := []) F (by omega) (k8_refuse (by omega) hF rfl (by decide)) wv_RX11_90_yX11_refuse dX11_go_17 sh_0 rfl (by decide) rfl rfl (Nat.le_of_ble_eq_true rfl) ⟨Nat.zero_le _, Nat.zero_le _⟩ (fun r7 h7 q7 => ?_)
      obtain ⟨rfl, F7, fr7, q7_0⟩ := q7
      have fr8 : mh_fr [24] h h7 := (mh_fr.tr mh_fr.rf fr7).mono (by simp)
      have hVr : sc_V h7 s := sc_V_fr hV (fun a a1 a2 a3 a4 => fr7 a (by simp; omega))
      have hEr : sc_E h7 (mh_ur er 1 (er 1 + 1)) := hE.up (by decide) q7_0
      exact mh_ireturn F Z dX11_go_20 ⟨_, _, _, (by unfold sp_goP; (repeat' split) <;> first | rfl | (exfalso; omega)), rfl, F7, (fr8.mono (by simp)), hVr, hEr⟩

set_option maxRecDepth 100000 in
set_option maxHeartbeats 2000000 in
theorem q_brook {g : mh_G} {d : Nat} (hd : 16 ≤ d) {h : Nat → Int → Int} (hF : mh_FX h) {s er : Int → Int} {k : Int} (hk : -2147483648 ≤ k ∧ k < 2147483648) (hbk : ∀ a, 0 ≤ a → a ≤ 8 → sp_inB s a ≤ s (6 + 3 * a + 1)) (hi : sp_inv s) (hV : sc_V h s) (hE : sc_E h er) (hKN : sc_KN h) : mh_M g d yX11_brook cX11_brook 3 (some .int) 96 0 0 [.ref 0, .int (Int32.ofInt (k))] h (fun r h2 => ∃ (vv : Int) (tt ee : Int → Int), (vv, tt, ee) = sp_brook k s er ∧ r = some (.int (Int32.ofInt vv)) ∧ mh_FX h2 ∧ mh_fr [25, 36, 41, 44, 45, 46, 47, 48, 49, 24] h h2 ∧ sc_V h2 tt ∧ sc_E h2 ee) := by
  refine mh_M_of RX11 rfl (by decide +kernel) [some (.ref 0), some (.int (Int32.ofInt (k))), none] rfl (Nat.le_of_ble_eq_true rfl) (fun f F Z hn0 hR => ?_)
  have hm := hi.1
  have hq0 := hi.2.1
  have hs1 := hi.2.2.1
  have hh := hi.2.2.2.1
  obtain ⟨n6, n7, n8, n10, n14, n15⟩ := hV.2.2
  refine mh_aload0 (pc := 0) F dX11_brook_0 ?_
  refine mh_iload1 (pc := 1) F dX11_brook_1 ?_
  refine mh_callVp (pc := 2) (As := [.int (Int32.ofInt (k))]) (st := []) F (by omega) (k8_isChurn (by omega) hF (by omega) hV.2.2 (by omega)) wv_RX11_139_yX11_isChurn dX11_brook_2 sh_0 rfl (by decide) rfl rfl (Nat.le_of_ble_eq_true rfl) ⟨Nat.zero_le _, Nat.zero_le _⟩ ?_
  refine mh_ifb_ne (pc := 5) (tgt := 14) F dX11_brook_5 rfl (fun c_5 => ?_) (fun c_5 => ?_)
  · have hkk : 0 ≤ k ∧ k < 6 := by omega
    have zAk := sc_Aj hkk
    have hcs : sc_is (h (44 + k.toNat)) (sp_row s k) k := hV.2.1 k hkk.1 hkk.2
    have hcr := hi.2.2.2.2.1 k hkk.1 hkk.2
    have hco := hcs.ok hcr
    obtain ⟨d0, d1, d2, d3, d4, d5, d6, d7, d8, d9⟩ := id hcs
    unfold sp_row at d1 d2 d3 d4 d5 d6 d7 d8 d9
    obtain ⟨c0, c1, c2, c3, c4, c5, c6, c7, c8, c9, c10, c11, c12, c13⟩ := id hcr
    unfold sp_row at c0 c1 c2 c3 c4 c5 c6 c7 c8 c9 c10 c11 c12 c13
    have hcA := zAk.rg
    refine mh_aload0 (pc := 14) F dX11_brook_14 ?_
    refine mh_getr (b := 25) (pc := 15) F sh_0 (by decide) fw_RX11_72_11 dX11_brook_15 rfl (fx_0_0 hF) ?_
    refine mh_getr (b := 31) (pc := 18) F sh_25 (by decide) fw_RX11_126_10 dX11_brook_18 rfl (fx_25_5 hF) ?_
    refine mh_iload1 (pc := 21) F dX11_brook_21 ?_
    refine mh_aaload (b := 44 + (k).toNat) (pc := 22) F sh_31 (by decide) (by decide) (by omega) dX11_brook_22 (fx_31 hF (by omega)) ?_
    refine mh_astore2 (pc := 23) F dX11_brook_23 rfl (by decide) ?_
    refine mh_aload2 (pc := 24) F dX11_brook_24 ?_
    refine mh_geti (pc := 25) F zAk.sh zAk.lt fw_RX11_162_0 dX11_brook_25 rfl ?_
    refine mh_if_ne (pc := 28) (tgt := 38) F dX11_brook_28 rfl (by omega) (fun c_28 => ?_) (fun c_28 => ?_)
    · refine mh_aload0 (pc := 38) F dX11_brook_38 ?_
      refine mh_iconst (pc := 39) F dX11_brook_39 ?_
      refine mh_callV0 (pc := 40) (As := [.int (Int32.ofInt (3))]) (st := []) F (by omega) (k8_refuse (by omega) hF rfl (by decide)) wv_RX11_90_yX11_refuse dX11_brook_40 sh_0 rfl (by decide) rfl rfl (Nat.le_of_ble_eq_true rfl) ⟨Nat.zero_le _, Nat.zero_le _⟩ (fun r1 h1 q1 => ?_)
      obtain ⟨rfl, F1, fr1, q1_0⟩ := q1
      have fr2 : mh_fr [24] h h1 := (mh_fr.tr mh_fr.rf fr1).mono (by simp)
      have hVr : sc_V h1 s := sc_V_fr hV (fun a a1 a2 a3 a4 => fr1 a (by simp; omega))
      have hEr : sc_E h1 (mh_ur er 3 (er 3 + 1)) := hE.up (by decide) q1_0
      exact mh_ireturn F Z dX11_brook_43 ⟨_, _, _, (by unfold sp_brook; (repeat' split) <;> first | rfl | (exfalso; omega)), rfl, F1, (fr2.mono (by simp)), hVr, hEr⟩
    · refine mh_aload2 (pc := 31) F dX11_brook_31 ?_
      refine mh_geti (pc := 32) F zAk.sh zAk.lt fw_RX11_165_0 dX11_brook_32 rfl ?_
      refine mh_if_eq (pc := 35) (tgt := 44) F dX11_brook_35 rfl (by omega) (fun c_35 => ?_) (fun c_35 => ?_)
      · have hbr := sp_inB_rg hm (s (41 + 9 * k + 2))
        have hbk2 := hbk (s (41 + 9 * k + 2)) (by omega) (by omega)
        have hhr := (hh.1 (s (41 + 9 * k + 2)) (by omega) (by omega)).2.1
        refine mh_aload0 (pc := 44) F dX11_brook_44 ?_
        refine mh_getr (b := 25) (pc := 45) F sh_0 (by decide) fw_RX11_72_11 dX11_brook_45 rfl (fx_0_0 hF) ?_
        refine mh_aload2 (pc := 48) F dX11_brook_48 ?_
        refine mh_geti (pc := 49) F zAk.sh zAk.lt fw_RX11_169_0 dX11_brook_49 rfl ?_
        refine mh_top (y := s (41 + 9 * k + 2)) (mh_eqI d3) ?_
        refine mh_callVp (pc := 52) (As := [.int (Int32.ofInt (s (41 + 9 * k + 2)))]) (st := []) F (by omega) (k4_inBrook (by omega) hF hV.2.1 hV.2.2 (by omega) hi.2.2.2.2.1 (by omega)) wv_RX11_93_yX10_inBrook dX11_brook_52 sh_25 rfl (by decide) rfl rfl (Nat.le_of_ble_eq_true rfl) ⟨Nat.zero_le _, Nat.zero_le _⟩ ?_
        refine mh_aload0 (pc := 55) F dX11_brook_55 ?_
        refine mh_getr (b := 25) (pc := 56) F sh_0 (by decide) fw_RX11_72_11 dX11_brook_56 rfl (fx_0_0 hF) ?_
        refine mh_aload2 (pc := 59) F dX11_brook_59 ?_
        refine mh_geti (pc := 60) F zAk.sh zAk.lt fw_RX11_169_0 dX11_brook_60 rfl ?_
        refine mh_top (y := s (41 + 9 * k + 2)) (mh_eqI d3) ?_
        refine mh_callVp (pc := 63) (As := [.int (Int32.ofInt (s (41 + 9 * k + 2)))]) (st := [.int (Int32.ofInt (sp_inB s (s (41 + 9 * k + 2))))]) F (by omega) (k4_room (by omega) hF hV.1 (by omega)) wv_RX11_172_yX10_room dX11_brook_63 sh_25 rfl (by decide) rfl rfl (Nat.le_of_ble_eq_true rfl) ⟨Nat.zero_le _, Nat.zero_le _⟩ ?_
        refine mh_top (y := s (6 + 3 * s (41 + 9 * k + 2) + 1)) (mh_eqI (if_pos (by omega))) ?_
        refine mh_icmp_lt (pc := 66) (tgt := 75) F dX11_brook_66 rfl (by omega) (by omega) (fun c_66 => ?_) (fun c_66 => ?_)
        · refine mh_aload2 (pc := 75) F dX11_brook_75 ?_
          refine mh_iconst (pc := 76) F dX11_brook_76 ?_
          refine mh_puti (pc := 77) F zAk.sh zAk.lt pw_RX11_162_0 dX11_brook_77 ?_
          refine mh_nmh (fun h3 e3 => ?_)
          have F3 : mh_FX h3 := by rw [e3]; exact hF.ups zAk.fx
          have fr3 : mh_fr [44 + (k).toNat] h h3 := mh_fr.up mh_fr.rf e3
          have hVn : sc_V h3 (mh_ur s (41 + 9 * k + 3) 1) := sc_V_ch hkk hV (by rw [e3, mh_up_rs]; exact (by unfold sc_is sp_row; refine ⟨?_, ?_, ?_, ?_, ?_, ?_, ?_, ?_, ?_, ?_⟩ <;> (repeat (first | rw [mh_ur_ne (by omega)] | rw [mh_ur_eq (by omega)])) <;> first | assumption | rfl | omega | (rw [if_neg (by omega)]; omega) | (rw [if_pos (by omega)]; omega))) (fun i hi2 => by (repeat rw [mh_ur_ne (by omega)])) (fun a a1 a2 a3 a4 a5 => by rw [e3, mh_up_row a5])
          have hIn : sp_inv (mh_ur s (41 + 9 * k + 3) 1) := sp_inv_how hi hkk (by omega) (by decide) (by omega)
          refine mh_aload0 (pc := 80) F dX11_brook_80 ?_
          refine mh_getr (b := 25) (pc := 81) F sh_0 (by decide) fw_RX11_72_11 dX11_brook_81 rfl (fx_0_0 F3) ?_
          refine mh_aload2 (pc := 84) F dX11_brook_84 ?_
          refine mh_geti (pc := 85) F zAk.sh zAk.lt fw_RX11_169_0 dX11_brook_85 rfl ?_
          refine mh_top (y := s (41 + 9 * k + 2)) (mh_eqI (by rw [e3, mh_up_rs, mh_ur_ne (by decide)]; exact d3)) ?_
          refine mh_callVp (pc := 88) (As := [.int (Int32.ofInt (s (41 + 9 * k + 2)))]) (st := []) F (by omega) (k4_inBrook (by omega) F3 hVn.2.1 hVn.2.2 (by rw [mh_ur_ne (by omega)]; exact hm) hIn.2.2.2.2.1 (by omega)) wv_RX11_93_yX10_inBrook dX11_brook_88 sh_25 rfl (by decide) rfl rfl (Nat.le_of_ble_eq_true rfl) ⟨Nat.zero_le _, Nat.zero_le _⟩ ?_
          exact mh_ireturn F Z dX11_brook_91 ⟨_, _, _, (by unfold sp_brook; (repeat' split) <;> first | rfl | (exfalso; omega)), rfl, F3, (fr3.mono (by intro a ha; simp at ha ⊢; omega)), hVn, (hE.of (fr3 24 (by simp; omega)))⟩
        · refine mh_aload0 (pc := 69) F dX11_brook_69 ?_
          refine mh_iconst (pc := 70) F dX11_brook_70 ?_
          refine mh_callV0 (pc := 71) (As := [.int (Int32.ofInt (4))]) (st := []) F (by omega) (k8_refuse (by omega) hF rfl (by decide)) wv_RX11_90_yX11_refuse dX11_brook_71 sh_0 rfl (by decide) rfl rfl (Nat.le_of_ble_eq_true rfl) ⟨Nat.zero_le _, Nat.zero_le _⟩ (fun r4 h4 q4 => ?_)
          obtain ⟨rfl, F4, fr4, q4_0⟩ := q4
          have fr5 : mh_fr [24] h h4 := (mh_fr.tr mh_fr.rf fr4).mono (by simp)
          have hVr : sc_V h4 s := sc_V_fr hV (fun a a1 a2 a3 a4 => fr4 a (by simp; omega))
          have hEr : sc_E h4 (mh_ur er 4 (er 4 + 1)) := hE.up (by decide) q4_0
          exact mh_ireturn F Z dX11_brook_74 ⟨_, _, _, (by unfold sp_brook; (repeat' split) <;> first | rfl | (exfalso; omega)), rfl, F4, (fr5.mono (by simp)), hVr, hEr⟩
      · refine mh_aload0 (pc := 38) F dX11_brook_38 ?_
        refine mh_iconst (pc := 39) F dX11_brook_39 ?_
        refine mh_callV0 (pc := 40) (As := [.int (Int32.ofInt (3))]) (st := []) F (by omega) (k8_refuse (by omega) hF rfl (by decide)) wv_RX11_90_yX11_refuse dX11_brook_40 sh_0 rfl (by decide) rfl rfl (Nat.le_of_ble_eq_true rfl) ⟨Nat.zero_le _, Nat.zero_le _⟩ (fun r6 h6 q6 => ?_)
        obtain ⟨rfl, F6, fr6, q6_0⟩ := q6
        have fr7 : mh_fr [24] h h6 := (mh_fr.tr mh_fr.rf fr6).mono (by simp)
        have hVr : sc_V h6 s := sc_V_fr hV (fun a a1 a2 a3 a4 => fr6 a (by simp; omega))
        have hEr : sc_E h6 (mh_ur er 3 (er 3 + 1)) := hE.up (by decide) q6_0
        exact mh_ireturn F Z dX11_brook_43 ⟨_, _, _, (by unfold sp_brook; (repeat' split) <;> first | rfl | (exfalso; omega)), rfl, F6, (fr7.mono (by simp)), hVr, hEr⟩
  · refine mh_aload0 (pc := 8) F dX11_brook_8 ?_
    refine mh_iconst (pc := 9) F dX11_brook_9 ?_
    refine mh_callV0 (pc := 10) (As := [.int (Int32.ofInt (1))]) (st := []) F (by omega) (k8_refuse (by omega) hF rfl (by decide)) wv_RX11_90_yX11_refuse dX11_brook_10 sh_0 rfl (by decide) rfl rfl (Nat.le_of_ble_eq_true rfl) ⟨Nat.zero_le _, Nat.zero_le _⟩ (fun r8 h8 q8 => ?_)
    obtain ⟨rfl, F8, fr8, q8_0⟩ := q8
    have fr9 : mh_fr [24] h h8 := (mh_fr.tr mh_fr.rf fr8).mono (by simp)
    have hVr : sc_V h8 s := sc_V_fr hV (fun a a1 a2 a3 a4 => fr8 a (by simp; omega))
    have hEr : sc_E h8 (mh_ur er 1 (er 1 + 1)) := hE.up (by decide) q8_0
    exact mh_ireturn F Z dX11_brook_13 ⟨_, _, _, (by unfold sp_brook; (repeat' split) <;> first | rfl | (exfalso; omega)), rfl, F8, (fr9.mono (by simp)), hVr, hEr⟩

set_option maxRecDepth 100000 in
set_option maxHeartbeats 2000000 in
theorem q_rest {g : mh_G} {d : Nat} (hd : 16 ≤ d) {h : Nat → Int → Int} (hF : mh_FX h) {s er : Int → Int} {k : Int} (hk : -2147483648 ≤ k ∧ k < 2147483648) (hi : sp_inv s) (hV : sc_V h s) (hE : sc_E h er) (hKN : sc_KN h) : mh_M g d yX11_rest cX11_rest 3 (some .int) 96 0 0 [.ref 0, .int (Int32.ofInt (k))] h (fun r h2 => ∃ (vv : Int) (tt ee : Int → Int), (vv, tt, ee) = sp_rest k s er ∧ r = some (.int (Int32.ofInt vv)) ∧ mh_FX h2 ∧ mh_fr [25, 36, 41, 44, 45, 46, 47, 48, 49, 24] h h2 ∧ sc_V h2 tt ∧ sc_E h2 ee) := by
  refine mh_M_of RX11 rfl (by decide +kernel) [some (.ref 0), some (.int (Int32.ofInt (k))), none] rfl (Nat.le_of_ble_eq_true rfl) (fun f F Z hn0 hR => ?_)
  have hm := hi.1
  have hq0 := hi.2.1
  have hs1 := hi.2.2.1
  have hh := hi.2.2.2.1
  obtain ⟨n6, n7, n8, n10, n14, n15⟩ := hV.2.2
  refine mh_aload0 (pc := 0) F dX11_rest_0 ?_
  refine mh_iload1 (pc := 1) F dX11_rest_1 ?_
  refine mh_callVp (pc := 2) (As := [.int (Int32.ofInt (k))]) (st := []) F (by omega) (k8_isChurn (by omega) hF (by omega) hV.2.2 (by omega)) wv_RX11_139_yX11_isChurn dX11_rest_2 sh_0 rfl (by decide) rfl rfl (Nat.le_of_ble_eq_true rfl) ⟨Nat.zero_le _, Nat.zero_le _⟩ ?_
  refine mh_ifb_ne (pc := 5) (tgt := 14) F dX11_rest_5 rfl (fun c_5 => ?_) (fun c_5 => ?_)
  · have hkk : 0 ≤ k ∧ k < 6 := by omega
    have zAk := sc_Aj hkk
    have hcs : sc_is (h (44 + k.toNat)) (sp_row s k) k := hV.2.1 k hkk.1 hkk.2
    have hcr := hi.2.2.2.2.1 k hkk.1 hkk.2
    have hco := hcs.ok hcr
    obtain ⟨d0, d1, d2, d3, d4, d5, d6, d7, d8, d9⟩ := id hcs
    unfold sp_row at d1 d2 d3 d4 d5 d6 d7 d8 d9
    obtain ⟨c0, c1, c2, c3, c4, c5, c6, c7, c8, c9, c10, c11, c12, c13⟩ := id hcr
    unfold sp_row at c0 c1 c2 c3 c4 c5 c6 c7 c8 c9 c10 c11 c12 c13
    have hcA := zAk.rg
    refine mh_aload0 (pc := 14) F dX11_rest_14 ?_
    refine mh_getr (b := 25) (pc := 15) F sh_0 (by decide) fw_RX11_72_11 dX11_rest_15 rfl (fx_0_0 hF) ?_
    refine mh_getr (b := 31) (pc := 18) F sh_25 (by decide) fw_RX11_126_10 dX11_rest_18 rfl (fx_25_5 hF) ?_
    refine mh_iload1 (pc := 21) F dX11_rest_21 ?_
    refine mh_aaload (b := 44 + (k).toNat) (pc := 22) F sh_31 (by decide) (by decide) (by omega) dX11_rest_22 (fx_31 hF (by omega)) ?_
    refine mh_astore2 (pc := 23) F dX11_rest_23 rfl (by decide) ?_
    refine mh_aload2 (pc := 24) F dX11_rest_24 ?_
    refine mh_geti (pc := 25) F zAk.sh zAk.lt fw_RX11_162_0 dX11_rest_25 rfl ?_
    refine mh_iconst (pc := 28) F dX11_rest_28 ?_
    refine mh_icmp_eq (pc := 29) (tgt := 38) F dX11_rest_29 rfl (by omega) (by omega) (fun c_29 => ?_) (fun c_29 => ?_)
    · refine mh_aload2 (pc := 38) F dX11_rest_38 ?_
      refine mh_iconst (pc := 39) F dX11_rest_39 ?_
      refine mh_puti (pc := 40) F zAk.sh zAk.lt pw_RX11_162_0 dX11_rest_40 ?_
      refine mh_nmh (fun h1 e1 => ?_)
      have F1 : mh_FX h1 := by rw [e1]; exact hF.ups zAk.fx
      have fr1 : mh_fr [44 + (k).toNat] h h1 := mh_fr.up mh_fr.rf e1
      have hVn : sc_V h1 (mh_ur s (41 + 9 * k + 3) 0) := sc_V_ch hkk hV (by rw [e1, mh_up_rs]; exact (by unfold sc_is sp_row; refine ⟨?_, ?_, ?_, ?_, ?_, ?_, ?_, ?_, ?_, ?_⟩ <;> (repeat (first | rw [mh_ur_ne (by omega)] | rw [mh_ur_eq (by omega)])) <;> first | assumption | rfl | omega | (rw [if_neg (by omega)]; omega) | (rw [if_pos (by omega)]; omega))) (fun i hi2 => by (repeat rw [mh_ur_ne (by omega)])) (fun a a1 a2 a3 a4 a5 => by rw [e1, mh_up_row a5])
      have hIn : sp_inv (mh_ur s (41 + 9 * k + 3) 0) := sp_inv_how hi hkk (by omega) (by decide) (by omega)
      refine mh_aload0 (pc := 43) F dX11_rest_43 ?_
      refine mh_getr (b := 25) (pc := 44) F sh_0 (by decide) fw_RX11_72_11 dX11_rest_44 rfl (fx_0_0 F1) ?_
      refine mh_aload2 (pc := 47) F dX11_rest_47 ?_
      refine mh_geti (pc := 48) F zAk.sh zAk.lt fw_RX11_169_0 dX11_rest_48 rfl ?_
      refine mh_top (y := s (41 + 9 * k + 2)) (mh_eqI (by rw [e1, mh_up_rs, mh_ur_ne (by decide)]; exact d3)) ?_
      refine mh_callVp (pc := 51) (As := [.int (Int32.ofInt (s (41 + 9 * k + 2)))]) (st := []) F (by omega) (k4_inBrook (by omega) F1 hVn.2.1 hVn.2.2 (by rw [mh_ur_ne (by omega)]; exact hm) hIn.2.2.2.2.1 (by omega)) wv_RX11_93_yX10_inBrook dX11_rest_51 sh_25 rfl (by decide) rfl rfl (Nat.le_of_ble_eq_true rfl) ⟨Nat.zero_le _, Nat.zero_le _⟩ ?_
      exact mh_ireturn F Z dX11_rest_54 ⟨_, _, _, (by unfold sp_rest; (repeat' split) <;> first | rfl | (exfalso; omega)), rfl, F1, (fr1.mono (by intro a ha; simp at ha ⊢; omega)), hVn, (hE.of (fr1 24 (by simp; omega)))⟩
    · refine mh_aload0 (pc := 32) F dX11_rest_32 ?_
      refine mh_iconst (pc := 33) F dX11_rest_33 ?_
      refine mh_callV0 (pc := 34) (As := [.int (Int32.ofInt (3))]) (st := []) F (by omega) (k8_refuse (by omega) hF rfl (by decide)) wv_RX11_90_yX11_refuse dX11_rest_34 sh_0 rfl (by decide) rfl rfl (Nat.le_of_ble_eq_true rfl) ⟨Nat.zero_le _, Nat.zero_le _⟩ (fun r2 h2 q2 => ?_)
      obtain ⟨rfl, F2, fr2, q2_0⟩ := q2
      have fr3 : mh_fr [24] h h2 := (mh_fr.tr mh_fr.rf fr2).mono (by simp)
      have hVr : sc_V h2 s := sc_V_fr hV (fun a a1 a2 a3 a4 => fr2 a (by simp; omega))
      have hEr : sc_E h2 (mh_ur er 3 (er 3 + 1)) := hE.up (by decide) q2_0
      exact mh_ireturn F Z dX11_rest_37 ⟨_, _, _, (by unfold sp_rest; (repeat' split) <;> first | rfl | (exfalso; omega)), rfl, F2, (fr3.mono (by simp)), hVr, hEr⟩
  · refine mh_aload0 (pc := 8) F dX11_rest_8 ?_
    refine mh_iconst (pc := 9) F dX11_rest_9 ?_
    refine mh_callV0 (pc := 10) (As := [.int (Int32.ofInt (1))]) (st := []) F (by omega) (k8_refuse (by omega) hF rfl (by decide)) wv_RX11_90_yX11_refuse dX11_rest_10 sh_0 rfl (by decide) rfl rfl (Nat.le_of_ble_eq_true rfl) ⟨Nat.zero_le _, Nat.zero_le _⟩ (fun r4 h4 q4 => ?_)
    obtain ⟨rfl, F4, fr4, q4_0⟩ := q4
    have fr5 : mh_fr [24] h h4 := (mh_fr.tr mh_fr.rf fr4).mono (by simp)
    have hVr : sc_V h4 s := sc_V_fr hV (fun a a1 a2 a3 a4 => fr4 a (by simp; omega))
    have hEr : sc_E h4 (mh_ur er 1 (er 1 + 1)) := hE.up (by decide) q4_0
    exact mh_ireturn F Z dX11_rest_13 ⟨_, _, _, (by unfold sp_rest; (repeat' split) <;> first | rfl | (exfalso; omega)), rfl, F4, (fr5.mono (by simp)), hVr, hEr⟩

