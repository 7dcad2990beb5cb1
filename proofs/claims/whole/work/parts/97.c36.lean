/-! the class's reader: what it stands at -/
def sc_RD (h : Nat → Int → Int) (t : Nat) (s : Int → Int) (p : sx_S) : Prop := h t 9 = p.1 ∧ (0 ≤ h t 5 ∧ h t 5 ≤ 50) ∧ h t 8 = s 4 ∧ h t 7 = 33 ∧ (p.2.1 = 0 → h t 5 = p.2.2.1 ∧ ∀ k, 0 ≤ k → k < p.2.2.1 → sc_de (h (t + 2) k) = p.2.2.2 k)
def sc_TP (h : Nat → Int → Int) (s : Int → Int) : Prop := (0 ≤ s 4 ∧ s 4 ≤ 50) ∧ ∀ i, 0 ≤ i → i < s 4 → mh_and (h 32 i) 255 = s (197 + i)
set_option maxRecDepth 100000 in
set_option maxHeartbeats 2000000 in
theorem k36_next_33 {g : mh_G} {d : Nat} (hd : 1 ≤ d) {h : Nat → Int → Int} (hF : mh_FX h) {s : Int → Int} {p : sx_S} (hD : sc_RD h 33 s p) (hT : sc_TP h s) (hp : sx_pv s p) (hw : p.2.1 = 0) : mh_MP g d yX9_next cX9_next 1 (some .int) 96 [.ref 33] h (some (.int (Int32.ofInt (sx_hr s p)))) := by
  refine mh_M_of RX9 rfl (by decide +kernel) [some (.ref 33)] rfl (Nat.le_of_ble_eq_true rfl) (fun f F Z hn0 hR => ?_)
  obtain ⟨D9, D5, D8, D7, -⟩ := id hD
  obtain ⟨hp1, hp2, -⟩ := id hp
  have hT4 := hT.1
  refine mh_aload0 (pc := 0) F dX9_next_0 ?_
  refine mh_geti (pc := 1) F sh_33 (by decide) fw_RX9_67_9 dX9_next_1 rfl ?_
  refine mh_aload0 (pc := 4) F dX9_next_4 ?_
  refine mh_geti (pc := 5) F sh_33 (by decide) fw_RX9_64_9 dX9_next_5 rfl ?_
  refine mh_icmp_ge (pc := 8) (tgt := 27) F dX9_next_8 rfl (by omega) (by omega) (fun c_8 => ?_) (fun c_8 => ?_)
  · refine mh_iconst (pc := 27) F dX9_next_27 ?_
    exact mh_ireturnp F Z dX9_next_28 (by unfold sx_hr; first | (rw [if_pos (by omega)]; done) | (rw [if_neg (by omega)]; done)) rfl
  · refine mh_aload0 (pc := 11) F dX9_next_11 ?_
    refine mh_getr (b := 32) (pc := 12) F sh_33 (by decide) fw_RX9_51_9 dX9_next_12 rfl (by rw [hD.2.2.2.1]; rfl) ?_
    refine mh_aload0 (pc := 15) F dX9_next_15 ?_
    refine mh_geti (pc := 16) F sh_33 (by decide) fw_RX9_67_9 dX9_next_16 rfl ?_
    refine mh_baload (pc := 19) F sh_32 (by decide) (by omega) dX9_next_19 ?_
    refine mh_sipush (pc := 20) F dX9_next_20 rfl ?_
    refine mh_iand (pc := 23) F dX9_next_23 ?_
    refine mh_top (y := s (197 + p.1)) (mh_eqI (by rw [D9]; exact hT.2 p.1 hp1.1 (by omega))) ?_
    refine mh_goto (pc := 24) (tgt := 28) F dX9_next_24 rfl ?_
    exact mh_ireturnp F Z dX9_next_28 (by unfold sx_hr; first | (rw [if_pos (by omega)]; done) | (rw [if_neg (by omega)]; done)) rfl

set_option maxRecDepth 100000 in
set_option maxHeartbeats 2000000 in
theorem k36_next_38 {g : mh_G} {d : Nat} (hd : 1 ≤ d) {h : Nat → Int → Int} (hF : mh_FX h) {s : Int → Int} {p : sx_S} (hD : sc_RD h 38 s p) (hT : sc_TP h s) (hp : sx_pv s p) (hw : p.2.1 = 0) : mh_MP g d yX9_next cX9_next 1 (some .int) 96 [.ref 38] h (some (.int (Int32.ofInt (sx_hr s p)))) := by
  refine mh_M_of RX9 rfl (by decide +kernel) [some (.ref 38)] rfl (Nat.le_of_ble_eq_true rfl) (fun f F Z hn0 hR => ?_)
  obtain ⟨D9, D5, D8, D7, -⟩ := id hD
  obtain ⟨hp1, hp2, -⟩ := id hp
  have hT4 := hT.1
  refine mh_aload0 (pc := 0) F dX9_next_0 ?_
  refine mh_geti (pc := 1) F sh_38 (by decide) fw_RX9_67_9 dX9_next_1 rfl ?_
  refine mh_aload0 (pc := 4) F dX9_next_4 ?_
  refine mh_geti (pc := 5) F sh_38 (by decide) fw_RX9_64_9 dX9_next_5 rfl ?_
  refine mh_icmp_ge (pc := 8) (tgt := 27) F dX9_next_8 rfl (by omega) (by omega) (fun c_8 => ?_) (fun c_8 => ?_)
  · refine mh_iconst (pc := 27) F dX9_next_27 ?_
    exact mh_ireturnp F Z dX9_next_28 (by unfold sx_hr; first | (rw [if_pos (by omega)]; done) | (rw [if_neg (by omega)]; done)) rfl
  · refine mh_aload0 (pc := 11) F dX9_next_11 ?_
    refine mh_getr (b := 32) (pc := 12) F sh_38 (by decide) fw_RX9_51_9 dX9_next_12 rfl (by rw [hD.2.2.2.1]; rfl) ?_
    refine mh_aload0 (pc := 15) F dX9_next_15 ?_
    refine mh_geti (pc := 16) F sh_38 (by decide) fw_RX9_67_9 dX9_next_16 rfl ?_
    refine mh_baload (pc := 19) F sh_32 (by decide) (by omega) dX9_next_19 ?_
    refine mh_sipush (pc := 20) F dX9_next_20 rfl ?_
    refine mh_iand (pc := 23) F dX9_next_23 ?_
    refine mh_top (y := s (197 + p.1)) (mh_eqI (by rw [D9]; exact hT.2 p.1 hp1.1 (by omega))) ?_
    refine mh_goto (pc := 24) (tgt := 28) F dX9_next_24 rfl ?_
    exact mh_ireturnp F Z dX9_next_28 (by unfold sx_hr; first | (rw [if_pos (by omega)]; done) | (rw [if_neg (by omega)]; done)) rfl

theorem sc_RD_w {h h2 : Nat → Int → Int} {t : Nat} {s : Int → Int} {p : sx_S} {c v : Int} (hD : sc_RD h t s p) (hm : sx_m5 p) (hmp : 0 ≤ p.2.2.1) (hv : sc_de c = v) (h5 : h t 5 < 50) (e1 : h2 (t + 2) = mh_ur (h (t + 2)) (h t 5) c) (e2 : h2 t = mh_ur (h t) 5 (h t 5 + 1)) : sc_RD h2 t s (sx_pp v p) := by
  obtain ⟨a1, a2, a3, a4, a5⟩ := hD
  unfold sc_RD
  rw [e1, e2, mh_ur_ne (by decide), mh_ur_eq rfl, mh_ur_ne (by decide), mh_ur_ne (by decide)]
  unfold sx_pp
  by_cases z : p.2.1 = 0
  · rw [if_pos z]
    obtain ⟨b1, b2⟩ := a5 z
    refine ⟨a1, by omega, a3, a4, fun _ => ⟨by show h t 5 + 1 = p.2.2.1 + 1; omega, fun k k0 k1 => ?_⟩⟩
    have k1 : k < p.2.2.1 + 1 := k1
    show sc_de _ = mh_ur p.2.2.2 p.2.2.1 v k
    by_cases y : k = p.2.2.1
    · rw [mh_ur_eq (by omega), mh_ur_eq y]; exact hv
    · rw [mh_ur_ne (by omega), mh_ur_ne y]; exact b2 k k0 (by omega)
  · rw [if_neg z]
    exact ⟨a1, by omega, a3, a4, fun q => absurd q z⟩
theorem sc_RD_w0 {h : Nat → Int → Int} {t : Nat} {s : Int → Int} {p : sx_S} {v : Int} (hD : sc_RD h t s p) (hm : sx_m5 p) (h5 : ¬ h t 5 < 50) : sc_RD h t s (sx_pp v p) := by
  have e : sx_pp v p = p := if_neg (fun z => by have := hm z; have := (hD.2.2.2.2 z).1; omega)
  rw [e]; exact hD
set_option maxRecDepth 100000 in
set_option maxHeartbeats 2000000 in
theorem k36_sees_33 {g : mh_G} {d : Nat} (hd : 2 ≤ d) {h : Nat → Int → Int} (hF : mh_FX h) {s : Int → Int} {p : sx_S} {x : Int} (hD : sc_RD h 33 s p) (hT : sc_TP h s) (hp : sx_pv s p) (hb : sx_by s) (hw : p.2.1 = 0) (hx : -2147483648 ≤ x ∧ x < 2147483648) : mh_MP g d yX9_sees cX9_sees 2 (some .boolean) 96 [.ref 33, .int (Int32.ofInt (x))] h (some (.int (Int32.ofInt (mh_B (sx_hr s p = x))))) := by
  refine mh_M_of RX9 rfl (by decide +kernel) [some (.ref 33), some (.int (Int32.ofInt (x)))] rfl (Nat.le_of_ble_eq_true rfl) (fun f F Z hn0 hR => ?_)
  have hrr := (sx_hr_z hb hp).1
  refine mh_aload0 (pc := 0) F dX9_sees_0 ?_
  refine mh_callVp (pc := 1) (As := []) (st := []) F (by omega) (k36_next_33 (by omega) hF hD hT hp hw) wv_RX9_102_yX9_next dX9_sees_1 sh_33 rfl (by decide) rfl rfl (Nat.le_of_ble_eq_true rfl) ⟨Nat.zero_le _, Nat.zero_le _⟩ ?_
  refine mh_iload1 (pc := 4) F dX9_sees_4 ?_
  refine mh_icmp_ne (pc := 5) (tgt := 12) F dX9_sees_5 rfl (by omega) (by omega) (fun c_5 => ?_) (fun c_5 => ?_)
  · refine mh_iconst (pc := 12) F dX9_sees_12 ?_
    exact mh_zreturnp F Z dX9_sees_13 (Or.inr ⟨rfl, (by omega)⟩) rfl
  · refine mh_iconst (pc := 8) F dX9_sees_8 ?_
    refine mh_goto (pc := 9) (tgt := 13) F dX9_sees_9 rfl ?_
    exact mh_zreturnp F Z dX9_sees_13 (Or.inl ⟨rfl, (by omega)⟩) rfl

set_option maxRecDepth 100000 in
set_option maxHeartbeats 2000000 in
theorem k36_digit_33 {g : mh_G} {d : Nat} (hd : 2 ≤ d) {h : Nat → Int → Int} (hF : mh_FX h) {s : Int → Int} {p : sx_S} (hD : sc_RD h 33 s p) (hT : sc_TP h s) (hp : sx_pv s p) (hb : sx_by s) (hw : p.2.1 = 0) : mh_MP g d yX9_seesDigit cX9_seesDigit 1 (some .boolean) 96 [.ref 33] h (some (.int (Int32.ofInt (mh_B (48 ≤ sx_hr s p ∧ sx_hr s p ≤ 57))))) := by
  refine mh_M_of RX9 rfl (by decide +kernel) [some (.ref 33)] rfl (Nat.le_of_ble_eq_true rfl) (fun f F Z hn0 hR => ?_)
  have hrr := (sx_hr_z hb hp).1
  refine mh_aload0 (pc := 0) F dX9_seesDigit_0 ?_
  refine mh_callVp (pc := 1) (As := []) (st := []) F (by omega) (k36_next_33 (by omega) hF hD hT hp hw) wv_RX9_102_yX9_next dX9_seesDigit_1 sh_33 rfl (by decide) rfl rfl (Nat.le_of_ble_eq_true rfl) ⟨Nat.zero_le _, Nat.zero_le _⟩ ?_
  refine mh_bipush (pc := 4) F dX9_seesDigit_4 rfl ?_
  refine mh_icmp_lt (pc := 6) (tgt := 22) F dX9_seesDigit_6 rfl (by omega) (by omega) (fun c_6 => ?_) (fun c_6 => ?_)
  · refine mh_iconst (pc := 22) F dX9_seesDigit_22 ?_
    exact mh_zreturnp F Z dX9_seesDigit_23 (Or.inr ⟨rfl, (by omega)⟩) rfl
  · refine mh_aload0 (pc := 9) F dX9_seesDigit_9 ?_
    refine mh_callVp (pc := 10) (As := []) (st := []) F (by omega) (k36_next_33 (by omega) hF hD hT hp hw) wv_RX9_102_yX9_next dX9_seesDigit_10 sh_33 rfl (by decide) rfl rfl (Nat.le_of_ble_eq_true rfl) ⟨Nat.zero_le _, Nat.zero_le _⟩ ?_
    refine mh_bipush (pc := 13) F dX9_seesDigit_13 rfl ?_
    refine mh_icmp_gt (pc := 15) (tgt := 22) F dX9_seesDigit_15 rfl (by omega) (by omega) (fun c_15 => ?_) (fun c_15 => ?_)
    · refine mh_iconst (pc := 22) F dX9_seesDigit_22 ?_
      exact mh_zreturnp F Z dX9_seesDigit_23 (Or.inr ⟨rfl, (by omega)⟩) rfl
    · refine mh_iconst (pc := 18) F dX9_seesDigit_18 ?_
      refine mh_goto (pc := 19) (tgt := 23) F dX9_seesDigit_19 rfl ?_
      exact mh_zreturnp F Z dX9_seesDigit_23 (Or.inl ⟨rfl, (by omega)⟩) rfl

set_option maxRecDepth 100000 in
set_option maxHeartbeats 2000000 in
theorem k36_write_33 {g : mh_G} {d : Nat} (hd : 1 ≤ d) {h : Nat → Int → Int} (hF : mh_FX h) {s : Int → Int} {p : sx_S} {c v : Int} (hD : sc_RD h 33 s p) (hm : sx_m5 p) (hmp : 0 ≤ p.2.2.1) (hv : sc_de c = v) : mh_M g d yX9_write cX9_write 2 none 96 0 0 [.ref 33, .int (Int32.ofInt (c))] h (fun r h2 => r = none ∧ mh_FX h2 ∧ mh_fr [33, 35] h h2 ∧ sc_RD h2 33 s (sx_pp v p)) := by
  refine mh_M_of RX9 rfl (by decide +kernel) [some (.ref 33), some (.int (Int32.ofInt (c)))] rfl (Nat.le_of_ble_eq_true rfl) (fun f F Z hn0 hR => ?_)
  have D5 := hD.2.1
  refine mh_aload0 (pc := 0) F dX9_write_0 ?_
  refine mh_geti (pc := 1) F sh_33 (by decide) fw_RX9_70_9 dX9_write_1 rfl ?_
  refine mh_bipush (pc := 4) F dX9_write_4 rfl ?_
  refine mh_icmp_ge (pc := 6) (tgt := 29) F dX9_write_6 rfl (by omega) (by omega) (fun c_6 => ?_) (fun c_6 => ?_)
  · exact mh_return F Z dX9_write_29 ⟨rfl, hF, mh_fr.rf.mono (by simp), sc_RD_w0 hD hm (by omega)⟩
  · refine mh_aload0 (pc := 9) F dX9_write_9 ?_
    refine mh_getr (b := 35) (pc := 10) F sh_33 (by decide) fw_RX9_15_9 dX9_write_10 rfl (fx_33_4 hF) ?_
    refine mh_aload0 (pc := 13) F dX9_write_13 ?_
    refine mh_geti (pc := 14) F sh_33 (by decide) fw_RX9_70_9 dX9_write_14 rfl ?_
    refine mh_iload1 (pc := 17) F dX9_write_17 ?_
    refine mh_iastore (pc := 18) F sh_35 (by decide) (by omega) dX9_write_18 ?_
    refine mh_nmh (fun h1 e1 => ?_)
    have F1 : mh_FX h1 := by rw [e1]; exact hF.upa rfl
    have fr1 : mh_fr [35] h h1 := mh_fr.up mh_fr.rf e1
    refine mh_aload0 (pc := 19) F dX9_write_19 ?_
    refine mh_dup (pc := 20) F dX9_write_20 rfl ?_
    refine mh_geti (pc := 21) F sh_33 (by decide) fw_RX9_70_9 dX9_write_21 rfl ?_
    refine mh_iconst (pc := 24) F dX9_write_24 ?_
    refine mh_iadd (pc := 25) F dX9_write_25 ?_
    refine mh_puti (pc := 26) F sh_33 (by decide) pw_RX9_70_9 dX9_write_26 ?_
    refine mh_nmh (fun h2 e2 => ?_)
    have F2 : mh_FX h2 := by rw [e2]; exact F1.upz rfl
    have fr2 : mh_fr [33, 35] h h2 := mh_fr.up fr1 e2
    exact mh_return F Z dX9_write_29 ⟨rfl, F2, (fr2.mono (by simp)), sc_RD_w hD hm hmp hv (by omega) (by show h2 35 = _; rw [e2, mh_up_row (by decide), e1, mh_up_rs]) (by rw [e2, mh_up_rs, e1, mh_up_row (by decide)])⟩

set_option maxRecDepth 100000 in
set_option maxHeartbeats 2000000 in
theorem k36_sees_38 {g : mh_G} {d : Nat} (hd : 2 ≤ d) {h : Nat → Int → Int} (hF : mh_FX h) {s : Int → Int} {p : sx_S} {x : Int} (hD : sc_RD h 38 s p) (hT : sc_TP h s) (hp : sx_pv s p) (hb : sx_by s) (hw : p.2.1 = 0) (hx : -2147483648 ≤ x ∧ x < 2147483648) : mh_MP g d yX9_sees cX9_sees 2 (some .boolean) 96 [.ref 38, .int (Int32.ofInt (x))] h (some (.int (Int32.ofInt (mh_B (sx_hr s p = x))))) := by
  refine mh_M_of RX9 rfl (by decide +kernel) [some (.ref 38), some (.int (Int32.ofInt (x)))] rfl (Nat.le_of_ble_eq_true rfl) (fun f F Z hn0 hR => ?_)
  have hrr := (sx_hr_z hb hp).1
  refine mh_aload0 (pc := 0) F dX9_sees_0 ?_
  refine mh_callVp (pc := 1) (As := []) (st := []) F (by omega) (k36_next_38 (by omega) hF hD hT hp hw) wv_RX9_102_yX9_next dX9_sees_1 sh_38 rfl (by decide) rfl rfl (Nat.le_of_ble_eq_true rfl) ⟨Nat.zero_le _, Nat.zero_le _⟩ ?_
  refine mh_iload1 (pc := 4) F dX9_sees_4 ?_
  refine mh_icmp_ne (pc := 5) (tgt := 12) F dX9_sees_5 rfl (by omega) (by omega) (fun c_5 => ?_) (fun c_5 => ?_)
  · refine mh_iconst (pc := 12) F dX9_sees_12 ?_
    exact mh_zreturnp F Z dX9_sees_13 (Or.inr ⟨rfl, (by omega)⟩) rfl
  · refine mh_iconst (pc := 8) F dX9_sees_8 ?_
    refine mh_goto (pc := 9) (tgt := 13) F dX9_sees_9 rfl ?_
    exact mh_zreturnp F Z dX9_sees_13 (Or.inl ⟨rfl, (by omega)⟩) rfl

set_option maxRecDepth 100000 in
set_option maxHeartbeats 2000000 in
theorem k36_digit_38 {g : mh_G} {d : Nat} (hd : 2 ≤ d) {h : Nat → Int → Int} (hF : mh_FX h) {s : Int → Int} {p : sx_S} (hD : sc_RD h 38 s p) (hT : sc_TP h s) (hp : sx_pv s p) (hb : sx_by s) (hw : p.2.1 = 0) : mh_MP g d yX9_seesDigit cX9_seesDigit 1 (some .boolean) 96 [.ref 38] h (some (.int (Int32.ofInt (mh_B (48 ≤ sx_hr s p ∧ sx_hr s p ≤ 57))))) := by
  refine mh_M_of RX9 rfl (by decide +kernel) [some (.ref 38)] rfl (Nat.le_of_ble_eq_true rfl) (fun f F Z hn0 hR => ?_)
  have hrr := (sx_hr_z hb hp).1
  refine mh_aload0 (pc := 0) F dX9_seesDigit_0 ?_
  refine mh_callVp (pc := 1) (As := []) (st := []) F (by omega) (k36_next_38 (by omega) hF hD hT hp hw) wv_RX9_102_yX9_next dX9_seesDigit_1 sh_38 rfl (by decide) rfl rfl (Nat.le_of_ble_eq_true rfl) ⟨Nat.zero_le _, Nat.zero_le _⟩ ?_
  refine mh_bipush (pc := 4) F dX9_seesDigit_4 rfl ?_
  refine mh_icmp_lt (pc := 6) (tgt := 22) F dX9_seesDigit_6 rfl (by omega) (by omega) (fun c_6 => ?_) (fun c_6 => ?_)
  · refine mh_iconst (pc := 22) F dX9_seesDigit_22 ?_
    exact mh_zreturnp F Z dX9_seesDigit_23 (Or.inr ⟨rfl, (by omega)⟩) rfl
  · refine mh_aload0 (pc := 9) F dX9_seesDigit_9 ?_
    refine mh_callVp (pc := 10) (As := []) (st := []) F (by omega) (k36_next_38 (by omega) hF hD hT hp hw) wv_RX9_102_yX9_next dX9_seesDigit_10 sh_38 rfl (by decide) rfl rfl (Nat.le_of_ble_eq_true rfl) ⟨Nat.zero_le _, Nat.zero_le _⟩ ?_
    refine mh_bipush (pc := 13) F dX9_seesDigit_13 rfl ?_
    refine mh_icmp_gt (pc := 15) (tgt := 22) F dX9_seesDigit_15 rfl (by omega) (by omega) (fun c_15 => ?_) (fun c_15 => ?_)
    · refine mh_iconst (pc := 22) F dX9_seesDigit_22 ?_
      exact mh_zreturnp F Z dX9_seesDigit_23 (Or.inr ⟨rfl, (by omega)⟩) rfl
    · refine mh_iconst (pc := 18) F dX9_seesDigit_18 ?_
      refine mh_goto (pc := 19) (tgt := 23) F dX9_seesDigit_19 rfl ?_
      exact mh_zreturnp F Z dX9_seesDigit_23 (Or.inl ⟨rfl, (by omega)⟩) rfl

set_option maxRecDepth 100000 in
set_option maxHeartbeats 2000000 in
theorem k36_write_38 {g : mh_G} {d : Nat} (hd : 1 ≤ d) {h : Nat → Int → Int} (hF : mh_FX h) {s : Int → Int} {p : sx_S} {c v : Int} (hD : sc_RD h 38 s p) (hm : sx_m5 p) (hmp : 0 ≤ p.2.2.1) (hv : sc_de c = v) : mh_M g d yX9_write cX9_write 2 none 96 0 0 [.ref 38, .int (Int32.ofInt (c))] h (fun r h2 => r = none ∧ mh_FX h2 ∧ mh_fr [38, 40] h h2 ∧ sc_RD h2 38 s (sx_pp v p)) := by
  refine mh_M_of RX9 rfl (by decide +kernel) [some (.ref 38), some (.int (Int32.ofInt (c)))] rfl (Nat.le_of_ble_eq_true rfl) (fun f F Z hn0 hR => ?_)
  have D5 := hD.2.1
  refine mh_aload0 (pc := 0) F dX9_write_0 ?_
  refine mh_geti (pc := 1) F sh_38 (by decide) fw_RX9_70_9 dX9_write_1 rfl ?_
  refine mh_bipush (pc := 4) F dX9_write_4 rfl ?_
  refine mh_icmp_ge (pc := 6) (tgt := 29) F dX9_write_6 rfl (by omega) (by omega) (fun c_6 => ?_) (fun c_6 => ?_)
  · exact mh_return F Z dX9_write_29 ⟨rfl, hF, mh_fr.rf.mono (by simp), sc_RD_w0 hD hm (by omega)⟩
  · refine mh_aload0 (pc := 9) F dX9_write_9 ?_
    refine mh_getr (b := 40) (pc := 10) F sh_38 (by decide) fw_RX9_15_9 dX9_write_10 rfl (fx_38_4 hF) ?_
    refine mh_aload0 (pc := 13) F dX9_write_13 ?_
    refine mh_geti (pc := 14) F sh_38 (by decide) fw_RX9_70_9 dX9_write_14 rfl ?_
    refine mh_iload1 (pc := 17) F dX9_write_17 ?_
    refine mh_iastore (pc := 18) F sh_40 (by decide) (by omega) dX9_write_18 ?_
    refine mh_nmh (fun h1 e1 => ?_)
    have F1 : mh_FX h1 := by rw [e1]; exact hF.upa rfl
    have fr1 : mh_fr [40] h h1 := mh_fr.up mh_fr.rf e1
    refine mh_aload0 (pc := 19) F dX9_write_19 ?_
    refine mh_dup (pc := 20) F dX9_write_20 rfl ?_
    refine mh_geti (pc := 21) F sh_38 (by decide) fw_RX9_70_9 dX9_write_21 rfl ?_
    refine mh_iconst (pc := 24) F dX9_write_24 ?_
    refine mh_iadd (pc := 25) F dX9_write_25 ?_
    refine mh_puti (pc := 26) F sh_38 (by decide) pw_RX9_70_9 dX9_write_26 ?_
    refine mh_nmh (fun h2 e2 => ?_)
    have F2 : mh_FX h2 := by rw [e2]; exact F1.upz rfl
    have fr2 : mh_fr [38, 40] h h2 := mh_fr.up fr1 e2
    exact mh_return F Z dX9_write_29 ⟨rfl, F2, (fr2.mono (by simp)), sc_RD_w hD hm hmp hv (by omega) (by show h2 40 = _; rw [e2, mh_up_row (by decide), e1, mh_up_rs]) (by rw [e2, mh_up_rs, e1, mh_up_row (by decide)])⟩

