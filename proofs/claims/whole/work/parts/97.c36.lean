/-! the class's reader: what it stands at. t: the Text, tp: the tape it reads, U: which names it has -/
def sc_c1 (x : Int) : Prop := (0 ≤ x ∧ x ≤ 2) ∨ (1000 ≤ x ∧ x ≤ 10999) ∨ (33 ≤ x ∧ x ≤ 124)
def sc_RD (h : Nat → Int → Int) (t tp U : Nat) (wr s : Int → Int) (p : sx_S) : Prop := h t 9 = p.1 ∧ (0 ≤ h t 5 ∧ h t 5 ≤ 50) ∧ h t 8 = s 4 ∧ h t 7 = (tp : Int) + 1 ∧ (p.2.1 = 0 → h t 5 = p.2.2.1 ∧ ∀ k, 0 ≤ k → k < p.2.2.1 → sc_de (h (t + 2) k) = p.2.2.2 k ∧ sc_c1 (h (t + 2) k)) ∧ h t 4 = ((t + 2 : Nat) : Int) + 1 ∧ h t 0 = ((1000000 + U : Nat) : Int) + 1 ∧ h t 1 = wr 1 ∧ h t 2 = wr 2 ∧ h t 3 = wr 3 ∧ h t 6 = wr 6
def sc_TP (h : Nat → Int → Int) (tp : Nat) (s : Int → Int) : Prop := (0 ≤ s 4 ∧ s 4 ≤ 50) ∧ ∀ i, 0 ≤ i → i < s 4 → mh_and (h tp i) 255 = s (197 + i)
theorem sc_TP.fr {h h2 : Nat → Int → Int} {tp : Nat} {s : Int → Int} (H : sc_TP h tp s) (e : h2 tp = h tp) : sc_TP h2 tp s := by
  unfold sc_TP at *; rw [e]; exact H
/-- where all that is needed stands -/
def sc_tq (n t tp L : Nat) (s : Int → Int) : Prop := mh_sh t = .inl 9 ∧ mh_sh (t + 2) = .inr (0, 50) ∧ mh_sh tp = .inr (2, L) ∧ t < n ∧ t + 2 < n ∧ tp < n ∧ s 4 ≤ (L : Int) ∧ tp ∉ [t, t + 2] ∧ t + 2 < 1000000
theorem sc_RD_w {h h2 : Nat → Int → Int} {t tp U : Nat} {wr s : Int → Int} {p : sx_S} {c v : Int} (hD : sc_RD h t tp U wr s p) (hm : sx_m5 p) (hmp : 0 ≤ p.2.2.1) (hv : sc_de c = v) (hc1 : sc_c1 c) (h5 : h t 5 < 50) (e1 : h2 (t + 2) = mh_ur (h (t + 2)) (h t 5) c) (e2 : h2 t = mh_ur (h t) 5 (h t 5 + 1)) : sc_RD h2 t tp U wr s (sx_pp v p) := by
  obtain ⟨a1, a2, a3, a4, a5, a6, a7⟩ := hD
  unfold sc_RD
  rw [e1, e2, mh_ur_ne (by decide), mh_ur_eq rfl, mh_ur_ne (by decide), mh_ur_ne (by decide), mh_ur_ne (by decide), mh_ur_ne (by decide), mh_ur_ne (by decide), mh_ur_ne (by decide), mh_ur_ne (by decide), mh_ur_ne (by decide)]
  unfold sx_pp
  by_cases z : p.2.1 = 0
  · rw [if_pos z]
    obtain ⟨b1, b2⟩ := a5 z
    refine ⟨a1, by omega, a3, a4, fun _ => ⟨by show h t 5 + 1 = p.2.2.1 + 1; omega, fun k k0 k1 => ?_⟩, a6, a7⟩
    have k1 : k < p.2.2.1 + 1 := k1
    show sc_de _ = mh_ur p.2.2.2 p.2.2.1 v k ∧ _
    by_cases y : k = p.2.2.1
    · rw [mh_ur_eq (by omega), mh_ur_eq y]; exact ⟨hv, hc1⟩
    · rw [mh_ur_ne (by omega), mh_ur_ne y]; exact b2 k k0 (by omega)
  · rw [if_neg z]
    exact ⟨a1, by omega, a3, a4, fun q => absurd q z, a6, a7⟩
theorem sc_RD_w0 {h : Nat → Int → Int} {t tp U : Nat} {wr s : Int → Int} {p : sx_S} {v : Int} (hD : sc_RD h t tp U wr s p) (hm : sx_m5 p) (h5 : ¬ h t 5 < 50) : sc_RD h t tp U wr s (sx_pp v p) := by
  have e : sx_pp v p = p := if_neg (fun z => by have := hm z; have := (hD.2.2.2.2.1 z).1; omega)
  rw [e]; exact hD
theorem sc_RD_pa {h h2 : Nat → Int → Int} {t tp U : Nat} {wr s : Int → Int} {p : sx_S} {v : Int} (hD : sc_RD h t tp U wr s p) (hv : v = p.1 + 1) (e : h2 = mh_up h t 9 v) : sc_RD h2 t tp U wr s (sx_pa p) := by
  obtain ⟨a1, a2, a3, a4, a5, a6, a7⟩ := hD
  have e1 : h2 t = mh_ur (h t) 9 v := by rw [e, mh_up_rs]
  have e2 : h2 (t + 2) = h (t + 2) := by rw [e, mh_up_row (by omega)]
  unfold sc_RD
  rw [e1, e2, mh_ur_eq rfl, mh_ur_ne (by decide), mh_ur_ne (by decide), mh_ur_ne (by decide), mh_ur_ne (by decide), mh_ur_ne (by decide), mh_ur_ne (by decide), mh_ur_ne (by decide), mh_ur_ne (by decide), mh_ur_ne (by decide)]
  exact ⟨hv, a2, a3, a4, a5, a6, a7⟩
theorem sc_RD_pw {h : Nat → Int → Int} {t tp U : Nat} {wr s : Int → Int} {p : sx_S} (hD : sc_RD h t tp U wr s p) : sc_RD h t tp U wr s (sx_pw p) :=
  ⟨hD.1, hD.2.1, hD.2.2.1, hD.2.2.2.1, fun z => absurd z (by show ¬ (1 : Int) = 0; decide), hD.2.2.2.2.2⟩
theorem sx_pp_e {c : Int} {p : sx_S} : (sx_pp c p).2.1 = p.2.1 := by unfold sx_pp; split <;> rfl
theorem sx_pp_1 {c : Int} {p : sx_S} : (sx_pp c p).1 = p.1 := by unfold sx_pp; split <;> rfl
set_option maxRecDepth 100000 in
set_option maxHeartbeats 2000000 in
theorem k36_next {g : mh_G} {d : Nat} (hd : 1 ≤ d) {h : Nat → Int → Int} {n t tp L U : Nat} {wr s : Int → Int} {p : sx_S} (hq : sc_tq n t tp L s) (hD : sc_RD h t tp U wr s p) (hT : sc_TP h tp s) (hp : sx_pv s p) (hw : p.2.1 = 0) : mh_MP g d yX9_next cX9_next 1 (some .int) n [.ref t] h (some (.int (Int32.ofInt (sx_hr s p)))) := by
  refine mh_M_of RX9 rfl (by decide +kernel) [some (.ref t)] rfl (Nat.le_of_ble_eq_true rfl) (fun f F Z hn0 hR => ?_)
  obtain ⟨q1, q2, q3, q4, q5, q6, q7, zNE, q9⟩ := id hq
  obtain ⟨D9, D5, D8, D7, -, D4, D0⟩ := id hD
  have hT4 := hT.1
  obtain ⟨hp1, hp2, -⟩ := id hp
  refine mh_aload0 (pc := 0) F dX9_next_0 ?_
  refine mh_geti (pc := 1) F hq.1 hq.2.2.2.1 fw_RX9_67_9 dX9_next_1 rfl ?_
  refine mh_aload0 (pc := 4) F dX9_next_4 ?_
  refine mh_geti (pc := 5) F hq.1 hq.2.2.2.1 fw_RX9_64_9 dX9_next_5 rfl ?_
  refine mh_icmp_ge (pc := 8) (tgt := 27) F dX9_next_8 rfl (by omega) (by omega) (fun c_8 => ?_) (fun c_8 => ?_)
  · refine mh_iconst (pc := 27) F dX9_next_27 ?_
    exact mh_ireturnp F Z dX9_next_28 (by unfold sx_hr; first | (rw [if_pos (by omega)]; done) | (rw [if_neg (by omega)]; done)) rfl
  · refine mh_aload0 (pc := 11) F dX9_next_11 ?_
    refine mh_getr (b := tp) (pc := 12) F hq.1 hq.2.2.2.1 fw_RX9_51_9 dX9_next_12 rfl hD.2.2.2.1 ?_
    refine mh_aload0 (pc := 15) F dX9_next_15 ?_
    refine mh_geti (pc := 16) F hq.1 hq.2.2.2.1 fw_RX9_67_9 dX9_next_16 rfl ?_
    refine mh_baload (pc := 19) F hq.2.2.1 hq.2.2.2.2.2.1 (by omega) dX9_next_19 ?_
    refine mh_sipush (pc := 20) F dX9_next_20 rfl ?_
    refine mh_iand (pc := 23) F dX9_next_23 ?_
    refine mh_top (y := s (197 + p.1)) (mh_eqI (by rw [D9]; exact hT.2 p.1 hp1.1 (by omega))) ?_
    refine mh_goto (pc := 24) (tgt := 28) F dX9_next_24 rfl ?_
    exact mh_ireturnp F Z dX9_next_28 (by unfold sx_hr; first | (rw [if_pos (by omega)]; done) | (rw [if_neg (by omega)]; done)) rfl

set_option maxRecDepth 100000 in
set_option maxHeartbeats 2000000 in
theorem k36_sees {g : mh_G} {d : Nat} (hd : 2 ≤ d) {h : Nat → Int → Int} {n t tp L U : Nat} {wr s : Int → Int} {p : sx_S} {x : Int} (hq : sc_tq n t tp L s) (hD : sc_RD h t tp U wr s p) (hT : sc_TP h tp s) (hp : sx_pv s p) (hw : p.2.1 = 0) (hb : sx_by s) (hx : -2147483648 ≤ x ∧ x < 2147483648) : mh_MP g d yX9_sees cX9_sees 2 (some .boolean) n [.ref t, .int (Int32.ofInt (x))] h (some (.int (Int32.ofInt (mh_B (sx_hr s p = x))))) := by
  refine mh_M_of RX9 rfl (by decide +kernel) [some (.ref t), some (.int (Int32.ofInt (x)))] rfl (Nat.le_of_ble_eq_true rfl) (fun f F Z hn0 hR => ?_)
  obtain ⟨q1, q2, q3, q4, q5, q6, q7, zNE, q9⟩ := id hq
  obtain ⟨D9, D5, D8, D7, -, D4, D0⟩ := id hD
  have hT4 := hT.1
  have hrr := (sx_hr_z hb hp).1
  refine mh_aload0 (pc := 0) F dX9_sees_0 ?_
  refine mh_callVp (pc := 1) (As := []) (st := []) F (by omega) (k36_next (by omega) hq hD hT hp hw) wv_RX9_102_yX9_next dX9_sees_1 hq.1 rfl hq.2.2.2.1 rfl rfl (Nat.le_of_ble_eq_true rfl) ⟨Nat.zero_le _, Nat.zero_le _⟩ ?_
  refine mh_iload1 (pc := 4) F dX9_sees_4 ?_
  refine mh_icmp_ne (pc := 5) (tgt := 12) F dX9_sees_5 rfl (by omega) (by omega) (fun c_5 => ?_) (fun c_5 => ?_)
  · refine mh_iconst (pc := 12) F dX9_sees_12 ?_
    exact mh_zreturnp F Z dX9_sees_13 (Or.inr ⟨rfl, (by omega)⟩) rfl
  · refine mh_iconst (pc := 8) F dX9_sees_8 ?_
    refine mh_goto (pc := 9) (tgt := 13) F dX9_sees_9 rfl ?_
    exact mh_zreturnp F Z dX9_sees_13 (Or.inl ⟨rfl, (by omega)⟩) rfl

set_option maxRecDepth 100000 in
set_option maxHeartbeats 2000000 in
theorem k36_digit {g : mh_G} {d : Nat} (hd : 2 ≤ d) {h : Nat → Int → Int} {n t tp L U : Nat} {wr s : Int → Int} {p : sx_S} (hq : sc_tq n t tp L s) (hD : sc_RD h t tp U wr s p) (hT : sc_TP h tp s) (hp : sx_pv s p) (hw : p.2.1 = 0) (hb : sx_by s) : mh_MP g d yX9_seesDigit cX9_seesDigit 1 (some .boolean) n [.ref t] h (some (.int (Int32.ofInt (mh_B (48 ≤ sx_hr s p ∧ sx_hr s p ≤ 57))))) := by
  refine mh_M_of RX9 rfl (by decide +kernel) [some (.ref t)] rfl (Nat.le_of_ble_eq_true rfl) (fun f F Z hn0 hR => ?_)
  obtain ⟨q1, q2, q3, q4, q5, q6, q7, zNE, q9⟩ := id hq
  obtain ⟨D9, D5, D8, D7, -, D4, D0⟩ := id hD
  have hT4 := hT.1
  have hrr := (sx_hr_z hb hp).1
  refine mh_aload0 (pc := 0) F dX9_seesDigit_0 ?_
  refine mh_callVp (pc := 1) (As := []) (st := []) F (by omega) (k36_next (by omega) hq hD hT hp hw) wv_RX9_102_yX9_next dX9_seesDigit_1 hq.1 rfl hq.2.2.2.1 rfl rfl (Nat.le_of_ble_eq_true rfl) ⟨Nat.zero_le _, Nat.zero_le _⟩ ?_
  refine mh_bipush (pc := 4) F dX9_seesDigit_4 rfl ?_
  refine mh_icmp_lt (pc := 6) (tgt := 22) F dX9_seesDigit_6 rfl (by omega) (by omega) (fun c_6 => ?_) (fun c_6 => ?_)
  · refine mh_iconst (pc := 22) F dX9_seesDigit_22 ?_
    exact mh_zreturnp F Z dX9_seesDigit_23 (Or.inr ⟨rfl, (by omega)⟩) rfl
  · refine mh_aload0 (pc := 9) F dX9_seesDigit_9 ?_
    refine mh_callVp (pc := 10) (As := []) (st := []) F (by omega) (k36_next (by omega) hq hD hT hp hw) wv_RX9_102_yX9_next dX9_seesDigit_10 hq.1 rfl hq.2.2.2.1 rfl rfl (Nat.le_of_ble_eq_true rfl) ⟨Nat.zero_le _, Nat.zero_le _⟩ ?_
    refine mh_bipush (pc := 13) F dX9_seesDigit_13 rfl ?_
    refine mh_icmp_gt (pc := 15) (tgt := 22) F dX9_seesDigit_15 rfl (by omega) (by omega) (fun c_15 => ?_) (fun c_15 => ?_)
    · refine mh_iconst (pc := 22) F dX9_seesDigit_22 ?_
      exact mh_zreturnp F Z dX9_seesDigit_23 (Or.inr ⟨rfl, (by omega)⟩) rfl
    · refine mh_iconst (pc := 18) F dX9_seesDigit_18 ?_
      refine mh_goto (pc := 19) (tgt := 23) F dX9_seesDigit_19 rfl ?_
      exact mh_zreturnp F Z dX9_seesDigit_23 (Or.inl ⟨rfl, (by omega)⟩) rfl

set_option maxRecDepth 100000 in
set_option maxHeartbeats 2000000 in
theorem k36_write {g : mh_G} {d : Nat} (hd : 1 ≤ d) {h : Nat → Int → Int} {n t tp L U : Nat} {wr s : Int → Int} {p : sx_S} {c v : Int} (hq : sc_tq n t tp L s) (hD : sc_RD h t tp U wr s p) (hm : sx_m5 p) (hmp : 0 ≤ p.2.2.1) (hv : sc_de c = v) (hc1 : sc_c1 c) : mh_M g d yX9_write cX9_write 2 none n 0 0 [.ref t, .int (Int32.ofInt (c))] h (fun r h2 => r = none ∧ mh_fr [t, t + 2] h h2 ∧ sc_RD h2 t tp U wr s (sx_pp v p)) := by
  refine mh_M_of RX9 rfl (by decide +kernel) [some (.ref t), some (.int (Int32.ofInt (c)))] rfl (Nat.le_of_ble_eq_true rfl) (fun f F Z hn0 hR => ?_)
  obtain ⟨q1, q2, q3, q4, q5, q6, q7, zNE, q9⟩ := id hq
  obtain ⟨D9, D5, D8, D7, -, D4, D0⟩ := id hD
  skip
  refine mh_aload0 (pc := 0) F dX9_write_0 ?_
  refine mh_geti (pc := 1) F hq.1 hq.2.2.2.1 fw_RX9_70_9 dX9_write_1 rfl ?_
  refine mh_bipush (pc := 4) F dX9_write_4 rfl ?_
  refine mh_icmp_ge (pc := 6) (tgt := 29) F dX9_write_6 rfl (by omega) (by omega) (fun c_6 => ?_) (fun c_6 => ?_)
  · exact mh_return F Z dX9_write_29 ⟨rfl, mh_fr.rf.mono (by simp), sc_RD_w0 hD hm (by omega)⟩
  · refine mh_aload0 (pc := 9) F dX9_write_9 ?_
    refine mh_getr (b := t + 2) (pc := 10) F hq.1 hq.2.2.2.1 fw_RX9_15_9 dX9_write_10 rfl hD.2.2.2.2.2.1 ?_
    refine mh_aload0 (pc := 13) F dX9_write_13 ?_
    refine mh_geti (pc := 14) F hq.1 hq.2.2.2.1 fw_RX9_70_9 dX9_write_14 rfl ?_
    refine mh_iload1 (pc := 17) F dX9_write_17 ?_
    refine mh_iastore (pc := 18) F hq.2.1 hq.2.2.2.2.1 (by omega) dX9_write_18 ?_
    refine mh_nmh (fun h1 e1 => ?_)
    have fr1 : mh_fr [t + 2] h h1 := mh_fr.up mh_fr.rf e1
    refine mh_aload0 (pc := 19) F dX9_write_19 ?_
    refine mh_dup (pc := 20) F dX9_write_20 rfl ?_
    refine mh_geti (pc := 21) F hq.1 hq.2.2.2.1 fw_RX9_70_9 dX9_write_21 rfl ?_
    refine mh_iconst (pc := 24) F dX9_write_24 ?_
    refine mh_iadd (pc := 25) F dX9_write_25 ?_
    refine mh_puti (pc := 26) F hq.1 hq.2.2.2.1 pw_RX9_70_9 dX9_write_26 ?_
    refine mh_nmh (fun h2 e2 => ?_)
    have fr2 : mh_fr [t, t + 2] h h2 := mh_fr.up fr1 e2
    exact mh_return F Z dX9_write_29 ⟨rfl, (fr2.mono (by simp)), sc_RD_w hD hm hmp hv hc1 (by omega) (by rw [e2, mh_up_row (by omega), e1, mh_up_rs]) (by rw [e2, mh_up_rs, e1, mh_up_row (by omega)])⟩

