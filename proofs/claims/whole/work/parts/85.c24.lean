/-! voices -/
def sc_Tp (u : Int → Int) (p : (Int → Int) × (Int → Int)) : Prop := u 0 = p.1 22 ∧ ∀ i, 0 ≤ i → i < p.1 22 → u (1 + i) = p.2 i
theorem sc_Tp_rn {u : Int → Int} {p : (Int → Int) × (Int → Int)} {b : Int} (H : sc_Tp u p) (h0 : 0 ≤ p.1 22) (h1 : p.1 22 < 40) : sc_Tp (mh_ur (mh_ur u 0 (p.1 22 + 1)) (p.1 22 + 1) b) (sp_rn b p) := by
  obtain ⟨a, c⟩ := H
  unfold sp_rn
  rw [if_pos h1]
  refine ⟨?_, fun i i0 i1 => ?_⟩
  · show _ = mh_ur p.1 22 (p.1 22 + 1) 22
    rw [mh_ur_ne (by omega), mh_ur_eq rfl, mh_ur_eq rfl]
  · have i1 : i < mh_ur p.1 22 (p.1 22 + 1) 22 := i1
    rw [mh_ur_eq rfl] at i1
    show _ = mh_ur p.2 (p.1 22) b i
    by_cases y : i = p.1 22
    · rw [mh_ur_eq (by omega), mh_ur_eq y]
    · rw [mh_ur_ne (by omega), mh_ur_ne (by omega), mh_ur_ne y]; exact c i i0 (by omega)
theorem sp_rn_no {p : (Int → Int) × (Int → Int)} {b : Int} (h1 : ¬ p.1 22 < 40) : sp_rn b p = p := if_neg h1
set_option maxRecDepth 100000 in
set_option maxHeartbeats 2000000 in
theorem k_begin {g : mh_G} {d : Nat} (hd : 1 ≤ d) {h : Nat → Int → Int} (hF : mh_FX h) {u : Int → Int} (r16 : h 16 = u) {b : Int} {p : (Int → Int) × (Int → Int)} (hT : sc_Tp (h 16) p) (he : 0 ≤ p.1 22 ∧ p.1 22 ≤ 40) : mh_M g d yX3_begin cX3_begin 2 none 96 0 0 [.ref 16, .int (Int32.ofInt (b))] h (fun r h2 => r = none ∧ mh_FX h2 ∧ mh_fr [16] h h2 ∧ sc_Tp (h2 16) (sp_rn b p)) := by
  refine mh_M_of RX3 rfl (by decide +kernel) [some (.ref 16), some (.int (Int32.ofInt (b)))] rfl (Nat.le_of_ble_eq_true rfl) (fun f F Z hn0 hR => ?_)
  have hTu := hT
  rw [r16] at hTu
  have hT0 := hTu.1
  refine mh_aload0 (pc := 0) F dX3_begin_0 ?_
  refine mh_iconst (pc := 1) F dX3_begin_1 ?_
  refine mh_ialoadr (pc := 2) F sh_16 (by decide) (by omega) dX3_begin_2 r16 ?_
  refine mh_top (y := p.1 22) (mh_eqI hT0) ?_
  refine mh_bipush (pc := 3) F dX3_begin_3 rfl ?_
  refine mh_icmp_ge (pc := 5) (tgt := 21) F dX3_begin_5 rfl (by omega) (by omega) (fun c_5 => ?_) (fun c_5 => ?_)
  · exact mh_return F Z dX3_begin_21 ⟨rfl, hF, (mh_fr.rf.mono (by simp)), (by rw [sp_rn_no (by omega)]; exact hT)⟩
  · refine mh_aload0 (pc := 8) F dX3_begin_8 ?_
    refine mh_iconst (pc := 9) F dX3_begin_9 ?_
    refine mh_dup2 (pc := 10) F dX3_begin_10 rfl rfl ?_
    refine mh_ialoadr (pc := 11) F sh_16 (by decide) (by omega) dX3_begin_11 r16 ?_
    refine mh_top (y := p.1 22) (mh_eqI hT0) ?_
    refine mh_iconst (pc := 12) F dX3_begin_12 ?_
    refine mh_iadd (pc := 13) F dX3_begin_13 ?_
    refine mh_iastore (pc := 14) F sh_16 (by decide) (by omega) dX3_begin_14 ?_
    refine mh_nmh (fun h1 e1 => ?_)
    have F1 : mh_FX h1 := by rw [e1]; exact hF.upa rfl
    have r16_1 : h1 16 = mh_ur u 0 ((p.1 22) + 1) := by rw [e1, mh_up_rs, r16]
    have fr1 : mh_fr [16] h h1 := mh_fr.up mh_fr.rf e1
    refine mh_aload0 (pc := 15) F dX3_begin_15 ?_
    refine mh_aload0 (pc := 16) F dX3_begin_16 ?_
    refine mh_iconst (pc := 17) F dX3_begin_17 ?_
    refine mh_ialoadr (pc := 18) F sh_16 (by decide) (by omega) dX3_begin_18 r16_1 ?_
    refine mh_top (y := p.1 22 + 1) (mh_eqI (mh_ur_eq rfl)) ?_
    refine mh_iload1 (pc := 19) F dX3_begin_19 ?_
    refine mh_iastore (pc := 20) F sh_16 (by decide) (by omega) dX3_begin_20 ?_
    refine mh_nmh (fun h2 e2 => ?_)
    have F2 : mh_FX h2 := by rw [e2]; exact F1.upa rfl
    have r16_2 : h2 16 = mh_ur (mh_ur u 0 ((p.1 22) + 1)) (p.1 22 + 1) b := by rw [e2, mh_up_rs, r16_1]
    have fr2 : mh_fr [16] h h2 := mh_fr.upi fr1 e2 (by simp)
    exact mh_return F Z dX3_begin_21 ⟨rfl, F2, fr2, (by rw [r16_2]; exact sc_Tp_rn hTu (by omega) (by omega))⟩

set_option maxRecDepth 100000 in
set_option maxHeartbeats 2000000 in
theorem k24_fills_X3_0 {g : mh_G} {d : Nat} (hd : 2 ≤ d) {h : Nat → Int → Int} (hF : mh_FX h) {n x : Int} {p : (Int → Int) × (Int → Int)} {c : Int → Int} (r44ntoNat : h (44 + n.toNat) = c) (hn : 0 ≤ n ∧ n < 6) (e1 : c 1 = 3) (hT : sc_Tp (h 16) p) (he : 0 ≤ p.1 22 ∧ p.1 22 ≤ 40) : mh_M g d yX3_fills cX3_fills 4 (some .int) 96 0 0 [.ref 2, .ref (44 + n.toNat), .ref 16, .int (Int32.ofInt (x))] h (fun r h2 => r = some (.int (Int32.ofInt (x + c 0))) ∧ mh_FX h2 ∧ mh_fr [16] h h2 ∧ sc_Tp (h2 16) (sp_rns [10] p)) := by
  refine mh_M_of RX3 rfl (by decide +kernel) [some (.ref 2), some (.ref (44 + n.toNat)), some (.ref 16), some (.int (Int32.ofInt (x)))] rfl (Nat.le_of_ble_eq_true rfl) (fun f F Z hn0 hR => ?_)
  refine mh_aload2 (pc := 0) F dX3_fills_0 ?_
  refine mh_bipush (pc := 1) F dX3_fills_1 rfl ?_
  refine mh_callS0 (pc := 3) (As := [.ref 16, .int (Int32.ofInt (10))]) (st := []) F (by omega) (k_begin (by omega) hF rfl hT he) ws_RX3_15 dX3_fills_3 rfl rfl (Nat.le_of_ble_eq_true rfl) ⟨Nat.zero_le _, Nat.zero_le _⟩ (fun r1 h1 q1 => ?_)
  obtain ⟨rfl, F1, frv1, hT1⟩ := q1
  have r44ntoNat_2 : h1 (44 + n.toNat) = c := (frv1 _ (by simp; omega)).trans r44ntoNat
  have fr2 : mh_fr [16] h h1 := (mh_fr.tr mh_fr.rf frv1).mono (by simp)
  have he1 := (sp_rns_out [10] p he).2
  refine mh_iload3 (pc := 6) F dX3_fills_6 ?_
  refine mh_aload1 (pc := 7) F dX3_fills_7 ?_
  refine mh_getir (pc := 8) F (sc_Aj (j := n) (by omega)).sh (sc_Aj (j := n) (by omega)).lt fw_RX3_19_0 dX3_fills_8 rfl r44ntoNat_2 ?_
  refine mh_iadd (pc := 11) F dX3_fills_11 ?_
  exact mh_ireturn F Z dX3_fills_12 ⟨mh_sv (by omega), F1, fr2, hT1⟩

set_option maxRecDepth 100000 in
set_option maxHeartbeats 2000000 in
theorem k24_cools_X3_0 {g : mh_G} {d : Nat} (hd : 2 ≤ d) {h : Nat → Int → Int} (hF : mh_FX h) {n x : Int} {p : (Int → Int) × (Int → Int)} {c : Int → Int} (r44ntoNat : h (44 + n.toNat) = c) (hn : 0 ≤ n ∧ n < 6) (e1 : c 1 = 3) (hT : sc_Tp (h 16) p) (he : 0 ≤ p.1 22 ∧ p.1 22 ≤ 40) : mh_M g d yX3_cools cX3_cools 4 (some .int) 96 0 0 [.ref 2, .ref (44 + n.toNat), .ref 16, .int (Int32.ofInt (x))] h (fun r h2 => r = some (.int (Int32.ofInt (x - c 2))) ∧ mh_FX h2 ∧ mh_fr [16] h h2 ∧ sc_Tp (h2 16) (sp_rns [12] p)) := by
  refine mh_M_of RX3 rfl (by decide +kernel) [some (.ref 2), some (.ref (44 + n.toNat)), some (.ref 16), some (.int (Int32.ofInt (x)))] rfl (Nat.le_of_ble_eq_true rfl) (fun f F Z hn0 hR => ?_)
  refine mh_aload2 (pc := 0) F dX3_cools_0 ?_
  refine mh_bipush (pc := 1) F dX3_cools_1 rfl ?_
  refine mh_callS0 (pc := 3) (As := [.ref 16, .int (Int32.ofInt (12))]) (st := []) F (by omega) (k_begin (by omega) hF rfl hT he) ws_RX3_15 dX3_cools_3 rfl rfl (Nat.le_of_ble_eq_true rfl) ⟨Nat.zero_le _, Nat.zero_le _⟩ (fun r1 h1 q1 => ?_)
  obtain ⟨rfl, F1, frv1, hT1⟩ := q1
  have r44ntoNat_2 : h1 (44 + n.toNat) = c := (frv1 _ (by simp; omega)).trans r44ntoNat
  have fr2 : mh_fr [16] h h1 := (mh_fr.tr mh_fr.rf frv1).mono (by simp)
  have he1 := (sp_rns_out [12] p he).2
  refine mh_iload3 (pc := 6) F dX3_cools_6 ?_
  refine mh_aload1 (pc := 7) F dX3_cools_7 ?_
  refine mh_getir (pc := 8) F (sc_Aj (j := n) (by omega)).sh (sc_Aj (j := n) (by omega)).lt fw_RX3_30_0 dX3_cools_8 rfl r44ntoNat_2 ?_
  refine mh_isub (pc := 11) F dX3_cools_11 ?_
  exact mh_ireturn F Z dX3_cools_12 ⟨mh_sv (by omega), F1, fr2, hT1⟩

set_option maxRecDepth 100000 in
set_option maxHeartbeats 2000000 in
theorem k24_shakes_X3_0 {g : mh_G} {d : Nat} (hd : 4 ≤ d) {h : Nat → Int → Int} (hF : mh_FX h) {n x : Int} {p : (Int → Int) × (Int → Int)} {c : Int → Int} (r44ntoNat : h (44 + n.toNat) = c) (hn : 0 ≤ n ∧ n < 6) (e1 : c 1 = 3) (hT : sc_Tp (h 16) p) (he : 0 ≤ p.1 22 ∧ p.1 22 ≤ 40) : mh_M g d yX3_shakes cX3_shakes 4 (some .int) 96 0 0 [.ref 2, .ref (44 + n.toNat), .ref 16, .int (Int32.ofInt (x))] h (fun r h2 => r = some (.int (Int32.ofInt (2 * (x + c 0)))) ∧ mh_FX h2 ∧ mh_fr [16] h h2 ∧ sc_Tp (h2 16) (sp_rns [11, 10] p)) := by
  refine mh_M_of RX3 rfl (by decide +kernel) [some (.ref 2), some (.ref (44 + n.toNat)), some (.ref 16), some (.int (Int32.ofInt (x)))] rfl (Nat.le_of_ble_eq_true rfl) (fun f F Z hn0 hR => ?_)
  refine mh_aload2 (pc := 0) F dX3_shakes_0 ?_
  refine mh_bipush (pc := 1) F dX3_shakes_1 rfl ?_
  refine mh_callS0 (pc := 3) (As := [.ref 16, .int (Int32.ofInt (11))]) (st := []) F (by omega) (k_begin (by omega) hF rfl hT he) ws_RX3_15 dX3_shakes_3 rfl rfl (Nat.le_of_ble_eq_true rfl) ⟨Nat.zero_le _, Nat.zero_le _⟩ (fun r1 h1 q1 => ?_)
  obtain ⟨rfl, F1, frv1, hT1⟩ := q1
  have r44ntoNat_2 : h1 (44 + n.toNat) = c := (frv1 _ (by simp; omega)).trans r44ntoNat
  have fr2 : mh_fr [16] h h1 := (mh_fr.tr mh_fr.rf frv1).mono (by simp)
  have he1 := (sp_rns_out [11] p he).2
  refine mh_aload1 (pc := 6) F dX3_shakes_6 ?_
  refine mh_getr (b := 2) (pc := 7) F (sc_Aj (j := n) (by omega)).sh (sc_Aj (j := n) (by omega)).lt fw_RX3_22_0 dX3_shakes_7 rfl (by rw [r44ntoNat_2, e1]; rfl) ?_
  refine mh_aload1 (pc := 10) F dX3_shakes_10 ?_
  refine mh_aload2 (pc := 11) F dX3_shakes_11 ?_
  refine mh_iload3 (pc := 12) F dX3_shakes_12 ?_
  refine mh_callV0 (pc := 13) (As := [.ref (44 + n.toNat), .ref 16, .int (Int32.ofInt (x))]) (st := []) F (by omega) (k24_fills_X3_0 (by omega) F1 r44ntoNat_2 hn e1 hT1 he1) wv_RX3_26_yX3_fills dX3_shakes_13 sh_2 rfl (by decide) rfl rfl (Nat.le_of_ble_eq_true rfl) ⟨Nat.zero_le _, Nat.zero_le _⟩ (fun r3 h3 q3 => ?_)
  obtain ⟨rfl, F3, frv3, hT3⟩ := q3
  have r44ntoNat_4 : h3 (44 + n.toNat) = c := (frv3 _ (by simp; omega)).trans r44ntoNat_2
  have fr4 : mh_fr [16] h h3 := (mh_fr.tr fr2 frv3).mono (by simp)
  have he3 := (sp_rns_out [10] (sp_rns [11] p) he1).2
  refine mh_iconst (pc := 16) F dX3_shakes_16 ?_
  refine mh_imul (pc := 17) F dX3_shakes_17 ?_
  exact mh_ireturn F Z dX3_shakes_18 ⟨mh_sv (by omega), F3, fr4, hT3⟩

set_option maxRecDepth 100000 in
set_option maxHeartbeats 2000000 in
theorem k24_tells_X3_0 {g : mh_G} {d : Nat} (hd : 7 ≤ d) {h : Nat → Int → Int} (hF : mh_FX h) {n x : Int} {p : (Int → Int) × (Int → Int)} {c : Int → Int} (r44ntoNat : h (44 + n.toNat) = c) (hn : 0 ≤ n ∧ n < 6) (e1 : c 1 = 3) (hT : sc_Tp (h 16) p) (he : 0 ≤ p.1 22 ∧ p.1 22 ≤ 40) : mh_M g d yX3_tells cX3_tells 5 (some .int) 96 0 0 [.ref 2, .ref (44 + n.toNat), .ref 16, .int (Int32.ofInt (x))] h (fun r h2 => r = some (.int (Int32.ofInt (mh_xor (2 * (x + c 0)) (x - c 2)))) ∧ mh_FX h2 ∧ mh_fr [16] h h2 ∧ sc_Tp (h2 16) (sp_rns [13, 11, 10, 12] p)) := by
  refine mh_M_of RX3 rfl (by decide +kernel) [some (.ref 2), some (.ref (44 + n.toNat)), some (.ref 16), some (.int (Int32.ofInt (x))), none] rfl (Nat.le_of_ble_eq_true rfl) (fun f F Z hn0 hR => ?_)
  refine mh_aload2 (pc := 0) F dX3_tells_0 ?_
  refine mh_bipush (pc := 1) F dX3_tells_1 rfl ?_
  refine mh_callS0 (pc := 3) (As := [.ref 16, .int (Int32.ofInt (13))]) (st := []) F (by omega) (k_begin (by omega) hF rfl hT he) ws_RX3_15 dX3_tells_3 rfl rfl (Nat.le_of_ble_eq_true rfl) ⟨Nat.zero_le _, Nat.zero_le _⟩ (fun r1 h1 q1 => ?_)
  obtain ⟨rfl, F1, frv1, hT1⟩ := q1
  have r44ntoNat_2 : h1 (44 + n.toNat) = c := (frv1 _ (by simp; omega)).trans r44ntoNat
  have fr2 : mh_fr [16] h h1 := (mh_fr.tr mh_fr.rf frv1).mono (by simp)
  have he1 := (sp_rns_out [13] p he).2
  refine mh_aload1 (pc := 6) F dX3_tells_6 ?_
  refine mh_getr (b := 2) (pc := 7) F (sc_Aj (j := n) (by omega)).sh (sc_Aj (j := n) (by omega)).lt fw_RX3_22_0 dX3_tells_7 rfl (by rw [r44ntoNat_2, e1]; rfl) ?_
  refine mh_aload1 (pc := 10) F dX3_tells_10 ?_
  refine mh_aload2 (pc := 11) F dX3_tells_11 ?_
  refine mh_iload3 (pc := 12) F dX3_tells_12 ?_
  refine mh_callV0 (pc := 13) (As := [.ref (44 + n.toNat), .ref 16, .int (Int32.ofInt (x))]) (st := []) F (by omega) (k24_shakes_X3_0 (by omega) F1 r44ntoNat_2 hn e1 hT1 he1) wv_RX3_33_yX3_shakes dX3_tells_13 sh_2 rfl (by decide) rfl rfl (Nat.le_of_ble_eq_true rfl) ⟨Nat.zero_le _, Nat.zero_le _⟩ (fun r3 h3 q3 => ?_)
  obtain ⟨rfl, F3, frv3, hT3⟩ := q3
  have r44ntoNat_4 : h3 (44 + n.toNat) = c := (frv3 _ (by simp; omega)).trans r44ntoNat_2
  have fr4 : mh_fr [16] h h3 := (mh_fr.tr fr2 frv3).mono (by simp)
  have he3 := (sp_rns_out [11, 10] (sp_rns [13] p) he1).2
  refine mh_istore4 (pc := 16) F dX3_tells_16 rfl (by decide) ?_
  refine mh_iload4 (pc := 18) F dX3_tells_18 ?_
  refine mh_aload1 (pc := 20) F dX3_tells_20 ?_
  refine mh_getr (b := 2) (pc := 21) F (sc_Aj (j := n) (by omega)).sh (sc_Aj (j := n) (by omega)).lt fw_RX3_22_0 dX3_tells_21 rfl (by rw [r44ntoNat_4, e1]; rfl) ?_
  refine mh_aload1 (pc := 24) F dX3_tells_24 ?_
  refine mh_aload2 (pc := 25) F dX3_tells_25 ?_
  refine mh_iload3 (pc := 26) F dX3_tells_26 ?_
  refine mh_callV0 (pc := 27) (As := [.ref (44 + n.toNat), .ref 16, .int (Int32.ofInt (x))]) (st := [.int (Int32.ofInt ((2 * (x + c 0))))]) F (by omega) (k24_cools_X3_0 (by omega) F3 r44ntoNat_4 hn e1 hT3 he3) wv_RX3_36_yX3_cools dX3_tells_27 sh_2 rfl (by decide) rfl rfl (Nat.le_of_ble_eq_true rfl) ⟨Nat.zero_le _, Nat.zero_le _⟩ (fun r5 h5 q5 => ?_)
  obtain ⟨rfl, F5, frv5, hT5⟩ := q5
  have r44ntoNat_6 : h5 (44 + n.toNat) = c := (frv5 _ (by simp; omega)).trans r44ntoNat_4
  have fr6 : mh_fr [16] h h5 := (mh_fr.tr fr4 frv5).mono (by simp)
  have he5 := (sp_rns_out [12] (sp_rns [11, 10] (sp_rns [13] p)) he3).2
  refine mh_ixor (pc := 30) F dX3_tells_30 ?_
  exact mh_ireturn F Z dX3_tells_31 ⟨mh_sv (by omega), F5, fr6, hT5⟩

set_option maxRecDepth 100000 in
set_option maxHeartbeats 2000000 in
theorem k24_fills_X3_1 {g : mh_G} {d : Nat} (hd : 2 ≤ d) {h : Nat → Int → Int} (hF : mh_FX h) {n x : Int} {p : (Int → Int) × (Int → Int)} {c : Int → Int} (r44ntoNat : h (44 + n.toNat) = c) (hn : 0 ≤ n ∧ n < 6) (e1 : c 1 = 4) (hT : sc_Tp (h 16) p) (he : 0 ≤ p.1 22 ∧ p.1 22 ≤ 40) : mh_M g d yX3_fills cX3_fills 4 (some .int) 96 0 0 [.ref 3, .ref (44 + n.toNat), .ref 16, .int (Int32.ofInt (x))] h (fun r h2 => r = some (.int (Int32.ofInt (x + c 0))) ∧ mh_FX h2 ∧ mh_fr [16] h h2 ∧ sc_Tp (h2 16) (sp_rns [10] p)) := by
  refine mh_M_of RX3 rfl (by decide +kernel) [some (.ref 3), some (.ref (44 + n.toNat)), some (.ref 16), some (.int (Int32.ofInt (x)))] rfl (Nat.le_of_ble_eq_true rfl) (fun f F Z hn0 hR => ?_)
  refine mh_aload2 (pc := 0) F dX3_fills_0 ?_
  refine mh_bipush (pc := 1) F dX3_fills_1 rfl ?_
  refine mh_callS0 (pc := 3) (As := [.ref 16, .int (Int32.ofInt (10))]) (st := []) F (by omega) (k_begin (by omega) hF rfl hT he) ws_RX3_15 dX3_fills_3 rfl rfl (Nat.le_of_ble_eq_true rfl) ⟨Nat.zero_le _, Nat.zero_le _⟩ (fun r1 h1 q1 => ?_)
  obtain ⟨rfl, F1, frv1, hT1⟩ := q1
  have r44ntoNat_2 : h1 (44 + n.toNat) = c := (frv1 _ (by simp; omega)).trans r44ntoNat
  have fr2 : mh_fr [16] h h1 := (mh_fr.tr mh_fr.rf frv1).mono (by simp)
  have he1 := (sp_rns_out [10] p he).2
  refine mh_iload3 (pc := 6) F dX3_fills_6 ?_
  refine mh_aload1 (pc := 7) F dX3_fills_7 ?_
  refine mh_getir (pc := 8) F (sc_Aj (j := n) (by omega)).sh (sc_Aj (j := n) (by omega)).lt fw_RX3_19_0 dX3_fills_8 rfl r44ntoNat_2 ?_
  refine mh_iadd (pc := 11) F dX3_fills_11 ?_
  exact mh_ireturn F Z dX3_fills_12 ⟨mh_sv (by omega), F1, fr2, hT1⟩

set_option maxRecDepth 100000 in
set_option maxHeartbeats 2000000 in
theorem k24_cools_X3_1 {g : mh_G} {d : Nat} (hd : 2 ≤ d) {h : Nat → Int → Int} (hF : mh_FX h) {n x : Int} {p : (Int → Int) × (Int → Int)} {c : Int → Int} (r44ntoNat : h (44 + n.toNat) = c) (hn : 0 ≤ n ∧ n < 6) (e1 : c 1 = 4) (hT : sc_Tp (h 16) p) (he : 0 ≤ p.1 22 ∧ p.1 22 ≤ 40) : mh_M g d yX3_cools cX3_cools 4 (some .int) 96 0 0 [.ref 3, .ref (44 + n.toNat), .ref 16, .int (Int32.ofInt (x))] h (fun r h2 => r = some (.int (Int32.ofInt (x - c 2))) ∧ mh_FX h2 ∧ mh_fr [16] h h2 ∧ sc_Tp (h2 16) (sp_rns [12] p)) := by
  refine mh_M_of RX3 rfl (by decide +kernel) [some (.ref 3), some (.ref (44 + n.toNat)), some (.ref 16), some (.int (Int32.ofInt (x)))] rfl (Nat.le_of_ble_eq_true rfl) (fun f F Z hn0 hR => ?_)
  refine mh_aload2 (pc := 0) F dX3_cools_0 ?_
  refine mh_bipush (pc := 1) F dX3_cools_1 rfl ?_
  refine mh_callS0 (pc := 3) (As := [.ref 16, .int (Int32.ofInt (12))]) (st := []) F (by omega) (k_begin (by omega) hF rfl hT he) ws_RX3_15 dX3_cools_3 rfl rfl (Nat.le_of_ble_eq_true rfl) ⟨Nat.zero_le _, Nat.zero_le _⟩ (fun r1 h1 q1 => ?_)
  obtain ⟨rfl, F1, frv1, hT1⟩ := q1
  have r44ntoNat_2 : h1 (44 + n.toNat) = c := (frv1 _ (by simp; omega)).trans r44ntoNat
  have fr2 : mh_fr [16] h h1 := (mh_fr.tr mh_fr.rf frv1).mono (by simp)
  have he1 := (sp_rns_out [12] p he).2
  refine mh_iload3 (pc := 6) F dX3_cools_6 ?_
  refine mh_aload1 (pc := 7) F dX3_cools_7 ?_
  refine mh_getir (pc := 8) F (sc_Aj (j := n) (by omega)).sh (sc_Aj (j := n) (by omega)).lt fw_RX3_30_0 dX3_cools_8 rfl r44ntoNat_2 ?_
  refine mh_isub (pc := 11) F dX3_cools_11 ?_
  exact mh_ireturn F Z dX3_cools_12 ⟨mh_sv (by omega), F1, fr2, hT1⟩

set_option maxRecDepth 100000 in
set_option maxHeartbeats 2000000 in
theorem k24_shakes_X3_1 {g : mh_G} {d : Nat} (hd : 4 ≤ d) {h : Nat → Int → Int} (hF : mh_FX h) {n x : Int} {p : (Int → Int) × (Int → Int)} {c : Int → Int} (r44ntoNat : h (44 + n.toNat) = c) (hn : 0 ≤ n ∧ n < 6) (e1 : c 1 = 4) (hT : sc_Tp (h 16) p) (he : 0 ≤ p.1 22 ∧ p.1 22 ≤ 40) : mh_M g d yX3_shakes cX3_shakes 4 (some .int) 96 0 0 [.ref 3, .ref (44 + n.toNat), .ref 16, .int (Int32.ofInt (x))] h (fun r h2 => r = some (.int (Int32.ofInt (2 * (x + c 0)))) ∧ mh_FX h2 ∧ mh_fr [16] h h2 ∧ sc_Tp (h2 16) (sp_rns [11, 10] p)) := by
  refine mh_M_of RX3 rfl (by decide +kernel) [some (.ref 3), some (.ref (44 + n.toNat)), some (.ref 16), some (.int (Int32.ofInt (x)))] rfl (Nat.le_of_ble_eq_true rfl) (fun f F Z hn0 hR => ?_)
  refine mh_aload2 (pc := 0) F dX3_shakes_0 ?_
  refine mh_bipush (pc := 1) F dX3_shakes_1 rfl ?_
  refine mh_callS0 (pc := 3) (As := [.ref 16, .int (Int32.ofInt (11))]) (st := []) F (by omega) (k_begin (by omega) hF rfl hT he) ws_RX3_15 dX3_shakes_3 rfl rfl (Nat.le_of_ble_eq_true rfl) ⟨Nat.zero_le _, Nat.zero_le _⟩ (fun r1 h1 q1 => ?_)
  obtain ⟨rfl, F1, frv1, hT1⟩ := q1
  have r44ntoNat_2 : h1 (44 + n.toNat) = c := (frv1 _ (by simp; omega)).trans r44ntoNat
  have fr2 : mh_fr [16] h h1 := (mh_fr.tr mh_fr.rf frv1).mono (by simp)
  have he1 := (sp_rns_out [11] p he).2
  refine mh_aload1 (pc := 6) F dX3_shakes_6 ?_
  refine mh_getr (b := 3) (pc := 7) F (sc_Aj (j := n) (by omega)).sh (sc_Aj (j := n) (by omega)).lt fw_RX3_22_0 dX3_shakes_7 rfl (by rw [r44ntoNat_2, e1]; rfl) ?_
  refine mh_aload1 (pc := 10) F dX3_shakes_10 ?_
  refine mh_aload2 (pc := 11) F dX3_shakes_11 ?_
  refine mh_iload3 (pc := 12) F dX3_shakes_12 ?_
  refine mh_callU0 (pc := 13) (As := [.ref (44 + n.toNat), .ref 16, .int (Int32.ofInt (x))]) (st := []) F (by omega) (k24_fills_X3_1 (by omega) F1 r44ntoNat_2 hn e1 hT1 he1) wu_RX3_26_RX2 dX3_shakes_13 sh_3 (by decide) rfl rfl (Nat.le_of_ble_eq_true rfl) ⟨Nat.zero_le _, Nat.zero_le _⟩ (fun r3 h3 q3 => ?_)
  obtain ⟨rfl, F3, frv3, hT3⟩ := q3
  have r44ntoNat_4 : h3 (44 + n.toNat) = c := (frv3 _ (by simp; omega)).trans r44ntoNat_2
  have fr4 : mh_fr [16] h h3 := (mh_fr.tr fr2 frv3).mono (by simp)
  have he3 := (sp_rns_out [10] (sp_rns [11] p) he1).2
  refine mh_iconst (pc := 16) F dX3_shakes_16 ?_
  refine mh_imul (pc := 17) F dX3_shakes_17 ?_
  exact mh_ireturn F Z dX3_shakes_18 ⟨mh_sv (by omega), F3, fr4, hT3⟩

set_option maxRecDepth 100000 in
set_option maxHeartbeats 2000000 in
theorem k24_shakes_X2_1 {g : mh_G} {d : Nat} (hd : 5 ≤ d) {h : Nat → Int → Int} (hF : mh_FX h) {n x : Int} {p : (Int → Int) × (Int → Int)} {c : Int → Int} (r44ntoNat : h (44 + n.toNat) = c) (hn : 0 ≤ n ∧ n < 6) (e1 : c 1 = 4) (hT : sc_Tp (h 16) p) (he : 0 ≤ p.1 22 ∧ p.1 22 ≤ 40) : mh_M g d yX2_shakes cX2_shakes 5 (some .int) 96 0 0 [.ref 3, .ref (44 + n.toNat), .ref 16, .int (Int32.ofInt (x))] h (fun r h2 => r = some (.int (Int32.ofInt (2 * (x + c 0) - (1 - c 2)))) ∧ mh_FX h2 ∧ mh_fr [16] h h2 ∧ sc_Tp (h2 16) (sp_rns [20, 11, 10, 12] p)) := by
  refine mh_M_of RX2 rfl (by decide +kernel) [some (.ref 3), some (.ref (44 + n.toNat)), some (.ref 16), some (.int (Int32.ofInt (x))), none] rfl (Nat.le_of_ble_eq_true rfl) (fun f F Z hn0 hR => ?_)
  refine mh_aload2 (pc := 0) F dX2_shakes_0 ?_
  refine mh_bipush (pc := 1) F dX2_shakes_1 rfl ?_
  refine mh_callT0 (pc := 3) (As := [.ref 16, .int (Int32.ofInt (20))]) (st := []) F (by omega) (k_begin (by omega) hF rfl hT he) wt_RX2_11 dX2_shakes_3 rfl rfl (Nat.le_of_ble_eq_true rfl) ⟨Nat.zero_le _, Nat.zero_le _⟩ (fun r1 h1 q1 => ?_)
  obtain ⟨rfl, F1, frv1, hT1⟩ := q1
  have r44ntoNat_2 : h1 (44 + n.toNat) = c := (frv1 _ (by simp; omega)).trans r44ntoNat
  have fr2 : mh_fr [16] h h1 := (mh_fr.tr mh_fr.rf frv1).mono (by simp)
  have he1 := (sp_rns_out [20] p he).2
  refine mh_aload0 (pc := 6) F dX2_shakes_6 ?_
  refine mh_aload1 (pc := 7) F dX2_shakes_7 ?_
  refine mh_aload2 (pc := 8) F dX2_shakes_8 ?_
  refine mh_iload3 (pc := 9) F dX2_shakes_9 ?_
  refine mh_callSU0 (pc := 10) (As := [.ref (44 + n.toNat), .ref 16, .int (Int32.ofInt (x))]) (st := []) F (by omega) (k24_shakes_X3_1 (by omega) F1 r44ntoNat_2 hn e1 hT1 he1) wz_RX2_17 dX2_shakes_10 sh_3 (by decide) rfl rfl (Nat.le_of_ble_eq_true rfl) ⟨Nat.zero_le _, Nat.zero_le _⟩ (fun r3 h3 q3 => ?_)
  obtain ⟨rfl, F3, frv3, hT3⟩ := q3
  have r44ntoNat_4 : h3 (44 + n.toNat) = c := (frv3 _ (by simp; omega)).trans r44ntoNat_2
  have fr4 : mh_fr [16] h h3 := (mh_fr.tr fr2 frv3).mono (by simp)
  have he3 := (sp_rns_out [11, 10] (sp_rns [20] p) he1).2
  refine mh_istore4 (pc := 13) F dX2_shakes_13 rfl (by decide) ?_
  refine mh_iload4 (pc := 15) F dX2_shakes_15 ?_
  refine mh_aload1 (pc := 17) F dX2_shakes_17 ?_
  refine mh_getr (b := 3) (pc := 18) F (sc_Aj (j := n) (by omega)).sh (sc_Aj (j := n) (by omega)).lt fw_RX2_21_0 dX2_shakes_18 rfl (by rw [r44ntoNat_4, e1]; rfl) ?_
  refine mh_aload1 (pc := 21) F dX2_shakes_21 ?_
  refine mh_aload2 (pc := 22) F dX2_shakes_22 ?_
  refine mh_iconst (pc := 23) F dX2_shakes_23 ?_
  refine mh_callU0 (pc := 24) (As := [.ref (44 + n.toNat), .ref 16, .int (Int32.ofInt (1))]) (st := [.int (Int32.ofInt ((2 * (x + c 0))))]) F (by omega) (k24_cools_X3_1 (by omega) F3 r44ntoNat_4 hn e1 hT3 he3) wu_RX2_27_RX2 dX2_shakes_24 sh_3 (by decide) rfl rfl (Nat.le_of_ble_eq_true rfl) ⟨Nat.zero_le _, Nat.zero_le _⟩ (fun r5 h5 q5 => ?_)
  obtain ⟨rfl, F5, frv5, hT5⟩ := q5
  have r44ntoNat_6 : h5 (44 + n.toNat) = c := (frv5 _ (by simp; omega)).trans r44ntoNat_4
  have fr6 : mh_fr [16] h h5 := (mh_fr.tr fr4 frv5).mono (by simp)
  have he5 := (sp_rns_out [12] (sp_rns [11, 10] (sp_rns [20] p)) he3).2
  refine mh_isub (pc := 27) F dX2_shakes_27 ?_
  exact mh_ireturn F Z dX2_shakes_28 ⟨mh_sv (by omega), F5, fr6, hT5⟩

set_option maxRecDepth 100000 in
set_option maxHeartbeats 2000000 in
theorem k24_tells_X3_1 {g : mh_G} {d : Nat} (hd : 7 ≤ d) {h : Nat → Int → Int} (hF : mh_FX h) {n x : Int} {p : (Int → Int) × (Int → Int)} {c : Int → Int} (r44ntoNat : h (44 + n.toNat) = c) (hn : 0 ≤ n ∧ n < 6) (e1 : c 1 = 4) (hT : sc_Tp (h 16) p) (he : 0 ≤ p.1 22 ∧ p.1 22 ≤ 40) : mh_M g d yX3_tells cX3_tells 5 (some .int) 96 0 0 [.ref 3, .ref (44 + n.toNat), .ref 16, .int (Int32.ofInt (x))] h (fun r h2 => r = some (.int (Int32.ofInt (mh_xor (2 * (x + c 0) - (1 - c 2)) (x - c 2)))) ∧ mh_FX h2 ∧ mh_fr [16] h h2 ∧ sc_Tp (h2 16) (sp_rns [13, 20, 11, 10, 12, 12] p)) := by
  refine mh_M_of RX3 rfl (by decide +kernel) [some (.ref 3), some (.ref (44 + n.toNat)), some (.ref 16), some (.int (Int32.ofInt (x))), none] rfl (Nat.le_of_ble_eq_true rfl) (fun f F Z hn0 hR => ?_)
  refine mh_aload2 (pc := 0) F dX3_tells_0 ?_
  refine mh_bipush (pc := 1) F dX3_tells_1 rfl ?_
  refine mh_callS0 (pc := 3) (As := [.ref 16, .int (Int32.ofInt (13))]) (st := []) F (by omega) (k_begin (by omega) hF rfl hT he) ws_RX3_15 dX3_tells_3 rfl rfl (Nat.le_of_ble_eq_true rfl) ⟨Nat.zero_le _, Nat.zero_le _⟩ (fun r1 h1 q1 => ?_)
  obtain ⟨rfl, F1, frv1, hT1⟩ := q1
  have r44ntoNat_2 : h1 (44 + n.toNat) = c := (frv1 _ (by simp; omega)).trans r44ntoNat
  have fr2 : mh_fr [16] h h1 := (mh_fr.tr mh_fr.rf frv1).mono (by simp)
  have he1 := (sp_rns_out [13] p he).2
  refine mh_aload1 (pc := 6) F dX3_tells_6 ?_
  refine mh_getr (b := 3) (pc := 7) F (sc_Aj (j := n) (by omega)).sh (sc_Aj (j := n) (by omega)).lt fw_RX3_22_0 dX3_tells_7 rfl (by rw [r44ntoNat_2, e1]; rfl) ?_
  refine mh_aload1 (pc := 10) F dX3_tells_10 ?_
  refine mh_aload2 (pc := 11) F dX3_tells_11 ?_
  refine mh_iload3 (pc := 12) F dX3_tells_12 ?_
  refine mh_callU0 (pc := 13) (As := [.ref (44 + n.toNat), .ref 16, .int (Int32.ofInt (x))]) (st := []) F (by omega) (k24_shakes_X2_1 (by omega) F1 r44ntoNat_2 hn e1 hT1 he1) wu_RX3_33_RX2 dX3_tells_13 sh_3 (by decide) rfl rfl (Nat.le_of_ble_eq_true rfl) ⟨Nat.zero_le _, Nat.zero_le _⟩ (fun r3 h3 q3 => ?_)
  obtain ⟨rfl, F3, frv3, hT3⟩ := q3
  have r44ntoNat_4 : h3 (44 + n.toNat) = c := (frv3 _ (by simp; omega)).trans r44ntoNat_2
  have fr4 : mh_fr [16] h h3 := (mh_fr.tr fr2 frv3).mono (by simp)
  have he3 := (sp_rns_out [20, 11, 10, 12] (sp_rns [13] p) he1).2
  refine mh_istore4 (pc := 16) F dX3_tells_16 rfl (by decide) ?_
  refine mh_iload4 (pc := 18) F dX3_tells_18 ?_
  refine mh_aload1 (pc := 20) F dX3_tells_20 ?_
  refine mh_getr (b := 3) (pc := 21) F (sc_Aj (j := n) (by omega)).sh (sc_Aj (j := n) (by omega)).lt fw_RX3_22_0 dX3_tells_21 rfl (by rw [r44ntoNat_4, e1]; rfl) ?_
  refine mh_aload1 (pc := 24) F dX3_tells_24 ?_
  refine mh_aload2 (pc := 25) F dX3_tells_25 ?_
  refine mh_iload3 (pc := 26) F dX3_tells_26 ?_
  refine mh_callU0 (pc := 27) (As := [.ref (44 + n.toNat), .ref 16, .int (Int32.ofInt (x))]) (st := [.int (Int32.ofInt ((2 * (x + c 0) - (1 - c 2))))]) F (by omega) (k24_cools_X3_1 (by omega) F3 r44ntoNat_4 hn e1 hT3 he3) wu_RX3_36_RX2 dX3_tells_27 sh_3 (by decide) rfl rfl (Nat.le_of_ble_eq_true rfl) ⟨Nat.zero_le _, Nat.zero_le _⟩ (fun r5 h5 q5 => ?_)
  obtain ⟨rfl, F5, frv5, hT5⟩ := q5
  have r44ntoNat_6 : h5 (44 + n.toNat) = c := (frv5 _ (by simp; omega)).trans r44ntoNat_4
  have fr6 : mh_fr [16] h h5 := (mh_fr.tr fr4 frv5).mono (by simp)
  have he5 := (sp_rns_out [12] (sp_rns [20, 11, 10, 12] (sp_rns [13] p)) he3).2
  refine mh_ixor (pc := 30) F dX3_tells_30 ?_
  exact mh_ireturn F Z dX3_tells_31 ⟨mh_sv (by omega), F5, fr6, hT5⟩

set_option maxRecDepth 100000 in
set_option maxHeartbeats 2000000 in
theorem k24_fills_X3_2 {g : mh_G} {d : Nat} (hd : 2 ≤ d) {h : Nat → Int → Int} (hF : mh_FX h) {n x : Int} {p : (Int → Int) × (Int → Int)} {c : Int → Int} (r44ntoNat : h (44 + n.toNat) = c) (hn : 0 ≤ n ∧ n < 6) (e1 : c 1 = 5) (hT : sc_Tp (h 16) p) (he : 0 ≤ p.1 22 ∧ p.1 22 ≤ 40) : mh_M g d yX3_fills cX3_fills 4 (some .int) 96 0 0 [.ref 4, .ref (44 + n.toNat), .ref 16, .int (Int32.ofInt (x))] h (fun r h2 => r = some (.int (Int32.ofInt (x + c 0))) ∧ mh_FX h2 ∧ mh_fr [16] h h2 ∧ sc_Tp (h2 16) (sp_rns [10] p)) := by
  refine mh_M_of RX3 rfl (by decide +kernel) [some (.ref 4), some (.ref (44 + n.toNat)), some (.ref 16), some (.int (Int32.ofInt (x)))] rfl (Nat.le_of_ble_eq_true rfl) (fun f F Z hn0 hR => ?_)
  refine mh_aload2 (pc := 0) F dX3_fills_0 ?_
  refine mh_bipush (pc := 1) F dX3_fills_1 rfl ?_
  refine mh_callS0 (pc := 3) (As := [.ref 16, .int (Int32.ofInt (10))]) (st := []) F (by omega) (k_begin (by omega) hF rfl hT he) ws_RX3_15 dX3_fills_3 rfl rfl (Nat.le_of_ble_eq_true rfl) ⟨Nat.zero_le _, Nat.zero_le _⟩ (fun r1 h1 q1 => ?_)
  obtain ⟨rfl, F1, frv1, hT1⟩ := q1
  have r44ntoNat_2 : h1 (44 + n.toNat) = c := (frv1 _ (by simp; omega)).trans r44ntoNat
  have fr2 : mh_fr [16] h h1 := (mh_fr.tr mh_fr.rf frv1).mono (by simp)
  have he1 := (sp_rns_out [10] p he).2
  refine mh_iload3 (pc := 6) F dX3_fills_6 ?_
  refine mh_aload1 (pc := 7) F dX3_fills_7 ?_
  refine mh_getir (pc := 8) F (sc_Aj (j := n) (by omega)).sh (sc_Aj (j := n) (by omega)).lt fw_RX3_19_0 dX3_fills_8 rfl r44ntoNat_2 ?_
  refine mh_iadd (pc := 11) F dX3_fills_11 ?_
  exact mh_ireturn F Z dX3_fills_12 ⟨mh_sv (by omega), F1, fr2, hT1⟩

set_option maxRecDepth 100000 in
set_option maxHeartbeats 2000000 in
theorem k24_fills_X4_2 {g : mh_G} {d : Nat} (hd : 3 ≤ d) {h : Nat → Int → Int} (hF : mh_FX h) {n x : Int} {p : (Int → Int) × (Int → Int)} {c : Int → Int} (r44ntoNat : h (44 + n.toNat) = c) (hn : 0 ≤ n ∧ n < 6) (e1 : c 1 = 5) (hT : sc_Tp (h 16) p) (he : 0 ≤ p.1 22 ∧ p.1 22 ≤ 40) : mh_M g d yX4_fills cX4_fills 4 (some .int) 96 0 0 [.ref 4, .ref (44 + n.toNat), .ref 16, .int (Int32.ofInt (x))] h (fun r h2 => r = some (.int (Int32.ofInt (3 * (x + c 0)))) ∧ mh_FX h2 ∧ mh_fr [16] h h2 ∧ sc_Tp (h2 16) (sp_rns [30, 10] p)) := by
  refine mh_M_of RX4 rfl (by decide +kernel) [some (.ref 4), some (.ref (44 + n.toNat)), some (.ref 16), some (.int (Int32.ofInt (x)))] rfl (Nat.le_of_ble_eq_true rfl) (fun f F Z hn0 hR => ?_)
  refine mh_aload2 (pc := 0) F dX4_fills_0 ?_
  refine mh_bipush (pc := 1) F dX4_fills_1 rfl ?_
  refine mh_callT0 (pc := 3) (As := [.ref 16, .int (Int32.ofInt (30))]) (st := []) F (by omega) (k_begin (by omega) hF rfl hT he) wt_RX4_11 dX4_fills_3 rfl rfl (Nat.le_of_ble_eq_true rfl) ⟨Nat.zero_le _, Nat.zero_le _⟩ (fun r1 h1 q1 => ?_)
  obtain ⟨rfl, F1, frv1, hT1⟩ := q1
  have r44ntoNat_2 : h1 (44 + n.toNat) = c := (frv1 _ (by simp; omega)).trans r44ntoNat
  have fr2 : mh_fr [16] h h1 := (mh_fr.tr mh_fr.rf frv1).mono (by simp)
  have he1 := (sp_rns_out [30] p he).2
  refine mh_aload0 (pc := 6) F dX4_fills_6 ?_
  refine mh_aload1 (pc := 7) F dX4_fills_7 ?_
  refine mh_aload2 (pc := 8) F dX4_fills_8 ?_
  refine mh_iload3 (pc := 9) F dX4_fills_9 ?_
  refine mh_callSU0 (pc := 10) (As := [.ref (44 + n.toNat), .ref 16, .int (Int32.ofInt (x))]) (st := []) F (by omega) (k24_fills_X3_2 (by omega) F1 r44ntoNat_2 hn e1 hT1 he1) wz_RX4_17 dX4_fills_10 sh_4 (by decide) rfl rfl (Nat.le_of_ble_eq_true rfl) ⟨Nat.zero_le _, Nat.zero_le _⟩ (fun r3 h3 q3 => ?_)
  obtain ⟨rfl, F3, frv3, hT3⟩ := q3
  have r44ntoNat_4 : h3 (44 + n.toNat) = c := (frv3 _ (by simp; omega)).trans r44ntoNat_2
  have fr4 : mh_fr [16] h h3 := (mh_fr.tr fr2 frv3).mono (by simp)
  have he3 := (sp_rns_out [10] (sp_rns [30] p) he1).2
  refine mh_iconst (pc := 13) F dX4_fills_13 ?_
  refine mh_imul (pc := 14) F dX4_fills_14 ?_
  exact mh_ireturn F Z dX4_fills_15 ⟨mh_sv (by omega), F3, fr4, hT3⟩

set_option maxRecDepth 100000 in
set_option maxHeartbeats 2000000 in
theorem k24_cools_X3_2 {g : mh_G} {d : Nat} (hd : 2 ≤ d) {h : Nat → Int → Int} (hF : mh_FX h) {n x : Int} {p : (Int → Int) × (Int → Int)} {c : Int → Int} (r44ntoNat : h (44 + n.toNat) = c) (hn : 0 ≤ n ∧ n < 6) (e1 : c 1 = 5) (hT : sc_Tp (h 16) p) (he : 0 ≤ p.1 22 ∧ p.1 22 ≤ 40) : mh_M g d yX3_cools cX3_cools 4 (some .int) 96 0 0 [.ref 4, .ref (44 + n.toNat), .ref 16, .int (Int32.ofInt (x))] h (fun r h2 => r = some (.int (Int32.ofInt (x - c 2))) ∧ mh_FX h2 ∧ mh_fr [16] h h2 ∧ sc_Tp (h2 16) (sp_rns [12] p)) := by
  refine mh_M_of RX3 rfl (by decide +kernel) [some (.ref 4), some (.ref (44 + n.toNat)), some (.ref 16), some (.int (Int32.ofInt (x)))] rfl (Nat.le_of_ble_eq_true rfl) (fun f F Z hn0 hR => ?_)
  refine mh_aload2 (pc := 0) F dX3_cools_0 ?_
  refine mh_bipush (pc := 1) F dX3_cools_1 rfl ?_
  refine mh_callS0 (pc := 3) (As := [.ref 16, .int (Int32.ofInt (12))]) (st := []) F (by omega) (k_begin (by omega) hF rfl hT he) ws_RX3_15 dX3_cools_3 rfl rfl (Nat.le_of_ble_eq_true rfl) ⟨Nat.zero_le _, Nat.zero_le _⟩ (fun r1 h1 q1 => ?_)
  obtain ⟨rfl, F1, frv1, hT1⟩ := q1
  have r44ntoNat_2 : h1 (44 + n.toNat) = c := (frv1 _ (by simp; omega)).trans r44ntoNat
  have fr2 : mh_fr [16] h h1 := (mh_fr.tr mh_fr.rf frv1).mono (by simp)
  have he1 := (sp_rns_out [12] p he).2
  refine mh_iload3 (pc := 6) F dX3_cools_6 ?_
  refine mh_aload1 (pc := 7) F dX3_cools_7 ?_
  refine mh_getir (pc := 8) F (sc_Aj (j := n) (by omega)).sh (sc_Aj (j := n) (by omega)).lt fw_RX3_30_0 dX3_cools_8 rfl r44ntoNat_2 ?_
  refine mh_isub (pc := 11) F dX3_cools_11 ?_
  exact mh_ireturn F Z dX3_cools_12 ⟨mh_sv (by omega), F1, fr2, hT1⟩

set_option maxRecDepth 100000 in
set_option maxHeartbeats 2000000 in
theorem k24_shakes_X3_2 {g : mh_G} {d : Nat} (hd : 4 ≤ d) {h : Nat → Int → Int} (hF : mh_FX h) {n x : Int} {p : (Int → Int) × (Int → Int)} {c : Int → Int} (r44ntoNat : h (44 + n.toNat) = c) (hn : 0 ≤ n ∧ n < 6) (e1 : c 1 = 5) (hT : sc_Tp (h 16) p) (he : 0 ≤ p.1 22 ∧ p.1 22 ≤ 40) : mh_M g d yX3_shakes cX3_shakes 4 (some .int) 96 0 0 [.ref 4, .ref (44 + n.toNat), .ref 16, .int (Int32.ofInt (x))] h (fun r h2 => r = some (.int (Int32.ofInt (2 * (3 * (x + c 0))))) ∧ mh_FX h2 ∧ mh_fr [16] h h2 ∧ sc_Tp (h2 16) (sp_rns [11, 30, 10] p)) := by
  refine mh_M_of RX3 rfl (by decide +kernel) [some (.ref 4), some (.ref (44 + n.toNat)), some (.ref 16), some (.int (Int32.ofInt (x)))] rfl (Nat.le_of_ble_eq_true rfl) (fun f F Z hn0 hR => ?_)
  refine mh_aload2 (pc := 0) F dX3_shakes_0 ?_
  refine mh_bipush (pc := 1) F dX3_shakes_1 rfl ?_
  refine mh_callS0 (pc := 3) (As := [.ref 16, .int (Int32.ofInt (11))]) (st := []) F (by omega) (k_begin (by omega) hF rfl hT he) ws_RX3_15 dX3_shakes_3 rfl rfl (Nat.le_of_ble_eq_true rfl) ⟨Nat.zero_le _, Nat.zero_le _⟩ (fun r1 h1 q1 => ?_)
  obtain ⟨rfl, F1, frv1, hT1⟩ := q1
  have r44ntoNat_2 : h1 (44 + n.toNat) = c := (frv1 _ (by simp; omega)).trans r44ntoNat
  have fr2 : mh_fr [16] h h1 := (mh_fr.tr mh_fr.rf frv1).mono (by simp)
  have he1 := (sp_rns_out [11] p he).2
  refine mh_aload1 (pc := 6) F dX3_shakes_6 ?_
  refine mh_getr (b := 4) (pc := 7) F (sc_Aj (j := n) (by omega)).sh (sc_Aj (j := n) (by omega)).lt fw_RX3_22_0 dX3_shakes_7 rfl (by rw [r44ntoNat_2, e1]; rfl) ?_
  refine mh_aload1 (pc := 10) F dX3_shakes_10 ?_
  refine mh_aload2 (pc := 11) F dX3_shakes_11 ?_
  refine mh_iload3 (pc := 12) F dX3_shakes_12 ?_
  refine mh_callU0 (pc := 13) (As := [.ref (44 + n.toNat), .ref 16, .int (Int32.ofInt (x))]) (st := []) F (by omega) (k24_fills_X4_2 (by omega) F1 r44ntoNat_2 hn e1 hT1 he1) wu_RX3_26_RX4 dX3_shakes_13 sh_4 (by decide) rfl rfl (Nat.le_of_ble_eq_true rfl) ⟨Nat.zero_le _, Nat.zero_le _⟩ (fun r3 h3 q3 => ?_)
  obtain ⟨rfl, F3, frv3, hT3⟩ := q3
  have r44ntoNat_4 : h3 (44 + n.toNat) = c := (frv3 _ (by simp; omega)).trans r44ntoNat_2
  have fr4 : mh_fr [16] h h3 := (mh_fr.tr fr2 frv3).mono (by simp)
  have he3 := (sp_rns_out [30, 10] (sp_rns [11] p) he1).2
  refine mh_iconst (pc := 16) F dX3_shakes_16 ?_
  refine mh_imul (pc := 17) F dX3_shakes_17 ?_
  exact mh_ireturn F Z dX3_shakes_18 ⟨mh_sv (by omega), F3, fr4, hT3⟩

set_option maxRecDepth 100000 in
set_option maxHeartbeats 2000000 in
theorem k24_tells_X3_2 {g : mh_G} {d : Nat} (hd : 7 ≤ d) {h : Nat → Int → Int} (hF : mh_FX h) {n x : Int} {p : (Int → Int) × (Int → Int)} {c : Int → Int} (r44ntoNat : h (44 + n.toNat) = c) (hn : 0 ≤ n ∧ n < 6) (e1 : c 1 = 5) (hT : sc_Tp (h 16) p) (he : 0 ≤ p.1 22 ∧ p.1 22 ≤ 40) : mh_M g d yX3_tells cX3_tells 5 (some .int) 96 0 0 [.ref 4, .ref (44 + n.toNat), .ref 16, .int (Int32.ofInt (x))] h (fun r h2 => r = some (.int (Int32.ofInt (mh_xor (2 * (3 * (x + c 0))) (x - c 2)))) ∧ mh_FX h2 ∧ mh_fr [16] h h2 ∧ sc_Tp (h2 16) (sp_rns [13, 11, 30, 10, 12] p)) := by
  refine mh_M_of RX3 rfl (by decide +kernel) [some (.ref 4), some (.ref (44 + n.toNat)), some (.ref 16), some (.int (Int32.ofInt (x))), none] rfl (Nat.le_of_ble_eq_true rfl) (fun f F Z hn0 hR => ?_)
  refine mh_aload2 (pc := 0) F dX3_tells_0 ?_
  refine mh_bipush (pc := 1) F dX3_tells_1 rfl ?_
  refine mh_callS0 (pc := 3) (As := [.ref 16, .int (Int32.ofInt (13))]) (st := []) F (by omega) (k_begin (by omega) hF rfl hT he) ws_RX3_15 dX3_tells_3 rfl rfl (Nat.le_of_ble_eq_true rfl) ⟨Nat.zero_le _, Nat.zero_le _⟩ (fun r1 h1 q1 => ?_)
  obtain ⟨rfl, F1, frv1, hT1⟩ := q1
  have r44ntoNat_2 : h1 (44 + n.toNat) = c := (frv1 _ (by simp; omega)).trans r44ntoNat
  have fr2 : mh_fr [16] h h1 := (mh_fr.tr mh_fr.rf frv1).mono (by simp)
  have he1 := (sp_rns_out [13] p he).2
  refine mh_aload1 (pc := 6) F dX3_tells_6 ?_
  refine mh_getr (b := 4) (pc := 7) F (sc_Aj (j := n) (by omega)).sh (sc_Aj (j := n) (by omega)).lt fw_RX3_22_0 dX3_tells_7 rfl (by rw [r44ntoNat_2, e1]; rfl) ?_
  refine mh_aload1 (pc := 10) F dX3_tells_10 ?_
  refine mh_aload2 (pc := 11) F dX3_tells_11 ?_
  refine mh_iload3 (pc := 12) F dX3_tells_12 ?_
  refine mh_callU0 (pc := 13) (As := [.ref (44 + n.toNat), .ref 16, .int (Int32.ofInt (x))]) (st := []) F (by omega) (k24_shakes_X3_2 (by omega) F1 r44ntoNat_2 hn e1 hT1 he1) wu_RX3_33_RX4 dX3_tells_13 sh_4 (by decide) rfl rfl (Nat.le_of_ble_eq_true rfl) ⟨Nat.zero_le _, Nat.zero_le _⟩ (fun r3 h3 q3 => ?_)
  obtain ⟨rfl, F3, frv3, hT3⟩ := q3
  have r44ntoNat_4 : h3 (44 + n.toNat) = c := (frv3 _ (by simp; omega)).trans r44ntoNat_2
  have fr4 : mh_fr [16] h h3 := (mh_fr.tr fr2 frv3).mono (by simp)
  have he3 := (sp_rns_out [11, 30, 10] (sp_rns [13] p) he1).2
  refine mh_istore4 (pc := 16) F dX3_tells_16 rfl (by decide) ?_
  refine mh_iload4 (pc := 18) F dX3_tells_18 ?_
  refine mh_aload1 (pc := 20) F dX3_tells_20 ?_
  refine mh_getr (b := 4) (pc := 21) F (sc_Aj (j := n) (by omega)).sh (sc_Aj (j := n) (by omega)).lt fw_RX3_22_0 dX3_tells_21 rfl (by rw [r44ntoNat_4, e1]; rfl) ?_
  refine mh_aload1 (pc := 24) F dX3_tells_24 ?_
  refine mh_aload2 (pc := 25) F dX3_tells_25 ?_
  refine mh_iload3 (pc := 26) F dX3_tells_26 ?_
  refine mh_callU0 (pc := 27) (As := [.ref (44 + n.toNat), .ref 16, .int (Int32.ofInt (x))]) (st := [.int (Int32.ofInt ((2 * (3 * (x + c 0)))))]) F (by omega) (k24_cools_X3_2 (by omega) F3 r44ntoNat_4 hn e1 hT3 he3) wu_RX3_36_RX4 dX3_tells_27 sh_4 (by decide) rfl rfl (Nat.le_of_ble_eq_true rfl) ⟨Nat.zero_le _, Nat.zero_le _⟩ (fun r5 h5 q5 => ?_)
  obtain ⟨rfl, F5, frv5, hT5⟩ := q5
  have r44ntoNat_6 : h5 (44 + n.toNat) = c := (frv5 _ (by simp; omega)).trans r44ntoNat_4
  have fr6 : mh_fr [16] h h5 := (mh_fr.tr fr4 frv5).mono (by simp)
  have he5 := (sp_rns_out [12] (sp_rns [11, 30, 10] (sp_rns [13] p)) he3).2
  refine mh_ixor (pc := 30) F dX3_tells_30 ?_
  exact mh_ireturn F Z dX3_tells_31 ⟨mh_sv (by omega), F5, fr6, hT5⟩

set_option maxRecDepth 100000 in
set_option maxHeartbeats 2000000 in
theorem k24_fills_X3_3 {g : mh_G} {d : Nat} (hd : 2 ≤ d) {h : Nat → Int → Int} (hF : mh_FX h) {n x : Int} {p : (Int → Int) × (Int → Int)} {c : Int → Int} (r44ntoNat : h (44 + n.toNat) = c) (hn : 0 ≤ n ∧ n < 6) (e1 : c 1 = 6) (hT : sc_Tp (h 16) p) (he : 0 ≤ p.1 22 ∧ p.1 22 ≤ 40) : mh_M g d yX3_fills cX3_fills 4 (some .int) 96 0 0 [.ref 5, .ref (44 + n.toNat), .ref 16, .int (Int32.ofInt (x))] h (fun r h2 => r = some (.int (Int32.ofInt (x + c 0))) ∧ mh_FX h2 ∧ mh_fr [16] h h2 ∧ sc_Tp (h2 16) (sp_rns [10] p)) := by
  refine mh_M_of RX3 rfl (by decide +kernel) [some (.ref 5), some (.ref (44 + n.toNat)), some (.ref 16), some (.int (Int32.ofInt (x)))] rfl (Nat.le_of_ble_eq_true rfl) (fun f F Z hn0 hR => ?_)
  refine mh_aload2 (pc := 0) F dX3_fills_0 ?_
  refine mh_bipush (pc := 1) F dX3_fills_1 rfl ?_
  refine mh_callS0 (pc := 3) (As := [.ref 16, .int (Int32.ofInt (10))]) (st := []) F (by omega) (k_begin (by omega) hF rfl hT he) ws_RX3_15 dX3_fills_3 rfl rfl (Nat.le_of_ble_eq_true rfl) ⟨Nat.zero_le _, Nat.zero_le _⟩ (fun r1 h1 q1 => ?_)
  obtain ⟨rfl, F1, frv1, hT1⟩ := q1
  have r44ntoNat_2 : h1 (44 + n.toNat) = c := (frv1 _ (by simp; omega)).trans r44ntoNat
  have fr2 : mh_fr [16] h h1 := (mh_fr.tr mh_fr.rf frv1).mono (by simp)
  have he1 := (sp_rns_out [10] p he).2
  refine mh_iload3 (pc := 6) F dX3_fills_6 ?_
  refine mh_aload1 (pc := 7) F dX3_fills_7 ?_
  refine mh_getir (pc := 8) F (sc_Aj (j := n) (by omega)).sh (sc_Aj (j := n) (by omega)).lt fw_RX3_19_0 dX3_fills_8 rfl r44ntoNat_2 ?_
  refine mh_iadd (pc := 11) F dX3_fills_11 ?_
  exact mh_ireturn F Z dX3_fills_12 ⟨mh_sv (by omega), F1, fr2, hT1⟩

set_option maxRecDepth 100000 in
set_option maxHeartbeats 2000000 in
theorem k24_cools_X3_3 {g : mh_G} {d : Nat} (hd : 2 ≤ d) {h : Nat → Int → Int} (hF : mh_FX h) {n x : Int} {p : (Int → Int) × (Int → Int)} {c : Int → Int} (r44ntoNat : h (44 + n.toNat) = c) (hn : 0 ≤ n ∧ n < 6) (e1 : c 1 = 6) (hT : sc_Tp (h 16) p) (he : 0 ≤ p.1 22 ∧ p.1 22 ≤ 40) : mh_M g d yX3_cools cX3_cools 4 (some .int) 96 0 0 [.ref 5, .ref (44 + n.toNat), .ref 16, .int (Int32.ofInt (x))] h (fun r h2 => r = some (.int (Int32.ofInt (x - c 2))) ∧ mh_FX h2 ∧ mh_fr [16] h h2 ∧ sc_Tp (h2 16) (sp_rns [12] p)) := by
  refine mh_M_of RX3 rfl (by decide +kernel) [some (.ref 5), some (.ref (44 + n.toNat)), some (.ref 16), some (.int (Int32.ofInt (x)))] rfl (Nat.le_of_ble_eq_true rfl) (fun f F Z hn0 hR => ?_)
  refine mh_aload2 (pc := 0) F dX3_cools_0 ?_
  refine mh_bipush (pc := 1) F dX3_cools_1 rfl ?_
  refine mh_callS0 (pc := 3) (As := [.ref 16, .int (Int32.ofInt (12))]) (st := []) F (by omega) (k_begin (by omega) hF rfl hT he) ws_RX3_15 dX3_cools_3 rfl rfl (Nat.le_of_ble_eq_true rfl) ⟨Nat.zero_le _, Nat.zero_le _⟩ (fun r1 h1 q1 => ?_)
  obtain ⟨rfl, F1, frv1, hT1⟩ := q1
  have r44ntoNat_2 : h1 (44 + n.toNat) = c := (frv1 _ (by simp; omega)).trans r44ntoNat
  have fr2 : mh_fr [16] h h1 := (mh_fr.tr mh_fr.rf frv1).mono (by simp)
  have he1 := (sp_rns_out [12] p he).2
  refine mh_iload3 (pc := 6) F dX3_cools_6 ?_
  refine mh_aload1 (pc := 7) F dX3_cools_7 ?_
  refine mh_getir (pc := 8) F (sc_Aj (j := n) (by omega)).sh (sc_Aj (j := n) (by omega)).lt fw_RX3_30_0 dX3_cools_8 rfl r44ntoNat_2 ?_
  refine mh_isub (pc := 11) F dX3_cools_11 ?_
  exact mh_ireturn F Z dX3_cools_12 ⟨mh_sv (by omega), F1, fr2, hT1⟩

set_option maxRecDepth 100000 in
set_option maxHeartbeats 2000000 in
theorem k24_cools_X1_3 {g : mh_G} {d : Nat} (hd : 3 ≤ d) {h : Nat → Int → Int} (hF : mh_FX h) {n x : Int} {p : (Int → Int) × (Int → Int)} {c : Int → Int} (r44ntoNat : h (44 + n.toNat) = c) (hn : 0 ≤ n ∧ n < 6) (e1 : c 1 = 6) (hT : sc_Tp (h 16) p) (he : 0 ≤ p.1 22 ∧ p.1 22 ≤ 40) : mh_M g d yX1_cools cX1_cools 4 (some .int) 96 0 0 [.ref 5, .ref (44 + n.toNat), .ref 16, .int (Int32.ofInt (x))] h (fun r h2 => r = some (.int (Int32.ofInt (-(x - c 2)))) ∧ mh_FX h2 ∧ mh_fr [16] h h2 ∧ sc_Tp (h2 16) (sp_rns [40, 12] p)) := by
  refine mh_M_of RX1 rfl (by decide +kernel) [some (.ref 5), some (.ref (44 + n.toNat)), some (.ref 16), some (.int (Int32.ofInt (x)))] rfl (Nat.le_of_ble_eq_true rfl) (fun f F Z hn0 hR => ?_)
  refine mh_aload2 (pc := 0) F dX1_cools_0 ?_
  refine mh_bipush (pc := 1) F dX1_cools_1 rfl ?_
  refine mh_callT0 (pc := 3) (As := [.ref 16, .int (Int32.ofInt (40))]) (st := []) F (by omega) (k_begin (by omega) hF rfl hT he) wt_RX1_7 dX1_cools_3 rfl rfl (Nat.le_of_ble_eq_true rfl) ⟨Nat.zero_le _, Nat.zero_le _⟩ (fun r1 h1 q1 => ?_)
  obtain ⟨rfl, F1, frv1, hT1⟩ := q1
  have r44ntoNat_2 : h1 (44 + n.toNat) = c := (frv1 _ (by simp; omega)).trans r44ntoNat
  have fr2 : mh_fr [16] h h1 := (mh_fr.tr mh_fr.rf frv1).mono (by simp)
  have he1 := (sp_rns_out [40] p he).2
  refine mh_aload0 (pc := 6) F dX1_cools_6 ?_
  refine mh_aload1 (pc := 7) F dX1_cools_7 ?_
  refine mh_aload2 (pc := 8) F dX1_cools_8 ?_
  refine mh_iload3 (pc := 9) F dX1_cools_9 ?_
  refine mh_callSU0 (pc := 10) (As := [.ref (44 + n.toNat), .ref 16, .int (Int32.ofInt (x))]) (st := []) F (by omega) (k24_cools_X3_3 (by omega) F1 r44ntoNat_2 hn e1 hT1 he1) wz_RX1_13 dX1_cools_10 sh_5 (by decide) rfl rfl (Nat.le_of_ble_eq_true rfl) ⟨Nat.zero_le _, Nat.zero_le _⟩ (fun r3 h3 q3 => ?_)
  obtain ⟨rfl, F3, frv3, hT3⟩ := q3
  have r44ntoNat_4 : h3 (44 + n.toNat) = c := (frv3 _ (by simp; omega)).trans r44ntoNat_2
  have fr4 : mh_fr [16] h h3 := (mh_fr.tr fr2 frv3).mono (by simp)
  have he3 := (sp_rns_out [12] (sp_rns [40] p) he1).2
  refine mh_ineg (pc := 13) F dX1_cools_13 ?_
  exact mh_ireturn F Z dX1_cools_14 ⟨mh_sv (by omega), F3, fr4, hT3⟩

set_option maxRecDepth 100000 in
set_option maxHeartbeats 2000000 in
theorem k24_shakes_X3_3 {g : mh_G} {d : Nat} (hd : 4 ≤ d) {h : Nat → Int → Int} (hF : mh_FX h) {n x : Int} {p : (Int → Int) × (Int → Int)} {c : Int → Int} (r44ntoNat : h (44 + n.toNat) = c) (hn : 0 ≤ n ∧ n < 6) (e1 : c 1 = 6) (hT : sc_Tp (h 16) p) (he : 0 ≤ p.1 22 ∧ p.1 22 ≤ 40) : mh_M g d yX3_shakes cX3_shakes 4 (some .int) 96 0 0 [.ref 5, .ref (44 + n.toNat), .ref 16, .int (Int32.ofInt (x))] h (fun r h2 => r = some (.int (Int32.ofInt (2 * (x + c 0)))) ∧ mh_FX h2 ∧ mh_fr [16] h h2 ∧ sc_Tp (h2 16) (sp_rns [11, 10] p)) := by
  refine mh_M_of RX3 rfl (by decide +kernel) [some (.ref 5), some (.ref (44 + n.toNat)), some (.ref 16), some (.int (Int32.ofInt (x)))] rfl (Nat.le_of_ble_eq_true rfl) (fun f F Z hn0 hR => ?_)
  refine mh_aload2 (pc := 0) F dX3_shakes_0 ?_
  refine mh_bipush (pc := 1) F dX3_shakes_1 rfl ?_
  refine mh_callS0 (pc := 3) (As := [.ref 16, .int (Int32.ofInt (11))]) (st := []) F (by omega) (k_begin (by omega) hF rfl hT he) ws_RX3_15 dX3_shakes_3 rfl rfl (Nat.le_of_ble_eq_true rfl) ⟨Nat.zero_le _, Nat.zero_le _⟩ (fun r1 h1 q1 => ?_)
  obtain ⟨rfl, F1, frv1, hT1⟩ := q1
  have r44ntoNat_2 : h1 (44 + n.toNat) = c := (frv1 _ (by simp; omega)).trans r44ntoNat
  have fr2 : mh_fr [16] h h1 := (mh_fr.tr mh_fr.rf frv1).mono (by simp)
  have he1 := (sp_rns_out [11] p he).2
  refine mh_aload1 (pc := 6) F dX3_shakes_6 ?_
  refine mh_getr (b := 5) (pc := 7) F (sc_Aj (j := n) (by omega)).sh (sc_Aj (j := n) (by omega)).lt fw_RX3_22_0 dX3_shakes_7 rfl (by rw [r44ntoNat_2, e1]; rfl) ?_
  refine mh_aload1 (pc := 10) F dX3_shakes_10 ?_
  refine mh_aload2 (pc := 11) F dX3_shakes_11 ?_
  refine mh_iload3 (pc := 12) F dX3_shakes_12 ?_
  refine mh_callU0 (pc := 13) (As := [.ref (44 + n.toNat), .ref 16, .int (Int32.ofInt (x))]) (st := []) F (by omega) (k24_fills_X3_3 (by omega) F1 r44ntoNat_2 hn e1 hT1 he1) wu_RX3_26_RX1 dX3_shakes_13 sh_5 (by decide) rfl rfl (Nat.le_of_ble_eq_true rfl) ⟨Nat.zero_le _, Nat.zero_le _⟩ (fun r3 h3 q3 => ?_)
  obtain ⟨rfl, F3, frv3, hT3⟩ := q3
  have r44ntoNat_4 : h3 (44 + n.toNat) = c := (frv3 _ (by simp; omega)).trans r44ntoNat_2
  have fr4 : mh_fr [16] h h3 := (mh_fr.tr fr2 frv3).mono (by simp)
  have he3 := (sp_rns_out [10] (sp_rns [11] p) he1).2
  refine mh_iconst (pc := 16) F dX3_shakes_16 ?_
  refine mh_imul (pc := 17) F dX3_shakes_17 ?_
  exact mh_ireturn F Z dX3_shakes_18 ⟨mh_sv (by omega), F3, fr4, hT3⟩

set_option maxRecDepth 100000 in
set_option maxHeartbeats 2000000 in
theorem k24_tells_X3_3 {g : mh_G} {d : Nat} (hd : 7 ≤ d) {h : Nat → Int → Int} (hF : mh_FX h) {n x : Int} {p : (Int → Int) × (Int → Int)} {c : Int → Int} (r44ntoNat : h (44 + n.toNat) = c) (hn : 0 ≤ n ∧ n < 6) (e1 : c 1 = 6) (hT : sc_Tp (h 16) p) (he : 0 ≤ p.1 22 ∧ p.1 22 ≤ 40) : mh_M g d yX3_tells cX3_tells 5 (some .int) 96 0 0 [.ref 5, .ref (44 + n.toNat), .ref 16, .int (Int32.ofInt (x))] h (fun r h2 => r = some (.int (Int32.ofInt (mh_xor (2 * (x + c 0)) (-(x - c 2))))) ∧ mh_FX h2 ∧ mh_fr [16] h h2 ∧ sc_Tp (h2 16) (sp_rns [13, 11, 10, 40, 12] p)) := by
  refine mh_M_of RX3 rfl (by decide +kernel) [some (.ref 5), some (.ref (44 + n.toNat)), some (.ref 16), some (.int (Int32.ofInt (x))), none] rfl (Nat.le_of_ble_eq_true rfl) (fun f F Z hn0 hR => ?_)
  refine mh_aload2 (pc := 0) F dX3_tells_0 ?_
  refine mh_bipush (pc := 1) F dX3_tells_1 rfl ?_
  refine mh_callS0 (pc := 3) (As := [.ref 16, .int (Int32.ofInt (13))]) (st := []) F (by omega) (k_begin (by omega) hF rfl hT he) ws_RX3_15 dX3_tells_3 rfl rfl (Nat.le_of_ble_eq_true rfl) ⟨Nat.zero_le _, Nat.zero_le _⟩ (fun r1 h1 q1 => ?_)
  obtain ⟨rfl, F1, frv1, hT1⟩ := q1
  have r44ntoNat_2 : h1 (44 + n.toNat) = c := (frv1 _ (by simp; omega)).trans r44ntoNat
  have fr2 : mh_fr [16] h h1 := (mh_fr.tr mh_fr.rf frv1).mono (by simp)
  have he1 := (sp_rns_out [13] p he).2
  refine mh_aload1 (pc := 6) F dX3_tells_6 ?_
  refine mh_getr (b := 5) (pc := 7) F (sc_Aj (j := n) (by omega)).sh (sc_Aj (j := n) (by omega)).lt fw_RX3_22_0 dX3_tells_7 rfl (by rw [r44ntoNat_2, e1]; rfl) ?_
  refine mh_aload1 (pc := 10) F dX3_tells_10 ?_
  refine mh_aload2 (pc := 11) F dX3_tells_11 ?_
  refine mh_iload3 (pc := 12) F dX3_tells_12 ?_
  refine mh_callU0 (pc := 13) (As := [.ref (44 + n.toNat), .ref 16, .int (Int32.ofInt (x))]) (st := []) F (by omega) (k24_shakes_X3_3 (by omega) F1 r44ntoNat_2 hn e1 hT1 he1) wu_RX3_33_RX1 dX3_tells_13 sh_5 (by decide) rfl rfl (Nat.le_of_ble_eq_true rfl) ⟨Nat.zero_le _, Nat.zero_le _⟩ (fun r3 h3 q3 => ?_)
  obtain ⟨rfl, F3, frv3, hT3⟩ := q3
  have r44ntoNat_4 : h3 (44 + n.toNat) = c := (frv3 _ (by simp; omega)).trans r44ntoNat_2
  have fr4 : mh_fr [16] h h3 := (mh_fr.tr fr2 frv3).mono (by simp)
  have he3 := (sp_rns_out [11, 10] (sp_rns [13] p) he1).2
  refine mh_istore4 (pc := 16) F dX3_tells_16 rfl (by decide) ?_
  refine mh_iload4 (pc := 18) F dX3_tells_18 ?_
  refine mh_aload1 (pc := 20) F dX3_tells_20 ?_
  refine mh_getr (b := 5) (pc := 21) F (sc_Aj (j := n) (by omega)).sh (sc_Aj (j := n) (by omega)).lt fw_RX3_22_0 dX3_tells_21 rfl (by rw [r44ntoNat_4, e1]; rfl) ?_
  refine mh_aload1 (pc := 24) F dX3_tells_24 ?_
  refine mh_aload2 (pc := 25) F dX3_tells_25 ?_
  refine mh_iload3 (pc := 26) F dX3_tells_26 ?_
  refine mh_callU0 (pc := 27) (As := [.ref (44 + n.toNat), .ref 16, .int (Int32.ofInt (x))]) (st := [.int (Int32.ofInt ((2 * (x + c 0))))]) F (by omega) (k24_cools_X1_3 (by omega) F3 r44ntoNat_4 hn e1 hT3 he3) wu_RX3_36_RX1 dX3_tells_27 sh_5 (by decide) rfl rfl (Nat.le_of_ble_eq_true rfl) ⟨Nat.zero_le _, Nat.zero_le _⟩ (fun r5 h5 q5 => ?_)
  obtain ⟨rfl, F5, frv5, hT5⟩ := q5
  have r44ntoNat_6 : h5 (44 + n.toNat) = c := (frv5 _ (by simp; omega)).trans r44ntoNat_4
  have fr6 : mh_fr [16] h h5 := (mh_fr.tr fr4 frv5).mono (by simp)
  have he5 := (sp_rns_out [40, 12] (sp_rns [11, 10] (sp_rns [13] p)) he3).2
  refine mh_ixor (pc := 30) F dX3_tells_30 ?_
  exact mh_ireturn F Z dX3_tells_31 ⟨mh_sv (by omega), F5, fr6, hT5⟩

set_option maxRecDepth 100000 in
set_option maxHeartbeats 2000000 in
theorem k24_fills_X3_4 {g : mh_G} {d : Nat} (hd : 2 ≤ d) {h : Nat → Int → Int} (hF : mh_FX h) {n x : Int} {p : (Int → Int) × (Int → Int)} {c : Int → Int} (r44ntoNat : h (44 + n.toNat) = c) (hn : 0 ≤ n ∧ n < 6) (e1 : c 1 = 7) (hT : sc_Tp (h 16) p) (he : 0 ≤ p.1 22 ∧ p.1 22 ≤ 40) : mh_M g d yX3_fills cX3_fills 4 (some .int) 96 0 0 [.ref 6, .ref (44 + n.toNat), .ref 16, .int (Int32.ofInt (x))] h (fun r h2 => r = some (.int (Int32.ofInt (x + c 0))) ∧ mh_FX h2 ∧ mh_fr [16] h h2 ∧ sc_Tp (h2 16) (sp_rns [10] p)) := by
  refine mh_M_of RX3 rfl (by decide +kernel) [some (.ref 6), some (.ref (44 + n.toNat)), some (.ref 16), some (.int (Int32.ofInt (x)))] rfl (Nat.le_of_ble_eq_true rfl) (fun f F Z hn0 hR => ?_)
  refine mh_aload2 (pc := 0) F dX3_fills_0 ?_
  refine mh_bipush (pc := 1) F dX3_fills_1 rfl ?_
  refine mh_callS0 (pc := 3) (As := [.ref 16, .int (Int32.ofInt (10))]) (st := []) F (by omega) (k_begin (by omega) hF rfl hT he) ws_RX3_15 dX3_fills_3 rfl rfl (Nat.le_of_ble_eq_true rfl) ⟨Nat.zero_le _, Nat.zero_le _⟩ (fun r1 h1 q1 => ?_)
  obtain ⟨rfl, F1, frv1, hT1⟩ := q1
  have r44ntoNat_2 : h1 (44 + n.toNat) = c := (frv1 _ (by simp; omega)).trans r44ntoNat
  have fr2 : mh_fr [16] h h1 := (mh_fr.tr mh_fr.rf frv1).mono (by simp)
  have he1 := (sp_rns_out [10] p he).2
  refine mh_iload3 (pc := 6) F dX3_fills_6 ?_
  refine mh_aload1 (pc := 7) F dX3_fills_7 ?_
  refine mh_getir (pc := 8) F (sc_Aj (j := n) (by omega)).sh (sc_Aj (j := n) (by omega)).lt fw_RX3_19_0 dX3_fills_8 rfl r44ntoNat_2 ?_
  refine mh_iadd (pc := 11) F dX3_fills_11 ?_
  exact mh_ireturn F Z dX3_fills_12 ⟨mh_sv (by omega), F1, fr2, hT1⟩

set_option maxRecDepth 100000 in
set_option maxHeartbeats 2000000 in
theorem k24_cools_X3_4 {g : mh_G} {d : Nat} (hd : 2 ≤ d) {h : Nat → Int → Int} (hF : mh_FX h) {n x : Int} {p : (Int → Int) × (Int → Int)} {c : Int → Int} (r44ntoNat : h (44 + n.toNat) = c) (hn : 0 ≤ n ∧ n < 6) (e1 : c 1 = 7) (hT : sc_Tp (h 16) p) (he : 0 ≤ p.1 22 ∧ p.1 22 ≤ 40) : mh_M g d yX3_cools cX3_cools 4 (some .int) 96 0 0 [.ref 6, .ref (44 + n.toNat), .ref 16, .int (Int32.ofInt (x))] h (fun r h2 => r = some (.int (Int32.ofInt (x - c 2))) ∧ mh_FX h2 ∧ mh_fr [16] h h2 ∧ sc_Tp (h2 16) (sp_rns [12] p)) := by
  refine mh_M_of RX3 rfl (by decide +kernel) [some (.ref 6), some (.ref (44 + n.toNat)), some (.ref 16), some (.int (Int32.ofInt (x)))] rfl (Nat.le_of_ble_eq_true rfl) (fun f F Z hn0 hR => ?_)
  refine mh_aload2 (pc := 0) F dX3_cools_0 ?_
  refine mh_bipush (pc := 1) F dX3_cools_1 rfl ?_
  refine mh_callS0 (pc := 3) (As := [.ref 16, .int (Int32.ofInt (12))]) (st := []) F (by omega) (k_begin (by omega) hF rfl hT he) ws_RX3_15 dX3_cools_3 rfl rfl (Nat.le_of_ble_eq_true rfl) ⟨Nat.zero_le _, Nat.zero_le _⟩ (fun r1 h1 q1 => ?_)
  obtain ⟨rfl, F1, frv1, hT1⟩ := q1
  have r44ntoNat_2 : h1 (44 + n.toNat) = c := (frv1 _ (by simp; omega)).trans r44ntoNat
  have fr2 : mh_fr [16] h h1 := (mh_fr.tr mh_fr.rf frv1).mono (by simp)
  have he1 := (sp_rns_out [12] p he).2
  refine mh_iload3 (pc := 6) F dX3_cools_6 ?_
  refine mh_aload1 (pc := 7) F dX3_cools_7 ?_
  refine mh_getir (pc := 8) F (sc_Aj (j := n) (by omega)).sh (sc_Aj (j := n) (by omega)).lt fw_RX3_30_0 dX3_cools_8 rfl r44ntoNat_2 ?_
  refine mh_isub (pc := 11) F dX3_cools_11 ?_
  exact mh_ireturn F Z dX3_cools_12 ⟨mh_sv (by omega), F1, fr2, hT1⟩

set_option maxRecDepth 100000 in
set_option maxHeartbeats 2000000 in
theorem k24_shakes_X3_4 {g : mh_G} {d : Nat} (hd : 4 ≤ d) {h : Nat → Int → Int} (hF : mh_FX h) {n x : Int} {p : (Int → Int) × (Int → Int)} {c : Int → Int} (r44ntoNat : h (44 + n.toNat) = c) (hn : 0 ≤ n ∧ n < 6) (e1 : c 1 = 7) (hT : sc_Tp (h 16) p) (he : 0 ≤ p.1 22 ∧ p.1 22 ≤ 40) : mh_M g d yX3_shakes cX3_shakes 4 (some .int) 96 0 0 [.ref 6, .ref (44 + n.toNat), .ref 16, .int (Int32.ofInt (x))] h (fun r h2 => r = some (.int (Int32.ofInt (2 * (x + c 0)))) ∧ mh_FX h2 ∧ mh_fr [16] h h2 ∧ sc_Tp (h2 16) (sp_rns [11, 10] p)) := by
  refine mh_M_of RX3 rfl (by decide +kernel) [some (.ref 6), some (.ref (44 + n.toNat)), some (.ref 16), some (.int (Int32.ofInt (x)))] rfl (Nat.le_of_ble_eq_true rfl) (fun f F Z hn0 hR => ?_)
  refine mh_aload2 (pc := 0) F dX3_shakes_0 ?_
  refine mh_bipush (pc := 1) F dX3_shakes_1 rfl ?_
  refine mh_callS0 (pc := 3) (As := [.ref 16, .int (Int32.ofInt (11))]) (st := []) F (by omega) (k_begin (by omega) hF rfl hT he) ws_RX3_15 dX3_shakes_3 rfl rfl (Nat.le_of_ble_eq_true rfl) ⟨Nat.zero_le _, Nat.zero_le _⟩ (fun r1 h1 q1 => ?_)
  obtain ⟨rfl, F1, frv1, hT1⟩ := q1
  have r44ntoNat_2 : h1 (44 + n.toNat) = c := (frv1 _ (by simp; omega)).trans r44ntoNat
  have fr2 : mh_fr [16] h h1 := (mh_fr.tr mh_fr.rf frv1).mono (by simp)
  have he1 := (sp_rns_out [11] p he).2
  refine mh_aload1 (pc := 6) F dX3_shakes_6 ?_
  refine mh_getr (b := 6) (pc := 7) F (sc_Aj (j := n) (by omega)).sh (sc_Aj (j := n) (by omega)).lt fw_RX3_22_0 dX3_shakes_7 rfl (by rw [r44ntoNat_2, e1]; rfl) ?_
  refine mh_aload1 (pc := 10) F dX3_shakes_10 ?_
  refine mh_aload2 (pc := 11) F dX3_shakes_11 ?_
  refine mh_iload3 (pc := 12) F dX3_shakes_12 ?_
  refine mh_callU0 (pc := 13) (As := [.ref (44 + n.toNat), .ref 16, .int (Int32.ofInt (x))]) (st := []) F (by omega) (k24_fills_X3_4 (by omega) F1 r44ntoNat_2 hn e1 hT1 he1) wu_RX3_26_RX7 dX3_shakes_13 sh_6 (by decide) rfl rfl (Nat.le_of_ble_eq_true rfl) ⟨Nat.zero_le _, Nat.zero_le _⟩ (fun r3 h3 q3 => ?_)
  obtain ⟨rfl, F3, frv3, hT3⟩ := q3
  have r44ntoNat_4 : h3 (44 + n.toNat) = c := (frv3 _ (by simp; omega)).trans r44ntoNat_2
  have fr4 : mh_fr [16] h h3 := (mh_fr.tr fr2 frv3).mono (by simp)
  have he3 := (sp_rns_out [10] (sp_rns [11] p) he1).2
  refine mh_iconst (pc := 16) F dX3_shakes_16 ?_
  refine mh_imul (pc := 17) F dX3_shakes_17 ?_
  exact mh_ireturn F Z dX3_shakes_18 ⟨mh_sv (by omega), F3, fr4, hT3⟩

set_option maxRecDepth 100000 in
set_option maxHeartbeats 2000000 in
theorem k24_shakes_X2_4 {g : mh_G} {d : Nat} (hd : 5 ≤ d) {h : Nat → Int → Int} (hF : mh_FX h) {n x : Int} {p : (Int → Int) × (Int → Int)} {c : Int → Int} (r44ntoNat : h (44 + n.toNat) = c) (hn : 0 ≤ n ∧ n < 6) (e1 : c 1 = 7) (hT : sc_Tp (h 16) p) (he : 0 ≤ p.1 22 ∧ p.1 22 ≤ 40) : mh_M g d yX2_shakes cX2_shakes 5 (some .int) 96 0 0 [.ref 6, .ref (44 + n.toNat), .ref 16, .int (Int32.ofInt (x))] h (fun r h2 => r = some (.int (Int32.ofInt (2 * (x + c 0) - (1 - c 2)))) ∧ mh_FX h2 ∧ mh_fr [16] h h2 ∧ sc_Tp (h2 16) (sp_rns [20, 11, 10, 12] p)) := by
  refine mh_M_of RX2 rfl (by decide +kernel) [some (.ref 6), some (.ref (44 + n.toNat)), some (.ref 16), some (.int (Int32.ofInt (x))), none] rfl (Nat.le_of_ble_eq_true rfl) (fun f F Z hn0 hR => ?_)
  refine mh_aload2 (pc := 0) F dX2_shakes_0 ?_
  refine mh_bipush (pc := 1) F dX2_shakes_1 rfl ?_
  refine mh_callT0 (pc := 3) (As := [.ref 16, .int (Int32.ofInt (20))]) (st := []) F (by omega) (k_begin (by omega) hF rfl hT he) wt_RX2_11 dX2_shakes_3 rfl rfl (Nat.le_of_ble_eq_true rfl) ⟨Nat.zero_le _, Nat.zero_le _⟩ (fun r1 h1 q1 => ?_)
  obtain ⟨rfl, F1, frv1, hT1⟩ := q1
  have r44ntoNat_2 : h1 (44 + n.toNat) = c := (frv1 _ (by simp; omega)).trans r44ntoNat
  have fr2 : mh_fr [16] h h1 := (mh_fr.tr mh_fr.rf frv1).mono (by simp)
  have he1 := (sp_rns_out [20] p he).2
  refine mh_aload0 (pc := 6) F dX2_shakes_6 ?_
  refine mh_aload1 (pc := 7) F dX2_shakes_7 ?_
  refine mh_aload2 (pc := 8) F dX2_shakes_8 ?_
  refine mh_iload3 (pc := 9) F dX2_shakes_9 ?_
  refine mh_callSU0 (pc := 10) (As := [.ref (44 + n.toNat), .ref 16, .int (Int32.ofInt (x))]) (st := []) F (by omega) (k24_shakes_X3_4 (by omega) F1 r44ntoNat_2 hn e1 hT1 he1) wz_RX2_17 dX2_shakes_10 sh_6 (by decide) rfl rfl (Nat.le_of_ble_eq_true rfl) ⟨Nat.zero_le _, Nat.zero_le _⟩ (fun r3 h3 q3 => ?_)
  obtain ⟨rfl, F3, frv3, hT3⟩ := q3
  have r44ntoNat_4 : h3 (44 + n.toNat) = c := (frv3 _ (by simp; omega)).trans r44ntoNat_2
  have fr4 : mh_fr [16] h h3 := (mh_fr.tr fr2 frv3).mono (by simp)
  have he3 := (sp_rns_out [11, 10] (sp_rns [20] p) he1).2
  refine mh_istore4 (pc := 13) F dX2_shakes_13 rfl (by decide) ?_
  refine mh_iload4 (pc := 15) F dX2_shakes_15 ?_
  refine mh_aload1 (pc := 17) F dX2_shakes_17 ?_
  refine mh_getr (b := 6) (pc := 18) F (sc_Aj (j := n) (by omega)).sh (sc_Aj (j := n) (by omega)).lt fw_RX2_21_0 dX2_shakes_18 rfl (by rw [r44ntoNat_4, e1]; rfl) ?_
  refine mh_aload1 (pc := 21) F dX2_shakes_21 ?_
  refine mh_aload2 (pc := 22) F dX2_shakes_22 ?_
  refine mh_iconst (pc := 23) F dX2_shakes_23 ?_
  refine mh_callU0 (pc := 24) (As := [.ref (44 + n.toNat), .ref 16, .int (Int32.ofInt (1))]) (st := [.int (Int32.ofInt ((2 * (x + c 0))))]) F (by omega) (k24_cools_X3_4 (by omega) F3 r44ntoNat_4 hn e1 hT3 he3) wu_RX2_27_RX7 dX2_shakes_24 sh_6 (by decide) rfl rfl (Nat.le_of_ble_eq_true rfl) ⟨Nat.zero_le _, Nat.zero_le _⟩ (fun r5 h5 q5 => ?_)
  obtain ⟨rfl, F5, frv5, hT5⟩ := q5
  have r44ntoNat_6 : h5 (44 + n.toNat) = c := (frv5 _ (by simp; omega)).trans r44ntoNat_4
  have fr6 : mh_fr [16] h h5 := (mh_fr.tr fr4 frv5).mono (by simp)
  have he5 := (sp_rns_out [12] (sp_rns [11, 10] (sp_rns [20] p)) he3).2
  refine mh_isub (pc := 27) F dX2_shakes_27 ?_
  exact mh_ireturn F Z dX2_shakes_28 ⟨mh_sv (by omega), F5, fr6, hT5⟩

set_option maxRecDepth 100000 in
set_option maxHeartbeats 2000000 in
theorem k24_shakes_X7_4 {g : mh_G} {d : Nat} (hd : 6 ≤ d) {h : Nat → Int → Int} (hF : mh_FX h) {n x : Int} {p : (Int → Int) × (Int → Int)} {c : Int → Int} (r44ntoNat : h (44 + n.toNat) = c) (hn : 0 ≤ n ∧ n < 6) (e1 : c 1 = 7) (hT : sc_Tp (h 16) p) (he : 0 ≤ p.1 22 ∧ p.1 22 ≤ 40) : mh_M g d yX7_shakes cX7_shakes 4 (some .int) 96 0 0 [.ref 6, .ref (44 + n.toNat), .ref 16, .int (Int32.ofInt (x))] h (fun r h2 => r = some (.int (Int32.ofInt (2 * ((x + 1) + c 0) - (1 - c 2)))) ∧ mh_FX h2 ∧ mh_fr [16] h h2 ∧ sc_Tp (h2 16) (sp_rns [50, 20, 11, 10, 12] p)) := by
  refine mh_M_of RX7 rfl (by decide +kernel) [some (.ref 6), some (.ref (44 + n.toNat)), some (.ref 16), some (.int (Int32.ofInt (x)))] rfl (Nat.le_of_ble_eq_true rfl) (fun f F Z hn0 hR => ?_)
  refine mh_aload2 (pc := 0) F dX7_shakes_0 ?_
  refine mh_bipush (pc := 1) F dX7_shakes_1 rfl ?_
  refine mh_callT0 (pc := 3) (As := [.ref 16, .int (Int32.ofInt (50))]) (st := []) F (by omega) (k_begin (by omega) hF rfl hT he) wt_RX7_20 dX7_shakes_3 rfl rfl (Nat.le_of_ble_eq_true rfl) ⟨Nat.zero_le _, Nat.zero_le _⟩ (fun r1 h1 q1 => ?_)
  obtain ⟨rfl, F1, frv1, hT1⟩ := q1
  have r44ntoNat_2 : h1 (44 + n.toNat) = c := (frv1 _ (by simp; omega)).trans r44ntoNat
  have fr2 : mh_fr [16] h h1 := (mh_fr.tr mh_fr.rf frv1).mono (by simp)
  have he1 := (sp_rns_out [50] p he).2
  refine mh_aload0 (pc := 6) F dX7_shakes_6 ?_
  refine mh_aload1 (pc := 7) F dX7_shakes_7 ?_
  refine mh_aload2 (pc := 8) F dX7_shakes_8 ?_
  refine mh_iload3 (pc := 9) F dX7_shakes_9 ?_
  refine mh_iconst (pc := 10) F dX7_shakes_10 ?_
  refine mh_iadd (pc := 11) F dX7_shakes_11 ?_
  refine mh_callSU0 (pc := 12) (As := [.ref (44 + n.toNat), .ref 16, .int (Int32.ofInt (x + 1))]) (st := []) F (by omega) (k24_shakes_X2_4 (by omega) F1 r44ntoNat_2 hn e1 hT1 he1) wz_RX7_26 dX7_shakes_12 sh_6 (by decide) rfl rfl (Nat.le_of_ble_eq_true rfl) ⟨Nat.zero_le _, Nat.zero_le _⟩ (fun r3 h3 q3 => ?_)
  obtain ⟨rfl, F3, frv3, hT3⟩ := q3
  have r44ntoNat_4 : h3 (44 + n.toNat) = c := (frv3 _ (by simp; omega)).trans r44ntoNat_2
  have fr4 : mh_fr [16] h h3 := (mh_fr.tr fr2 frv3).mono (by simp)
  have he3 := (sp_rns_out [20, 11, 10, 12] (sp_rns [50] p) he1).2
  exact mh_ireturn F Z dX7_shakes_15 ⟨mh_sv (by omega), F3, fr4, hT3⟩

set_option maxRecDepth 100000 in
set_option maxHeartbeats 2000000 in
theorem k24_tells_X3_4 {g : mh_G} {d : Nat} (hd : 7 ≤ d) {h : Nat → Int → Int} (hF : mh_FX h) {n x : Int} {p : (Int → Int) × (Int → Int)} {c : Int → Int} (r44ntoNat : h (44 + n.toNat) = c) (hn : 0 ≤ n ∧ n < 6) (e1 : c 1 = 7) (hT : sc_Tp (h 16) p) (he : 0 ≤ p.1 22 ∧ p.1 22 ≤ 40) : mh_M g d yX3_tells cX3_tells 5 (some .int) 96 0 0 [.ref 6, .ref (44 + n.toNat), .ref 16, .int (Int32.ofInt (x))] h (fun r h2 => r = some (.int (Int32.ofInt (mh_xor (2 * ((x + 1) + c 0) - (1 - c 2)) (x - c 2)))) ∧ mh_FX h2 ∧ mh_fr [16] h h2 ∧ sc_Tp (h2 16) (sp_rns [13, 50, 20, 11, 10, 12, 12] p)) := by
  refine mh_M_of RX3 rfl (by decide +kernel) [some (.ref 6), some (.ref (44 + n.toNat)), some (.ref 16), some (.int (Int32.ofInt (x))), none] rfl (Nat.le_of_ble_eq_true rfl) (fun f F Z hn0 hR => ?_)
  refine mh_aload2 (pc := 0) F dX3_tells_0 ?_
  refine mh_bipush (pc := 1) F dX3_tells_1 rfl ?_
  refine mh_callS0 (pc := 3) (As := [.ref 16, .int (Int32.ofInt (13))]) (st := []) F (by omega) (k_begin (by omega) hF rfl hT he) ws_RX3_15 dX3_tells_3 rfl rfl (Nat.le_of_ble_eq_true rfl) ⟨Nat.zero_le _, Nat.zero_le _⟩ (fun r1 h1 q1 => ?_)
  obtain ⟨rfl, F1, frv1, hT1⟩ := q1
  have r44ntoNat_2 : h1 (44 + n.toNat) = c := (frv1 _ (by simp; omega)).trans r44ntoNat
  have fr2 : mh_fr [16] h h1 := (mh_fr.tr mh_fr.rf frv1).mono (by simp)
  have he1 := (sp_rns_out [13] p he).2
  refine mh_aload1 (pc := 6) F dX3_tells_6 ?_
  refine mh_getr (b := 6) (pc := 7) F (sc_Aj (j := n) (by omega)).sh (sc_Aj (j := n) (by omega)).lt fw_RX3_22_0 dX3_tells_7 rfl (by rw [r44ntoNat_2, e1]; rfl) ?_
  refine mh_aload1 (pc := 10) F dX3_tells_10 ?_
  refine mh_aload2 (pc := 11) F dX3_tells_11 ?_
  refine mh_iload3 (pc := 12) F dX3_tells_12 ?_
  refine mh_callU0 (pc := 13) (As := [.ref (44 + n.toNat), .ref 16, .int (Int32.ofInt (x))]) (st := []) F (by omega) (k24_shakes_X7_4 (by omega) F1 r44ntoNat_2 hn e1 hT1 he1) wu_RX3_33_RX7 dX3_tells_13 sh_6 (by decide) rfl rfl (Nat.le_of_ble_eq_true rfl) ⟨Nat.zero_le _, Nat.zero_le _⟩ (fun r3 h3 q3 => ?_)
  obtain ⟨rfl, F3, frv3, hT3⟩ := q3
  have r44ntoNat_4 : h3 (44 + n.toNat) = c := (frv3 _ (by simp; omega)).trans r44ntoNat_2
  have fr4 : mh_fr [16] h h3 := (mh_fr.tr fr2 frv3).mono (by simp)
  have he3 := (sp_rns_out [50, 20, 11, 10, 12] (sp_rns [13] p) he1).2
  refine mh_istore4 (pc := 16) F dX3_tells_16 rfl (by decide) ?_
  refine mh_iload4 (pc := 18) F dX3_tells_18 ?_
  refine mh_aload1 (pc := 20) F dX3_tells_20 ?_
  refine mh_getr (b := 6) (pc := 21) F (sc_Aj (j := n) (by omega)).sh (sc_Aj (j := n) (by omega)).lt fw_RX3_22_0 dX3_tells_21 rfl (by rw [r44ntoNat_4, e1]; rfl) ?_
  refine mh_aload1 (pc := 24) F dX3_tells_24 ?_
  refine mh_aload2 (pc := 25) F dX3_tells_25 ?_
  refine mh_iload3 (pc := 26) F dX3_tells_26 ?_
  refine mh_callU0 (pc := 27) (As := [.ref (44 + n.toNat), .ref 16, .int (Int32.ofInt (x))]) (st := [.int (Int32.ofInt ((2 * ((x + 1) + c 0) - (1 - c 2))))]) F (by omega) (k24_cools_X3_4 (by omega) F3 r44ntoNat_4 hn e1 hT3 he3) wu_RX3_36_RX7 dX3_tells_27 sh_6 (by decide) rfl rfl (Nat.le_of_ble_eq_true rfl) ⟨Nat.zero_le _, Nat.zero_le _⟩ (fun r5 h5 q5 => ?_)
  obtain ⟨rfl, F5, frv5, hT5⟩ := q5
  have r44ntoNat_6 : h5 (44 + n.toNat) = c := (frv5 _ (by simp; omega)).trans r44ntoNat_4
  have fr6 : mh_fr [16] h h5 := (mh_fr.tr fr4 frv5).mono (by simp)
  have he5 := (sp_rns_out [12] (sp_rns [50, 20, 11, 10, 12] (sp_rns [13] p)) he3).2
  refine mh_ixor (pc := 30) F dX3_tells_30 ?_
  exact mh_ireturn F Z dX3_tells_31 ⟨mh_sv (by omega), F5, fr6, hT5⟩

set_option maxRecDepth 100000 in
set_option maxHeartbeats 2000000 in
theorem k24_fills_X3_5 {g : mh_G} {d : Nat} (hd : 2 ≤ d) {h : Nat → Int → Int} (hF : mh_FX h) {n x : Int} {p : (Int → Int) × (Int → Int)} {c : Int → Int} (r44ntoNat : h (44 + n.toNat) = c) (hn : 0 ≤ n ∧ n < 6) (e1 : c 1 = 8) (hT : sc_Tp (h 16) p) (he : 0 ≤ p.1 22 ∧ p.1 22 ≤ 40) : mh_M g d yX3_fills cX3_fills 4 (some .int) 96 0 0 [.ref 7, .ref (44 + n.toNat), .ref 16, .int (Int32.ofInt (x))] h (fun r h2 => r = some (.int (Int32.ofInt (x + c 0))) ∧ mh_FX h2 ∧ mh_fr [16] h h2 ∧ sc_Tp (h2 16) (sp_rns [10] p)) := by
  refine mh_M_of RX3 rfl (by decide +kernel) [some (.ref 7), some (.ref (44 + n.toNat)), some (.ref 16), some (.int (Int32.ofInt (x)))] rfl (Nat.le_of_ble_eq_true rfl) (fun f F Z hn0 hR => ?_)
  refine mh_aload2 (pc := 0) F dX3_fills_0 ?_
  refine mh_bipush (pc := 1) F dX3_fills_1 rfl ?_
  refine mh_callS0 (pc := 3) (As := [.ref 16, .int (Int32.ofInt (10))]) (st := []) F (by omega) (k_begin (by omega) hF rfl hT he) ws_RX3_15 dX3_fills_3 rfl rfl (Nat.le_of_ble_eq_true rfl) ⟨Nat.zero_le _, Nat.zero_le _⟩ (fun r1 h1 q1 => ?_)
  obtain ⟨rfl, F1, frv1, hT1⟩ := q1
  have r44ntoNat_2 : h1 (44 + n.toNat) = c := (frv1 _ (by simp; omega)).trans r44ntoNat
  have fr2 : mh_fr [16] h h1 := (mh_fr.tr mh_fr.rf frv1).mono (by simp)
  have he1 := (sp_rns_out [10] p he).2
  refine mh_iload3 (pc := 6) F dX3_fills_6 ?_
  refine mh_aload1 (pc := 7) F dX3_fills_7 ?_
  refine mh_getir (pc := 8) F (sc_Aj (j := n) (by omega)).sh (sc_Aj (j := n) (by omega)).lt fw_RX3_19_0 dX3_fills_8 rfl r44ntoNat_2 ?_
  refine mh_iadd (pc := 11) F dX3_fills_11 ?_
  exact mh_ireturn F Z dX3_fills_12 ⟨mh_sv (by omega), F1, fr2, hT1⟩

set_option maxRecDepth 100000 in
set_option maxHeartbeats 2000000 in
theorem k24_fills_X4_5 {g : mh_G} {d : Nat} (hd : 3 ≤ d) {h : Nat → Int → Int} (hF : mh_FX h) {n x : Int} {p : (Int → Int) × (Int → Int)} {c : Int → Int} (r44ntoNat : h (44 + n.toNat) = c) (hn : 0 ≤ n ∧ n < 6) (e1 : c 1 = 8) (hT : sc_Tp (h 16) p) (he : 0 ≤ p.1 22 ∧ p.1 22 ≤ 40) : mh_M g d yX4_fills cX4_fills 4 (some .int) 96 0 0 [.ref 7, .ref (44 + n.toNat), .ref 16, .int (Int32.ofInt (x))] h (fun r h2 => r = some (.int (Int32.ofInt (3 * (x + c 0)))) ∧ mh_FX h2 ∧ mh_fr [16] h h2 ∧ sc_Tp (h2 16) (sp_rns [30, 10] p)) := by
  refine mh_M_of RX4 rfl (by decide +kernel) [some (.ref 7), some (.ref (44 + n.toNat)), some (.ref 16), some (.int (Int32.ofInt (x)))] rfl (Nat.le_of_ble_eq_true rfl) (fun f F Z hn0 hR => ?_)
  refine mh_aload2 (pc := 0) F dX4_fills_0 ?_
  refine mh_bipush (pc := 1) F dX4_fills_1 rfl ?_
  refine mh_callT0 (pc := 3) (As := [.ref 16, .int (Int32.ofInt (30))]) (st := []) F (by omega) (k_begin (by omega) hF rfl hT he) wt_RX4_11 dX4_fills_3 rfl rfl (Nat.le_of_ble_eq_true rfl) ⟨Nat.zero_le _, Nat.zero_le _⟩ (fun r1 h1 q1 => ?_)
  obtain ⟨rfl, F1, frv1, hT1⟩ := q1
  have r44ntoNat_2 : h1 (44 + n.toNat) = c := (frv1 _ (by simp; omega)).trans r44ntoNat
  have fr2 : mh_fr [16] h h1 := (mh_fr.tr mh_fr.rf frv1).mono (by simp)
  have he1 := (sp_rns_out [30] p he).2
  refine mh_aload0 (pc := 6) F dX4_fills_6 ?_
  refine mh_aload1 (pc := 7) F dX4_fills_7 ?_
  refine mh_aload2 (pc := 8) F dX4_fills_8 ?_
  refine mh_iload3 (pc := 9) F dX4_fills_9 ?_
  refine mh_callSU0 (pc := 10) (As := [.ref (44 + n.toNat), .ref 16, .int (Int32.ofInt (x))]) (st := []) F (by omega) (k24_fills_X3_5 (by omega) F1 r44ntoNat_2 hn e1 hT1 he1) wz_RX4_17 dX4_fills_10 sh_7 (by decide) rfl rfl (Nat.le_of_ble_eq_true rfl) ⟨Nat.zero_le _, Nat.zero_le _⟩ (fun r3 h3 q3 => ?_)
  obtain ⟨rfl, F3, frv3, hT3⟩ := q3
  have r44ntoNat_4 : h3 (44 + n.toNat) = c := (frv3 _ (by simp; omega)).trans r44ntoNat_2
  have fr4 : mh_fr [16] h h3 := (mh_fr.tr fr2 frv3).mono (by simp)
  have he3 := (sp_rns_out [10] (sp_rns [30] p) he1).2
  refine mh_iconst (pc := 13) F dX4_fills_13 ?_
  refine mh_imul (pc := 14) F dX4_fills_14 ?_
  exact mh_ireturn F Z dX4_fills_15 ⟨mh_sv (by omega), F3, fr4, hT3⟩

set_option maxRecDepth 100000 in
set_option maxHeartbeats 2000000 in
theorem k24_cools_X3_5 {g : mh_G} {d : Nat} (hd : 2 ≤ d) {h : Nat → Int → Int} (hF : mh_FX h) {n x : Int} {p : (Int → Int) × (Int → Int)} {c : Int → Int} (r44ntoNat : h (44 + n.toNat) = c) (hn : 0 ≤ n ∧ n < 6) (e1 : c 1 = 8) (hT : sc_Tp (h 16) p) (he : 0 ≤ p.1 22 ∧ p.1 22 ≤ 40) : mh_M g d yX3_cools cX3_cools 4 (some .int) 96 0 0 [.ref 7, .ref (44 + n.toNat), .ref 16, .int (Int32.ofInt (x))] h (fun r h2 => r = some (.int (Int32.ofInt (x - c 2))) ∧ mh_FX h2 ∧ mh_fr [16] h h2 ∧ sc_Tp (h2 16) (sp_rns [12] p)) := by
  refine mh_M_of RX3 rfl (by decide +kernel) [some (.ref 7), some (.ref (44 + n.toNat)), some (.ref 16), some (.int (Int32.ofInt (x)))] rfl (Nat.le_of_ble_eq_true rfl) (fun f F Z hn0 hR => ?_)
  refine mh_aload2 (pc := 0) F dX3_cools_0 ?_
  refine mh_bipush (pc := 1) F dX3_cools_1 rfl ?_
  refine mh_callS0 (pc := 3) (As := [.ref 16, .int (Int32.ofInt (12))]) (st := []) F (by omega) (k_begin (by omega) hF rfl hT he) ws_RX3_15 dX3_cools_3 rfl rfl (Nat.le_of_ble_eq_true rfl) ⟨Nat.zero_le _, Nat.zero_le _⟩ (fun r1 h1 q1 => ?_)
  obtain ⟨rfl, F1, frv1, hT1⟩ := q1
  have r44ntoNat_2 : h1 (44 + n.toNat) = c := (frv1 _ (by simp; omega)).trans r44ntoNat
  have fr2 : mh_fr [16] h h1 := (mh_fr.tr mh_fr.rf frv1).mono (by simp)
  have he1 := (sp_rns_out [12] p he).2
  refine mh_iload3 (pc := 6) F dX3_cools_6 ?_
  refine mh_aload1 (pc := 7) F dX3_cools_7 ?_
  refine mh_getir (pc := 8) F (sc_Aj (j := n) (by omega)).sh (sc_Aj (j := n) (by omega)).lt fw_RX3_30_0 dX3_cools_8 rfl r44ntoNat_2 ?_
  refine mh_isub (pc := 11) F dX3_cools_11 ?_
  exact mh_ireturn F Z dX3_cools_12 ⟨mh_sv (by omega), F1, fr2, hT1⟩

set_option maxRecDepth 100000 in
set_option maxHeartbeats 2000000 in
theorem k24_shakes_X3_5 {g : mh_G} {d : Nat} (hd : 4 ≤ d) {h : Nat → Int → Int} (hF : mh_FX h) {n x : Int} {p : (Int → Int) × (Int → Int)} {c : Int → Int} (r44ntoNat : h (44 + n.toNat) = c) (hn : 0 ≤ n ∧ n < 6) (e1 : c 1 = 8) (hT : sc_Tp (h 16) p) (he : 0 ≤ p.1 22 ∧ p.1 22 ≤ 40) : mh_M g d yX3_shakes cX3_shakes 4 (some .int) 96 0 0 [.ref 7, .ref (44 + n.toNat), .ref 16, .int (Int32.ofInt (x))] h (fun r h2 => r = some (.int (Int32.ofInt (2 * (3 * (x + c 0))))) ∧ mh_FX h2 ∧ mh_fr [16] h h2 ∧ sc_Tp (h2 16) (sp_rns [11, 30, 10] p)) := by
  refine mh_M_of RX3 rfl (by decide +kernel) [some (.ref 7), some (.ref (44 + n.toNat)), some (.ref 16), some (.int (Int32.ofInt (x)))] rfl (Nat.le_of_ble_eq_true rfl) (fun f F Z hn0 hR => ?_)
  refine mh_aload2 (pc := 0) F dX3_shakes_0 ?_
  refine mh_bipush (pc := 1) F dX3_shakes_1 rfl ?_
  refine mh_callS0 (pc := 3) (As := [.ref 16, .int (Int32.ofInt (11))]) (st := []) F (by omega) (k_begin (by omega) hF rfl hT he) ws_RX3_15 dX3_shakes_3 rfl rfl (Nat.le_of_ble_eq_true rfl) ⟨Nat.zero_le _, Nat.zero_le _⟩ (fun r1 h1 q1 => ?_)
  obtain ⟨rfl, F1, frv1, hT1⟩ := q1
  have r44ntoNat_2 : h1 (44 + n.toNat) = c := (frv1 _ (by simp; omega)).trans r44ntoNat
  have fr2 : mh_fr [16] h h1 := (mh_fr.tr mh_fr.rf frv1).mono (by simp)
  have he1 := (sp_rns_out [11] p he).2
  refine mh_aload1 (pc := 6) F dX3_shakes_6 ?_
  refine mh_getr (b := 7) (pc := 7) F (sc_Aj (j := n) (by omega)).sh (sc_Aj (j := n) (by omega)).lt fw_RX3_22_0 dX3_shakes_7 rfl (by rw [r44ntoNat_2, e1]; rfl) ?_
  refine mh_aload1 (pc := 10) F dX3_shakes_10 ?_
  refine mh_aload2 (pc := 11) F dX3_shakes_11 ?_
  refine mh_iload3 (pc := 12) F dX3_shakes_12 ?_
  refine mh_callU0 (pc := 13) (As := [.ref (44 + n.toNat), .ref 16, .int (Int32.ofInt (x))]) (st := []) F (by omega) (k24_fills_X4_5 (by omega) F1 r44ntoNat_2 hn e1 hT1 he1) wu_RX3_26_RX8 dX3_shakes_13 sh_7 (by decide) rfl rfl (Nat.le_of_ble_eq_true rfl) ⟨Nat.zero_le _, Nat.zero_le _⟩ (fun r3 h3 q3 => ?_)
  obtain ⟨rfl, F3, frv3, hT3⟩ := q3
  have r44ntoNat_4 : h3 (44 + n.toNat) = c := (frv3 _ (by simp; omega)).trans r44ntoNat_2
  have fr4 : mh_fr [16] h h3 := (mh_fr.tr fr2 frv3).mono (by simp)
  have he3 := (sp_rns_out [30, 10] (sp_rns [11] p) he1).2
  refine mh_iconst (pc := 16) F dX3_shakes_16 ?_
  refine mh_imul (pc := 17) F dX3_shakes_17 ?_
  exact mh_ireturn F Z dX3_shakes_18 ⟨mh_sv (by omega), F3, fr4, hT3⟩

set_option maxRecDepth 100000 in
set_option maxHeartbeats 2000000 in
theorem k24_tells_X3_5 {g : mh_G} {d : Nat} (hd : 7 ≤ d) {h : Nat → Int → Int} (hF : mh_FX h) {n x : Int} {p : (Int → Int) × (Int → Int)} {c : Int → Int} (r44ntoNat : h (44 + n.toNat) = c) (hn : 0 ≤ n ∧ n < 6) (e1 : c 1 = 8) (hT : sc_Tp (h 16) p) (he : 0 ≤ p.1 22 ∧ p.1 22 ≤ 40) : mh_M g d yX3_tells cX3_tells 5 (some .int) 96 0 0 [.ref 7, .ref (44 + n.toNat), .ref 16, .int (Int32.ofInt (x))] h (fun r h2 => r = some (.int (Int32.ofInt (mh_xor (2 * (3 * (x + c 0))) (x - c 2)))) ∧ mh_FX h2 ∧ mh_fr [16] h h2 ∧ sc_Tp (h2 16) (sp_rns [13, 11, 30, 10, 12] p)) := by
  refine mh_M_of RX3 rfl (by decide +kernel) [some (.ref 7), some (.ref (44 + n.toNat)), some (.ref 16), some (.int (Int32.ofInt (x))), none] rfl (Nat.le_of_ble_eq_true rfl) (fun f F Z hn0 hR => ?_)
  refine mh_aload2 (pc := 0) F dX3_tells_0 ?_
  refine mh_bipush (pc := 1) F dX3_tells_1 rfl ?_
  refine mh_callS0 (pc := 3) (As := [.ref 16, .int (Int32.ofInt (13))]) (st := []) F (by omega) (k_begin (by omega) hF rfl hT he) ws_RX3_15 dX3_tells_3 rfl rfl (Nat.le_of_ble_eq_true rfl) ⟨Nat.zero_le _, Nat.zero_le _⟩ (fun r1 h1 q1 => ?_)
  obtain ⟨rfl, F1, frv1, hT1⟩ := q1
  have r44ntoNat_2 : h1 (44 + n.toNat) = c := (frv1 _ (by simp; omega)).trans r44ntoNat
  have fr2 : mh_fr [16] h h1 := (mh_fr.tr mh_fr.rf frv1).mono (by simp)
  have he1 := (sp_rns_out [13] p he).2
  refine mh_aload1 (pc := 6) F dX3_tells_6 ?_
  refine mh_getr (b := 7) (pc := 7) F (sc_Aj (j := n) (by omega)).sh (sc_Aj (j := n) (by omega)).lt fw_RX3_22_0 dX3_tells_7 rfl (by rw [r44ntoNat_2, e1]; rfl) ?_
  refine mh_aload1 (pc := 10) F dX3_tells_10 ?_
  refine mh_aload2 (pc := 11) F dX3_tells_11 ?_
  refine mh_iload3 (pc := 12) F dX3_tells_12 ?_
  refine mh_callU0 (pc := 13) (As := [.ref (44 + n.toNat), .ref 16, .int (Int32.ofInt (x))]) (st := []) F (by omega) (k24_shakes_X3_5 (by omega) F1 r44ntoNat_2 hn e1 hT1 he1) wu_RX3_33_RX8 dX3_tells_13 sh_7 (by decide) rfl rfl (Nat.le_of_ble_eq_true rfl) ⟨Nat.zero_le _, Nat.zero_le _⟩ (fun r3 h3 q3 => ?_)
  obtain ⟨rfl, F3, frv3, hT3⟩ := q3
  have r44ntoNat_4 : h3 (44 + n.toNat) = c := (frv3 _ (by simp; omega)).trans r44ntoNat_2
  have fr4 : mh_fr [16] h h3 := (mh_fr.tr fr2 frv3).mono (by simp)
  have he3 := (sp_rns_out [11, 30, 10] (sp_rns [13] p) he1).2
  refine mh_istore4 (pc := 16) F dX3_tells_16 rfl (by decide) ?_
  refine mh_iload4 (pc := 18) F dX3_tells_18 ?_
  refine mh_aload1 (pc := 20) F dX3_tells_20 ?_
  refine mh_getr (b := 7) (pc := 21) F (sc_Aj (j := n) (by omega)).sh (sc_Aj (j := n) (by omega)).lt fw_RX3_22_0 dX3_tells_21 rfl (by rw [r44ntoNat_4, e1]; rfl) ?_
  refine mh_aload1 (pc := 24) F dX3_tells_24 ?_
  refine mh_aload2 (pc := 25) F dX3_tells_25 ?_
  refine mh_iload3 (pc := 26) F dX3_tells_26 ?_
  refine mh_callU0 (pc := 27) (As := [.ref (44 + n.toNat), .ref 16, .int (Int32.ofInt (x))]) (st := [.int (Int32.ofInt ((2 * (3 * (x + c 0)))))]) F (by omega) (k24_cools_X3_5 (by omega) F3 r44ntoNat_4 hn e1 hT3 he3) wu_RX3_36_RX8 dX3_tells_27 sh_7 (by decide) rfl rfl (Nat.le_of_ble_eq_true rfl) ⟨Nat.zero_le _, Nat.zero_le _⟩ (fun r5 h5 q5 => ?_)
  obtain ⟨rfl, F5, frv5, hT5⟩ := q5
  have r44ntoNat_6 : h5 (44 + n.toNat) = c := (frv5 _ (by simp; omega)).trans r44ntoNat_4
  have fr6 : mh_fr [16] h h5 := (mh_fr.tr fr4 frv5).mono (by simp)
  have he5 := (sp_rns_out [12] (sp_rns [11, 30, 10] (sp_rns [13] p)) he3).2
  refine mh_ixor (pc := 30) F dX3_tells_30 ?_
  exact mh_ireturn F Z dX3_tells_31 ⟨mh_sv (by omega), F5, fr6, hT5⟩

set_option maxRecDepth 100000 in
set_option maxHeartbeats 2000000 in
theorem k24_tells_X8_5 {g : mh_G} {d : Nat} (hd : 8 ≤ d) {h : Nat → Int → Int} (hF : mh_FX h) {n x : Int} {p : (Int → Int) × (Int → Int)} {c : Int → Int} (r44ntoNat : h (44 + n.toNat) = c) (hn : 0 ≤ n ∧ n < 6) (e1 : c 1 = 8) (hT : sc_Tp (h 16) p) (he : 0 ≤ p.1 22 ∧ p.1 22 ≤ 40) : mh_M g d yX8_tells cX8_tells 5 (some .int) 96 0 0 [.ref 7, .ref (44 + n.toNat), .ref 16, .int (Int32.ofInt (x))] h (fun r h2 => r = some (.int (Int32.ofInt ((mh_xor (2 * (3 * (x + c 0))) (x - c 2)) - (3 * (2 + c 0))))) ∧ mh_FX h2 ∧ mh_fr [16] h h2 ∧ sc_Tp (h2 16) (sp_rns [60, 13, 11, 30, 10, 12, 30, 10] p)) := by
  refine mh_M_of RX8 rfl (by decide +kernel) [some (.ref 7), some (.ref (44 + n.toNat)), some (.ref 16), some (.int (Int32.ofInt (x))), none] rfl (Nat.le_of_ble_eq_true rfl) (fun f F Z hn0 hR => ?_)
  refine mh_aload2 (pc := 0) F dX8_tells_0 ?_
  refine mh_bipush (pc := 1) F dX8_tells_1 rfl ?_
  refine mh_callT0 (pc := 3) (As := [.ref 16, .int (Int32.ofInt (60))]) (st := []) F (by omega) (k_begin (by omega) hF rfl hT he) wt_RX8_20 dX8_tells_3 rfl rfl (Nat.le_of_ble_eq_true rfl) ⟨Nat.zero_le _, Nat.zero_le _⟩ (fun r1 h1 q1 => ?_)
  obtain ⟨rfl, F1, frv1, hT1⟩ := q1
  have r44ntoNat_2 : h1 (44 + n.toNat) = c := (frv1 _ (by simp; omega)).trans r44ntoNat
  have fr2 : mh_fr [16] h h1 := (mh_fr.tr mh_fr.rf frv1).mono (by simp)
  have he1 := (sp_rns_out [60] p he).2
  refine mh_aload0 (pc := 6) F dX8_tells_6 ?_
  refine mh_aload1 (pc := 7) F dX8_tells_7 ?_
  refine mh_aload2 (pc := 8) F dX8_tells_8 ?_
  refine mh_iload3 (pc := 9) F dX8_tells_9 ?_
  refine mh_callSX0 (pc := 10) (As := [.ref (44 + n.toNat), .ref 16, .int (Int32.ofInt (x))]) (st := []) F (by omega) (k24_tells_X3_5 (by omega) F1 r44ntoNat_2 hn e1 hT1 he1) wx_RX8_26 dX8_tells_10 sh_7 (by decide) rfl rfl (Nat.le_of_ble_eq_true rfl) ⟨Nat.zero_le _, Nat.zero_le _⟩ (fun r3 h3 q3 => ?_)
  obtain ⟨rfl, F3, frv3, hT3⟩ := q3
  have r44ntoNat_4 : h3 (44 + n.toNat) = c := (frv3 _ (by simp; omega)).trans r44ntoNat_2
  have fr4 : mh_fr [16] h h3 := (mh_fr.tr fr2 frv3).mono (by simp)
  have he3 := (sp_rns_out [13, 11, 30, 10, 12] (sp_rns [60] p) he1).2
  refine mh_istore4 (pc := 13) F dX8_tells_13 rfl (by decide) ?_
  refine mh_iload4 (pc := 15) F dX8_tells_15 ?_
  refine mh_aload1 (pc := 17) F dX8_tells_17 ?_
  refine mh_getr (b := 7) (pc := 18) F (sc_Aj (j := n) (by omega)).sh (sc_Aj (j := n) (by omega)).lt fw_RX8_30_0 dX8_tells_18 rfl (by rw [r44ntoNat_4, e1]; rfl) ?_
  refine mh_aload1 (pc := 21) F dX8_tells_21 ?_
  refine mh_aload2 (pc := 22) F dX8_tells_22 ?_
  refine mh_iconst (pc := 23) F dX8_tells_23 ?_
  refine mh_callU0 (pc := 24) (As := [.ref (44 + n.toNat), .ref 16, .int (Int32.ofInt (2))]) (st := [.int (Int32.ofInt ((mh_xor (2 * (3 * (x + c 0))) (x - c 2))))]) F (by omega) (k24_fills_X4_5 (by omega) F3 r44ntoNat_4 hn e1 hT3 he3) wu_RX8_36_RX8 dX8_tells_24 sh_7 (by decide) rfl rfl (Nat.le_of_ble_eq_true rfl) ⟨Nat.zero_le _, Nat.zero_le _⟩ (fun r5 h5 q5 => ?_)
  obtain ⟨rfl, F5, frv5, hT5⟩ := q5
  have r44ntoNat_6 : h5 (44 + n.toNat) = c := (frv5 _ (by simp; omega)).trans r44ntoNat_4
  have fr6 : mh_fr [16] h h5 := (mh_fr.tr fr4 frv5).mono (by simp)
  have he5 := (sp_rns_out [30, 10] (sp_rns [13, 11, 30, 10, 12] (sp_rns [60] p)) he3).2
  refine mh_isub (pc := 27) F dX8_tells_27 ?_
  exact mh_ireturn F Z dX8_tells_28 ⟨mh_sv (by omega), F5, fr6, hT5⟩

set_option maxRecDepth 100000 in
set_option maxHeartbeats 2000000 in
theorem k24_fills_X3_6 {g : mh_G} {d : Nat} (hd : 2 ≤ d) {h : Nat → Int → Int} (hF : mh_FX h) {n x : Int} {p : (Int → Int) × (Int → Int)} {c : Int → Int} (r44ntoNat : h (44 + n.toNat) = c) (hn : 0 ≤ n ∧ n < 6) (e1 : c 1 = 9) (hT : sc_Tp (h 16) p) (he : 0 ≤ p.1 22 ∧ p.1 22 ≤ 40) : mh_M g d yX3_fills cX3_fills 4 (some .int) 96 0 0 [.ref 8, .ref (44 + n.toNat), .ref 16, .int (Int32.ofInt (x))] h (fun r h2 => r = some (.int (Int32.ofInt (x + c 0))) ∧ mh_FX h2 ∧ mh_fr [16] h h2 ∧ sc_Tp (h2 16) (sp_rns [10] p)) := by
  refine mh_M_of RX3 rfl (by decide +kernel) [some (.ref 8), some (.ref (44 + n.toNat)), some (.ref 16), some (.int (Int32.ofInt (x)))] rfl (Nat.le_of_ble_eq_true rfl) (fun f F Z hn0 hR => ?_)
  refine mh_aload2 (pc := 0) F dX3_fills_0 ?_
  refine mh_bipush (pc := 1) F dX3_fills_1 rfl ?_
  refine mh_callS0 (pc := 3) (As := [.ref 16, .int (Int32.ofInt (10))]) (st := []) F (by omega) (k_begin (by omega) hF rfl hT he) ws_RX3_15 dX3_fills_3 rfl rfl (Nat.le_of_ble_eq_true rfl) ⟨Nat.zero_le _, Nat.zero_le _⟩ (fun r1 h1 q1 => ?_)
  obtain ⟨rfl, F1, frv1, hT1⟩ := q1
  have r44ntoNat_2 : h1 (44 + n.toNat) = c := (frv1 _ (by simp; omega)).trans r44ntoNat
  have fr2 : mh_fr [16] h h1 := (mh_fr.tr mh_fr.rf frv1).mono (by simp)
  have he1 := (sp_rns_out [10] p he).2
  refine mh_iload3 (pc := 6) F dX3_fills_6 ?_
  refine mh_aload1 (pc := 7) F dX3_fills_7 ?_
  refine mh_getir (pc := 8) F (sc_Aj (j := n) (by omega)).sh (sc_Aj (j := n) (by omega)).lt fw_RX3_19_0 dX3_fills_8 rfl r44ntoNat_2 ?_
  refine mh_iadd (pc := 11) F dX3_fills_11 ?_
  exact mh_ireturn F Z dX3_fills_12 ⟨mh_sv (by omega), F1, fr2, hT1⟩

set_option maxRecDepth 100000 in
set_option maxHeartbeats 2000000 in
theorem k24_cools_X3_6 {g : mh_G} {d : Nat} (hd : 2 ≤ d) {h : Nat → Int → Int} (hF : mh_FX h) {n x : Int} {p : (Int → Int) × (Int → Int)} {c : Int → Int} (r44ntoNat : h (44 + n.toNat) = c) (hn : 0 ≤ n ∧ n < 6) (e1 : c 1 = 9) (hT : sc_Tp (h 16) p) (he : 0 ≤ p.1 22 ∧ p.1 22 ≤ 40) : mh_M g d yX3_cools cX3_cools 4 (some .int) 96 0 0 [.ref 8, .ref (44 + n.toNat), .ref 16, .int (Int32.ofInt (x))] h (fun r h2 => r = some (.int (Int32.ofInt (x - c 2))) ∧ mh_FX h2 ∧ mh_fr [16] h h2 ∧ sc_Tp (h2 16) (sp_rns [12] p)) := by
  refine mh_M_of RX3 rfl (by decide +kernel) [some (.ref 8), some (.ref (44 + n.toNat)), some (.ref 16), some (.int (Int32.ofInt (x)))] rfl (Nat.le_of_ble_eq_true rfl) (fun f F Z hn0 hR => ?_)
  refine mh_aload2 (pc := 0) F dX3_cools_0 ?_
  refine mh_bipush (pc := 1) F dX3_cools_1 rfl ?_
  refine mh_callS0 (pc := 3) (As := [.ref 16, .int (Int32.ofInt (12))]) (st := []) F (by omega) (k_begin (by omega) hF rfl hT he) ws_RX3_15 dX3_cools_3 rfl rfl (Nat.le_of_ble_eq_true rfl) ⟨Nat.zero_le _, Nat.zero_le _⟩ (fun r1 h1 q1 => ?_)
  obtain ⟨rfl, F1, frv1, hT1⟩ := q1
  have r44ntoNat_2 : h1 (44 + n.toNat) = c := (frv1 _ (by simp; omega)).trans r44ntoNat
  have fr2 : mh_fr [16] h h1 := (mh_fr.tr mh_fr.rf frv1).mono (by simp)
  have he1 := (sp_rns_out [12] p he).2
  refine mh_iload3 (pc := 6) F dX3_cools_6 ?_
  refine mh_aload1 (pc := 7) F dX3_cools_7 ?_
  refine mh_getir (pc := 8) F (sc_Aj (j := n) (by omega)).sh (sc_Aj (j := n) (by omega)).lt fw_RX3_30_0 dX3_cools_8 rfl r44ntoNat_2 ?_
  refine mh_isub (pc := 11) F dX3_cools_11 ?_
  exact mh_ireturn F Z dX3_cools_12 ⟨mh_sv (by omega), F1, fr2, hT1⟩

set_option maxRecDepth 100000 in
set_option maxHeartbeats 2000000 in
theorem k24_cools_X1_6 {g : mh_G} {d : Nat} (hd : 3 ≤ d) {h : Nat → Int → Int} (hF : mh_FX h) {n x : Int} {p : (Int → Int) × (Int → Int)} {c : Int → Int} (r44ntoNat : h (44 + n.toNat) = c) (hn : 0 ≤ n ∧ n < 6) (e1 : c 1 = 9) (hT : sc_Tp (h 16) p) (he : 0 ≤ p.1 22 ∧ p.1 22 ≤ 40) : mh_M g d yX1_cools cX1_cools 4 (some .int) 96 0 0 [.ref 8, .ref (44 + n.toNat), .ref 16, .int (Int32.ofInt (x))] h (fun r h2 => r = some (.int (Int32.ofInt (-(x - c 2)))) ∧ mh_FX h2 ∧ mh_fr [16] h h2 ∧ sc_Tp (h2 16) (sp_rns [40, 12] p)) := by
  refine mh_M_of RX1 rfl (by decide +kernel) [some (.ref 8), some (.ref (44 + n.toNat)), some (.ref 16), some (.int (Int32.ofInt (x)))] rfl (Nat.le_of_ble_eq_true rfl) (fun f F Z hn0 hR => ?_)
  refine mh_aload2 (pc := 0) F dX1_cools_0 ?_
  refine mh_bipush (pc := 1) F dX1_cools_1 rfl ?_
  refine mh_callT0 (pc := 3) (As := [.ref 16, .int (Int32.ofInt (40))]) (st := []) F (by omega) (k_begin (by omega) hF rfl hT he) wt_RX1_7 dX1_cools_3 rfl rfl (Nat.le_of_ble_eq_true rfl) ⟨Nat.zero_le _, Nat.zero_le _⟩ (fun r1 h1 q1 => ?_)
  obtain ⟨rfl, F1, frv1, hT1⟩ := q1
  have r44ntoNat_2 : h1 (44 + n.toNat) = c := (frv1 _ (by simp; omega)).trans r44ntoNat
  have fr2 : mh_fr [16] h h1 := (mh_fr.tr mh_fr.rf frv1).mono (by simp)
  have he1 := (sp_rns_out [40] p he).2
  refine mh_aload0 (pc := 6) F dX1_cools_6 ?_
  refine mh_aload1 (pc := 7) F dX1_cools_7 ?_
  refine mh_aload2 (pc := 8) F dX1_cools_8 ?_
  refine mh_iload3 (pc := 9) F dX1_cools_9 ?_
  refine mh_callSU0 (pc := 10) (As := [.ref (44 + n.toNat), .ref 16, .int (Int32.ofInt (x))]) (st := []) F (by omega) (k24_cools_X3_6 (by omega) F1 r44ntoNat_2 hn e1 hT1 he1) wz_RX1_13 dX1_cools_10 sh_8 (by decide) rfl rfl (Nat.le_of_ble_eq_true rfl) ⟨Nat.zero_le _, Nat.zero_le _⟩ (fun r3 h3 q3 => ?_)
  obtain ⟨rfl, F3, frv3, hT3⟩ := q3
  have r44ntoNat_4 : h3 (44 + n.toNat) = c := (frv3 _ (by simp; omega)).trans r44ntoNat_2
  have fr4 : mh_fr [16] h h3 := (mh_fr.tr fr2 frv3).mono (by simp)
  have he3 := (sp_rns_out [12] (sp_rns [40] p) he1).2
  refine mh_ineg (pc := 13) F dX1_cools_13 ?_
  exact mh_ireturn F Z dX1_cools_14 ⟨mh_sv (by omega), F3, fr4, hT3⟩

set_option maxRecDepth 100000 in
set_option maxHeartbeats 2000000 in
theorem k24_cools_X5_6 {g : mh_G} {d : Nat} (hd : 4 ≤ d) {h : Nat → Int → Int} (hF : mh_FX h) {n x : Int} {p : (Int → Int) × (Int → Int)} {c : Int → Int} (r44ntoNat : h (44 + n.toNat) = c) (hn : 0 ≤ n ∧ n < 6) (e1 : c 1 = 9) (hT : sc_Tp (h 16) p) (he : 0 ≤ p.1 22 ∧ p.1 22 ≤ 40) : mh_M g d yX5_cools cX5_cools 4 (some .int) 96 0 0 [.ref 8, .ref (44 + n.toNat), .ref 16, .int (Int32.ofInt (x))] h (fun r h2 => r = some (.int (Int32.ofInt (mh_xor (-(x - c 2)) (c 0)))) ∧ mh_FX h2 ∧ mh_fr [16] h h2 ∧ sc_Tp (h2 16) (sp_rns [70, 40, 12] p)) := by
  refine mh_M_of RX5 rfl (by decide +kernel) [some (.ref 8), some (.ref (44 + n.toNat)), some (.ref 16), some (.int (Int32.ofInt (x)))] rfl (Nat.le_of_ble_eq_true rfl) (fun f F Z hn0 hR => ?_)
  refine mh_aload2 (pc := 0) F dX5_cools_0 ?_
  refine mh_bipush (pc := 1) F dX5_cools_1 rfl ?_
  refine mh_callT0 (pc := 3) (As := [.ref 16, .int (Int32.ofInt (70))]) (st := []) F (by omega) (k_begin (by omega) hF rfl hT he) wt_RX5_14 dX5_cools_3 rfl rfl (Nat.le_of_ble_eq_true rfl) ⟨Nat.zero_le _, Nat.zero_le _⟩ (fun r1 h1 q1 => ?_)
  obtain ⟨rfl, F1, frv1, hT1⟩ := q1
  have r44ntoNat_2 : h1 (44 + n.toNat) = c := (frv1 _ (by simp; omega)).trans r44ntoNat
  have fr2 : mh_fr [16] h h1 := (mh_fr.tr mh_fr.rf frv1).mono (by simp)
  have he1 := (sp_rns_out [70] p he).2
  refine mh_aload0 (pc := 6) F dX5_cools_6 ?_
  refine mh_aload1 (pc := 7) F dX5_cools_7 ?_
  refine mh_aload2 (pc := 8) F dX5_cools_8 ?_
  refine mh_iload3 (pc := 9) F dX5_cools_9 ?_
  refine mh_callSU0 (pc := 10) (As := [.ref (44 + n.toNat), .ref 16, .int (Int32.ofInt (x))]) (st := []) F (by omega) (k24_cools_X1_6 (by omega) F1 r44ntoNat_2 hn e1 hT1 he1) wz_RX5_20 dX5_cools_10 sh_8 (by decide) rfl rfl (Nat.le_of_ble_eq_true rfl) ⟨Nat.zero_le _, Nat.zero_le _⟩ (fun r3 h3 q3 => ?_)
  obtain ⟨rfl, F3, frv3, hT3⟩ := q3
  have r44ntoNat_4 : h3 (44 + n.toNat) = c := (frv3 _ (by simp; omega)).trans r44ntoNat_2
  have fr4 : mh_fr [16] h h3 := (mh_fr.tr fr2 frv3).mono (by simp)
  have he3 := (sp_rns_out [40, 12] (sp_rns [70] p) he1).2
  refine mh_aload1 (pc := 13) F dX5_cools_13 ?_
  refine mh_getir (pc := 14) F (sc_Aj (j := n) (by omega)).sh (sc_Aj (j := n) (by omega)).lt fw_RX5_24_0 dX5_cools_14 rfl r44ntoNat_4 ?_
  refine mh_ixor (pc := 17) F dX5_cools_17 ?_
  exact mh_ireturn F Z dX5_cools_18 ⟨mh_sv (by omega), F3, fr4, hT3⟩

set_option maxRecDepth 100000 in
set_option maxHeartbeats 2000000 in
theorem k24_shakes_X3_6 {g : mh_G} {d : Nat} (hd : 4 ≤ d) {h : Nat → Int → Int} (hF : mh_FX h) {n x : Int} {p : (Int → Int) × (Int → Int)} {c : Int → Int} (r44ntoNat : h (44 + n.toNat) = c) (hn : 0 ≤ n ∧ n < 6) (e1 : c 1 = 9) (hT : sc_Tp (h 16) p) (he : 0 ≤ p.1 22 ∧ p.1 22 ≤ 40) : mh_M g d yX3_shakes cX3_shakes 4 (some .int) 96 0 0 [.ref 8, .ref (44 + n.toNat), .ref 16, .int (Int32.ofInt (x))] h (fun r h2 => r = some (.int (Int32.ofInt (2 * (x + c 0)))) ∧ mh_FX h2 ∧ mh_fr [16] h h2 ∧ sc_Tp (h2 16) (sp_rns [11, 10] p)) := by
  refine mh_M_of RX3 rfl (by decide +kernel) [some (.ref 8), some (.ref (44 + n.toNat)), some (.ref 16), some (.int (Int32.ofInt (x)))] rfl (Nat.le_of_ble_eq_true rfl) (fun f F Z hn0 hR => ?_)
  refine mh_aload2 (pc := 0) F dX3_shakes_0 ?_
  refine mh_bipush (pc := 1) F dX3_shakes_1 rfl ?_
  refine mh_callS0 (pc := 3) (As := [.ref 16, .int (Int32.ofInt (11))]) (st := []) F (by omega) (k_begin (by omega) hF rfl hT he) ws_RX3_15 dX3_shakes_3 rfl rfl (Nat.le_of_ble_eq_true rfl) ⟨Nat.zero_le _, Nat.zero_le _⟩ (fun r1 h1 q1 => ?_)
  obtain ⟨rfl, F1, frv1, hT1⟩ := q1
  have r44ntoNat_2 : h1 (44 + n.toNat) = c := (frv1 _ (by simp; omega)).trans r44ntoNat
  have fr2 : mh_fr [16] h h1 := (mh_fr.tr mh_fr.rf frv1).mono (by simp)
  have he1 := (sp_rns_out [11] p he).2
  refine mh_aload1 (pc := 6) F dX3_shakes_6 ?_
  refine mh_getr (b := 8) (pc := 7) F (sc_Aj (j := n) (by omega)).sh (sc_Aj (j := n) (by omega)).lt fw_RX3_22_0 dX3_shakes_7 rfl (by rw [r44ntoNat_2, e1]; rfl) ?_
  refine mh_aload1 (pc := 10) F dX3_shakes_10 ?_
  refine mh_aload2 (pc := 11) F dX3_shakes_11 ?_
  refine mh_iload3 (pc := 12) F dX3_shakes_12 ?_
  refine mh_callU0 (pc := 13) (As := [.ref (44 + n.toNat), .ref 16, .int (Int32.ofInt (x))]) (st := []) F (by omega) (k24_fills_X3_6 (by omega) F1 r44ntoNat_2 hn e1 hT1 he1) wu_RX3_26_RX5 dX3_shakes_13 sh_8 (by decide) rfl rfl (Nat.le_of_ble_eq_true rfl) ⟨Nat.zero_le _, Nat.zero_le _⟩ (fun r3 h3 q3 => ?_)
  obtain ⟨rfl, F3, frv3, hT3⟩ := q3
  have r44ntoNat_4 : h3 (44 + n.toNat) = c := (frv3 _ (by simp; omega)).trans r44ntoNat_2
  have fr4 : mh_fr [16] h h3 := (mh_fr.tr fr2 frv3).mono (by simp)
  have he3 := (sp_rns_out [10] (sp_rns [11] p) he1).2
  refine mh_iconst (pc := 16) F dX3_shakes_16 ?_
  refine mh_imul (pc := 17) F dX3_shakes_17 ?_
  exact mh_ireturn F Z dX3_shakes_18 ⟨mh_sv (by omega), F3, fr4, hT3⟩

set_option maxRecDepth 100000 in
set_option maxHeartbeats 2000000 in
theorem k24_tells_X3_6 {g : mh_G} {d : Nat} (hd : 7 ≤ d) {h : Nat → Int → Int} (hF : mh_FX h) {n x : Int} {p : (Int → Int) × (Int → Int)} {c : Int → Int} (r44ntoNat : h (44 + n.toNat) = c) (hn : 0 ≤ n ∧ n < 6) (e1 : c 1 = 9) (hT : sc_Tp (h 16) p) (he : 0 ≤ p.1 22 ∧ p.1 22 ≤ 40) : mh_M g d yX3_tells cX3_tells 5 (some .int) 96 0 0 [.ref 8, .ref (44 + n.toNat), .ref 16, .int (Int32.ofInt (x))] h (fun r h2 => r = some (.int (Int32.ofInt (mh_xor (2 * (x + c 0)) (mh_xor (-(x - c 2)) (c 0))))) ∧ mh_FX h2 ∧ mh_fr [16] h h2 ∧ sc_Tp (h2 16) (sp_rns [13, 11, 10, 70, 40, 12] p)) := by
  refine mh_M_of RX3 rfl (by decide +kernel) [some (.ref 8), some (.ref (44 + n.toNat)), some (.ref 16), some (.int (Int32.ofInt (x))), none] rfl (Nat.le_of_ble_eq_true rfl) (fun f F Z hn0 hR => ?_)
  refine mh_aload2 (pc := 0) F dX3_tells_0 ?_
  refine mh_bipush (pc := 1) F dX3_tells_1 rfl ?_
  refine mh_callS0 (pc := 3) (As := [.ref 16, .int (Int32.ofInt (13))]) (st := []) F (by omega) (k_begin (by omega) hF rfl hT he) ws_RX3_15 dX3_tells_3 rfl rfl (Nat.le_of_ble_eq_true rfl) ⟨Nat.zero_le _, Nat.zero_le _⟩ (fun r1 h1 q1 => ?_)
  obtain ⟨rfl, F1, frv1, hT1⟩ := q1
  have r44ntoNat_2 : h1 (44 + n.toNat) = c := (frv1 _ (by simp; omega)).trans r44ntoNat
  have fr2 : mh_fr [16] h h1 := (mh_fr.tr mh_fr.rf frv1).mono (by simp)
  have he1 := (sp_rns_out [13] p he).2
  refine mh_aload1 (pc := 6) F dX3_tells_6 ?_
  refine mh_getr (b := 8) (pc := 7) F (sc_Aj (j := n) (by omega)).sh (sc_Aj (j := n) (by omega)).lt fw_RX3_22_0 dX3_tells_7 rfl (by rw [r44ntoNat_2, e1]; rfl) ?_
  refine mh_aload1 (pc := 10) F dX3_tells_10 ?_
  refine mh_aload2 (pc := 11) F dX3_tells_11 ?_
  refine mh_iload3 (pc := 12) F dX3_tells_12 ?_
  refine mh_callU0 (pc := 13) (As := [.ref (44 + n.toNat), .ref 16, .int (Int32.ofInt (x))]) (st := []) F (by omega) (k24_shakes_X3_6 (by omega) F1 r44ntoNat_2 hn e1 hT1 he1) wu_RX3_33_RX5 dX3_tells_13 sh_8 (by decide) rfl rfl (Nat.le_of_ble_eq_true rfl) ⟨Nat.zero_le _, Nat.zero_le _⟩ (fun r3 h3 q3 => ?_)
  obtain ⟨rfl, F3, frv3, hT3⟩ := q3
  have r44ntoNat_4 : h3 (44 + n.toNat) = c := (frv3 _ (by simp; omega)).trans r44ntoNat_2
  have fr4 : mh_fr [16] h h3 := (mh_fr.tr fr2 frv3).mono (by simp)
  have he3 := (sp_rns_out [11, 10] (sp_rns [13] p) he1).2
  refine mh_istore4 (pc := 16) F dX3_tells_16 rfl (by decide) ?_
  refine mh_iload4 (pc := 18) F dX3_tells_18 ?_
  refine mh_aload1 (pc := 20) F dX3_tells_20 ?_
  refine mh_getr (b := 8) (pc := 21) F (sc_Aj (j := n) (by omega)).sh (sc_Aj (j := n) (by omega)).lt fw_RX3_22_0 dX3_tells_21 rfl (by rw [r44ntoNat_4, e1]; rfl) ?_
  refine mh_aload1 (pc := 24) F dX3_tells_24 ?_
  refine mh_aload2 (pc := 25) F dX3_tells_25 ?_
  refine mh_iload3 (pc := 26) F dX3_tells_26 ?_
  refine mh_callU0 (pc := 27) (As := [.ref (44 + n.toNat), .ref 16, .int (Int32.ofInt (x))]) (st := [.int (Int32.ofInt ((2 * (x + c 0))))]) F (by omega) (k24_cools_X5_6 (by omega) F3 r44ntoNat_4 hn e1 hT3 he3) wu_RX3_36_RX5 dX3_tells_27 sh_8 (by decide) rfl rfl (Nat.le_of_ble_eq_true rfl) ⟨Nat.zero_le _, Nat.zero_le _⟩ (fun r5 h5 q5 => ?_)
  obtain ⟨rfl, F5, frv5, hT5⟩ := q5
  have r44ntoNat_6 : h5 (44 + n.toNat) = c := (frv5 _ (by simp; omega)).trans r44ntoNat_4
  have fr6 : mh_fr [16] h h5 := (mh_fr.tr fr4 frv5).mono (by simp)
  have he5 := (sp_rns_out [70, 40, 12] (sp_rns [11, 10] (sp_rns [13] p)) he3).2
  refine mh_ixor (pc := 30) F dX3_tells_30 ?_
  exact mh_ireturn F Z dX3_tells_31 ⟨mh_sv (by omega), F5, fr6, hT5⟩

set_option maxRecDepth 100000 in
set_option maxHeartbeats 2000000 in
theorem k24_tells_X5_6 {g : mh_G} {d : Nat} (hd : 8 ≤ d) {h : Nat → Int → Int} (hF : mh_FX h) {n x : Int} {p : (Int → Int) × (Int → Int)} {c : Int → Int} (r44ntoNat : h (44 + n.toNat) = c) (hn : 0 ≤ n ∧ n < 6) (e1 : c 1 = 9) (hT : sc_Tp (h 16) p) (he : 0 ≤ p.1 22 ∧ p.1 22 ≤ 40) : mh_M g d yX5_tells cX5_tells 5 (some .int) 96 0 0 [.ref 8, .ref (44 + n.toNat), .ref 16, .int (Int32.ofInt (x))] h (fun r h2 => r = some (.int (Int32.ofInt ((2 * (x + c 0)) - (mh_xor (2 * (x + c 0)) (mh_xor (-(x - c 2)) (c 0)))))) ∧ mh_FX h2 ∧ mh_fr [16] h h2 ∧ sc_Tp (h2 16) (sp_rns [71, 11, 10, 13, 11, 10, 70, 40, 12] p)) := by
  refine mh_M_of RX5 rfl (by decide +kernel) [some (.ref 8), some (.ref (44 + n.toNat)), some (.ref 16), some (.int (Int32.ofInt (x))), none] rfl (Nat.le_of_ble_eq_true rfl) (fun f F Z hn0 hR => ?_)
  refine mh_aload2 (pc := 0) F dX5_tells_0 ?_
  refine mh_bipush (pc := 1) F dX5_tells_1 rfl ?_
  refine mh_callT0 (pc := 3) (As := [.ref 16, .int (Int32.ofInt (71))]) (st := []) F (by omega) (k_begin (by omega) hF rfl hT he) wt_RX5_14 dX5_tells_3 rfl rfl (Nat.le_of_ble_eq_true rfl) ⟨Nat.zero_le _, Nat.zero_le _⟩ (fun r1 h1 q1 => ?_)
  obtain ⟨rfl, F1, frv1, hT1⟩ := q1
  have r44ntoNat_2 : h1 (44 + n.toNat) = c := (frv1 _ (by simp; omega)).trans r44ntoNat
  have fr2 : mh_fr [16] h h1 := (mh_fr.tr mh_fr.rf frv1).mono (by simp)
  have he1 := (sp_rns_out [71] p he).2
  refine mh_aload1 (pc := 6) F dX5_tells_6 ?_
  refine mh_getr (b := 8) (pc := 7) F (sc_Aj (j := n) (by omega)).sh (sc_Aj (j := n) (by omega)).lt fw_RX5_30_0 dX5_tells_7 rfl (by rw [r44ntoNat_2, e1]; rfl) ?_
  refine mh_aload1 (pc := 10) F dX5_tells_10 ?_
  refine mh_aload2 (pc := 11) F dX5_tells_11 ?_
  refine mh_iload3 (pc := 12) F dX5_tells_12 ?_
  refine mh_callU0 (pc := 13) (As := [.ref (44 + n.toNat), .ref 16, .int (Int32.ofInt (x))]) (st := []) F (by omega) (k24_shakes_X3_6 (by omega) F1 r44ntoNat_2 hn e1 hT1 he1) wu_RX5_34_RX5 dX5_tells_13 sh_8 (by decide) rfl rfl (Nat.le_of_ble_eq_true rfl) ⟨Nat.zero_le _, Nat.zero_le _⟩ (fun r3 h3 q3 => ?_)
  obtain ⟨rfl, F3, frv3, hT3⟩ := q3
  have r44ntoNat_4 : h3 (44 + n.toNat) = c := (frv3 _ (by simp; omega)).trans r44ntoNat_2
  have fr4 : mh_fr [16] h h3 := (mh_fr.tr fr2 frv3).mono (by simp)
  have he3 := (sp_rns_out [11, 10] (sp_rns [71] p) he1).2
  refine mh_istore4 (pc := 16) F dX5_tells_16 rfl (by decide) ?_
  refine mh_iload4 (pc := 18) F dX5_tells_18 ?_
  refine mh_aload0 (pc := 20) F dX5_tells_20 ?_
  refine mh_aload1 (pc := 21) F dX5_tells_21 ?_
  refine mh_aload2 (pc := 22) F dX5_tells_22 ?_
  refine mh_iload3 (pc := 23) F dX5_tells_23 ?_
  refine mh_callSX0 (pc := 24) (As := [.ref (44 + n.toNat), .ref 16, .int (Int32.ofInt (x))]) (st := [.int (Int32.ofInt ((2 * (x + c 0))))]) F (by omega) (k24_tells_X3_6 (by omega) F3 r44ntoNat_4 hn e1 hT3 he3) wx_RX5_39 dX5_tells_24 sh_8 (by decide) rfl rfl (Nat.le_of_ble_eq_true rfl) ⟨Nat.zero_le _, Nat.zero_le _⟩ (fun r5 h5 q5 => ?_)
  obtain ⟨rfl, F5, frv5, hT5⟩ := q5
  have r44ntoNat_6 : h5 (44 + n.toNat) = c := (frv5 _ (by simp; omega)).trans r44ntoNat_4
  have fr6 : mh_fr [16] h h5 := (mh_fr.tr fr4 frv5).mono (by simp)
  have he5 := (sp_rns_out [13, 11, 10, 70, 40, 12] (sp_rns [11, 10] (sp_rns [71] p)) he3).2
  refine mh_isub (pc := 27) F dX5_tells_27 ?_
  exact mh_ireturn F Z dX5_tells_28 ⟨mh_sv (by omega), F5, fr6, hT5⟩

