/-! relays: forget, prepare -/
set_option maxRecDepth 100000 in
set_option maxHeartbeats 2000000 in
theorem kJ_rc {g : mh_G} {d : Nat} (hd : 1 ≤ d) {h : Nat → Int → Int} (hF : mh_FX h) {l p q : Int} (h1 : 0 ≤ p ∧ p ≤ q) (h2 : q ≤ l ∧ l ≤ 100000) : mh_M g d yJ7_rangeCheck_23922 cJ7_rangeCheck_23922 3 none 96 0 0 [.int (Int32.ofInt (l)), .int (Int32.ofInt (p)), .int (Int32.ofInt (q))] h (fun r h2 => r = none ∧ h2 = h) := by
  refine mh_M_ofJ RJ7 rfl (by decide +kernel) [some (.int (Int32.ofInt (l))), some (.int (Int32.ofInt (p))), some (.int (Int32.ofInt (q)))] rfl (Nat.le_of_ble_eq_true rfl) (fun f F Z hn0 hR => ?_)
  refine mh_iload1 (pc := 0) F dJ7_rangeCheck_23922_0 ?_
  refine mh_iload2 (pc := 1) F dJ7_rangeCheck_23922_1 ?_
  refine mh_icmp_le (pc := 2) (tgt := 46) F dJ7_rangeCheck_23922_2 rfl (by omega) (by omega) (fun c_2 => ?_) (fun c_2 => ?_)
  · refine mh_iload1 (pc := 46) F dJ7_rangeCheck_23922_46 ?_
    refine mh_if_ge (pc := 47) (tgt := 59) F dJ7_rangeCheck_23922_47 rfl (by omega) (fun c_47 => ?_) (fun c_47 => ?_)
    · refine mh_iload2 (pc := 59) F dJ7_rangeCheck_23922_59 ?_
      refine mh_iload0 (pc := 60) F dJ7_rangeCheck_23922_60 ?_
      refine mh_icmp_le (pc := 61) (tgt := 73) F dJ7_rangeCheck_23922_61 rfl (by omega) (by omega) (fun c_61 => ?_) (fun c_61 => ?_)
      · exact mh_return F Z dJ7_rangeCheck_23922_73 ⟨rfl, rfl⟩
      · exfalso; omega
    · exfalso; omega
  · exfalso; omega

set_option maxRecDepth 100000 in
set_option maxHeartbeats 2000000 in
theorem kJ_fillR {g : mh_G} {d : Nat} (hd : 2 ≤ d) {h : Nat → Int → Int} (hF : mh_FX h) {w0 : Int → Int} (r11 : h 11 = w0) {p q v : Int} (hp : 0 ≤ p ∧ p ≤ q) (hq : q ≤ 6588) : mh_M g d yJ7_fill_bad5a cJ7_fill_bad5a 6 none 96 0 0 [.ref 11, .int (Int32.ofInt (p)), .int (Int32.ofInt (q)), .long (Int64.ofInt (v))] h (fun r h2 => r = none ∧ mh_FX h2 ∧ mh_fr [11] h h2 ∧ (∀ j, p ≤ j → j < q → h2 11 j = v) ∧ (∀ j, (j < p ∨ q ≤ j) → h2 11 j = h 11 j)) := by
  refine mh_M_ofJ RJ7 rfl (by decide +kernel) [some (.ref 11), some (.int (Int32.ofInt (p))), some (.int (Int32.ofInt (q))), some (.long (Int64.ofInt (v))), none, none] rfl (Nat.le_of_ble_eq_true rfl) (fun f F Z hn0 hR => ?_)
  refine mh_aload0 (pc := 0) F dJ7_fill_bad5a_0 ?_
  refine mh_alen (pc := 1) F sh_11 (by decide) dJ7_fill_bad5a_1 ?_
  refine mh_iload1 (pc := 2) F dJ7_fill_bad5a_2 ?_
  refine mh_iload2 (pc := 3) F dJ7_fill_bad5a_3 ?_
  refine mh_callS0 (pc := 4) (As := [.int (Int32.ofInt (((6588 : Nat) : Int))), .int (Int32.ofInt (p)), .int (Int32.ofInt (q))]) (st := []) F (by omega) (kJ_rc (by omega) hF (by omega) (by omega)) ws_RJ7_13 dJ7_fill_bad5a_4 rfl rfl (Nat.le_of_ble_eq_true rfl) ⟨Nat.zero_le _, Nat.zero_le _⟩ (fun r1 h1 q1 => ?_)
  obtain ⟨rfl, he⟩ := q1
  rw [he]
  refine mh_iload1 (pc := 7) F dJ7_fill_bad5a_7 ?_
  refine mh_istore5 (pc := 8) F dJ7_fill_bad5a_8 rfl (by decide) ?_
  have L10 : ∀ (m : Nat) (x : Int) (hg : Nat → Int → Int) (t : Int → Int), (mh_FX hg) → (mh_fr [11] h hg) → (hg 11 = t) → (p ≤ x ∧ x ≤ q) → (∀ j, p ≤ j → j < x → t j = v) → (∀ j, (j < p ∨ q ≤ j) → t j = w0 j) → (q - x).toNat = m → mh_V g f 6 96 0 0 10 [some (.ref 11), some (.int (Int32.ofInt (p))), some (.int (Int32.ofInt (q))), some (.long (Int64.ofInt (v))), none, some (.int (Int32.ofInt (x)))] [] hg := by
    intro m
    induction m using Nat.strongRecOn with
    | _ m ihL10 =>
    intro x hg t Fhg frhg q11hg hx ht ho hmz
    refine mh_iload5 (pc := 10) F dJ7_fill_bad5a_10 ?_
    refine mh_iload2 (pc := 12) F dJ7_fill_bad5a_12 ?_
    refine mh_icmp_ge (pc := 13) (tgt := 27) F dJ7_fill_bad5a_13 rfl (by omega) (by omega) (fun c_13 => ?_) (fun c_13 => ?_)
    · exact mh_return F Z dJ7_fill_bad5a_27 ⟨rfl, Fhg, frhg, (fun j j0 j1 => by rw [q11hg]; exact ht j j0 (by omega)), (fun j hj => by rw [q11hg, r11]; exact ho j hj)⟩
    · refine mh_aload0 (pc := 16) F dJ7_fill_bad5a_16 ?_
      refine mh_iload5 (pc := 17) F dJ7_fill_bad5a_17 ?_
      refine mh_lload3 (pc := 19) F dJ7_fill_bad5a_19 ?_
      refine mh_lastore (pc := 20) F sh_11 (by decide) (by omega) dJ7_fill_bad5a_20 ?_
      refine mh_nmh (fun h2 e2 => ?_)
      have F2 : mh_FX h2 := by rw [e2]; exact Fhg.upa rfl
      have r11_2 : h2 11 = mh_ur t x v := by rw [e2, mh_up_rs, q11hg]
      have fr2 : mh_fr [11] h h2 := mh_fr.upi frhg e2 (by simp)
      refine mh_iinc5 (pc := 21) F dJ7_fill_bad5a_21 rfl (by decide) ?_
      refine mh_goto (pc := 24) (tgt := 10) F dJ7_fill_bad5a_24 rfl ?_
      exact ihL10 _ (by omega) (x + 1) h2 (mh_ur t x v) F2 (fr2.mono (by simp)) r11_2 (by omega) (fun j j0 j1 => by by_cases z : j = x; exact mh_ur_eq z; rw [mh_ur_ne z]; exact ht j j0 (by omega)) (fun j hj => by rw [mh_ur_ne (by omega)]; exact ho j hj) rfl
  exact L10 _ p h w0 hF (mh_fr.rf.mono (by simp)) r11 (by omega) (fun j j0 j1 => by omega) (fun j hj => rfl) rfl

set_option maxRecDepth 100000 in
set_option maxHeartbeats 2000000 in
theorem k_forget {g : mh_G} {d : Nat} (hd : 4 ≤ d) {h : Nat → Int → Int} (hF : mh_FX h) {b l : Int} (hb : h 10 7 = b) (hbl : 0 ≤ b ∧ b ≤ l) (hl : l ≤ 8) : mh_M g d yX6_forget cX6_forget 2 none 96 0 0 [.ref 10, .int (Int32.ofInt (l))] h (fun r h2 => r = none ∧ mh_FX h2 ∧ mh_fr [11] h h2 ∧ (∀ j, b * 732 ≤ j → j < (l + 1) * 732 → h2 11 j = 0) ∧ (∀ j, (j < b * 732 ∨ (l + 1) * 732 ≤ j) → h2 11 j = h 11 j)) := by
  refine mh_M_of RX6 rfl (by decide +kernel) [some (.ref 10), some (.int (Int32.ofInt (l)))] rfl (Nat.le_of_ble_eq_true rfl) (fun f F Z hn0 hR => ?_)
  refine mh_aload0 (pc := 0) F dX6_forget_0 ?_
  refine mh_getr (b := 11) (pc := 1) F sh_10 (by decide) fw_RX6_11_6 dX6_forget_1 rfl (fx_10_0 hF) ?_
  refine mh_aload0 (pc := 4) F dX6_forget_4 ?_
  refine mh_geti (pc := 5) F sh_10 (by decide) fw_RX6_47_6 dX6_forget_5 rfl ?_
  refine mh_top (y := b) (mh_eqI hb) ?_
  refine mh_sipush (pc := 8) F dX6_forget_8 rfl ?_
  refine mh_imul (pc := 11) F dX6_forget_11 ?_
  refine mh_iconst (pc := 12) F dX6_forget_12 ?_
  refine mh_idiv (pc := 13) F dX6_forget_13 (by omega) (by omega) (by omega) ?_
  refine mh_top (y := b * 732) (mh_eqI (by rw [Int.tdiv_eq_ediv_of_nonneg (by omega)]; omega)) ?_
  refine mh_iload1 (pc := 14) F dX6_forget_14 ?_
  refine mh_iconst (pc := 15) F dX6_forget_15 ?_
  refine mh_iadd (pc := 16) F dX6_forget_16 ?_
  refine mh_sipush (pc := 17) F dX6_forget_17 rfl ?_
  refine mh_imul (pc := 20) F dX6_forget_20 ?_
  refine mh_iconst (pc := 21) F dX6_forget_21 ?_
  refine mh_idiv (pc := 22) F dX6_forget_22 (by omega) (by omega) (by omega) ?_
  refine mh_top (y := (l + 1) * 732) (mh_eqI (by rw [Int.tdiv_eq_ediv_of_nonneg (by omega)]; omega)) ?_
  refine mh_lconst (x := 0) (pc := 23) F dX6_forget_23 rfl ?_
  refine mh_callS0 (pc := 24) (As := [.ref 11, .int (Int32.ofInt (b * 732)), .int (Int32.ofInt ((l + 1) * 732)), .long (Int64.ofInt (0))]) (st := []) F (by omega) (kJ_fillR (by omega) hF rfl (by omega) (by omega)) ws_RX6_145 dX6_forget_24 rfl rfl (Nat.le_of_ble_eq_true rfl) ⟨Nat.zero_le _, Nat.zero_le _⟩ (fun r1 h1 q1 => ?_)
  obtain ⟨rfl, F1, frl1, qZ, qO⟩ := q1
  have fr2 : mh_fr [11] h h1 := (mh_fr.tr mh_fr.rf frl1).mono (by simp)
  exact mh_return F Z dX6_forget_27 ⟨rfl, F1, fr2, qZ, qO⟩

set_option maxRecDepth 100000 in
set_option maxHeartbeats 2000000 in
theorem k_prepare {g : mh_G} {d : Nat} (hd : 9 ≤ d) {h : Nat → Int → Int} (hF : mh_FX h) {s : Int → Int} {k n : Int} {w10 : Int → Int} (r10 : h 10 = w10) {w13 : Int → Int} (r13 : h 13 = w13) {w14 : Int → Int} (r14 : h 14 = w14) {w15 : Int → Int} (r15 : h 15 = w15) {c : Int → Int} (r44ktoNat : h (44 + k.toNat) = c) (hkk : 0 ≤ k ∧ k < 6) (hc : sc_ok c) (hc8 : c 3 ≤ 8) (hL : sc_L h 25 s) (hN : sc_N h 25 s) (hh : sp_hok s) (hq0 : 0 ≤ s 0 ∧ s 0 ≤ 20000) (hn : 0 ≤ n ∧ n ≤ 60) : mh_M g d yX6_prepare cX6_prepare 5 none 96 0 0 [.ref 10, .ref 25, .ref (44 + k.toNat), .int (Int32.ofInt (n))] h (fun r h2 => r = none ∧ mh_FX h2 ∧ mh_fr [10, 11, 12, 13, 14, 15, 36] h h2 ∧ (h2 10 5 = n ∧ h2 10 7 = c 3 ∧ h2 10 8 = c 7 ∧ h2 10 9 = c 8 ∧ h2 10 10 = sp_turns (c 1 - 3) (c 2)) ∧ (0 ≤ h2 10 6 ∧ h2 10 6 ≤ 60) ∧ (∀ j, 0 ≤ j → j < 4 → h2 10 6 ≤ s (33 + 2 * j) ∧ h2 14 j = s (33 + 2 * j) ∧ h2 15 j = s (33 + 2 * j) * sp_jolts (c 1 - 3) (c 2) (s (33 + 2 * j + 1))) ∧ (∀ b, c 3 ≤ b → b < 9 → h2 13 b = (if s (6 + 3 * b + 1) > 0 then 1 else 0) ∧ ∀ j, 0 ≤ j → j ≤ n → h2 12 (b * 61 + j) = sc_su s (c 1 - 3) (c 2) (s (6 + 3 * b + 0)) j.toNat) ∧ (∀ j, c 3 * 732 ≤ j → j < 6588 → h2 11 j = 0)) := by
  refine mh_M_of RX6 rfl (by decide +kernel) [some (.ref 10), some (.ref 25), some (.ref (44 + k.toNat)), some (.int (Int32.ofInt (n))), none] rfl (Nat.le_of_ble_eq_true rfl) (fun f F Z hn0 hR => ?_)
  obtain ⟨c1, c2, c3, c4, c5, c6, c7, c8, c9⟩ := id hc
  have htr := sp_turns_rg (k := c 1 - 3) c2
  refine mh_aload0 (pc := 0) F dX6_prepare_0 ?_
  refine mh_iconst (pc := 1) F dX6_prepare_1 ?_
  refine mh_bipush (pc := 2) F dX6_prepare_2 rfl ?_
  refine mh_iload3 (pc := 4) F dX6_prepare_4 ?_
  refine mh_callSp (pc := 5) (As := [.int (Int32.ofInt (60)), .int (Int32.ofInt (n))]) (st := [.int (Int32.ofInt (0)), .ref 10]) F (by omega) (k_min (by omega) (by omega) (by omega)) ws_RX6_29 dX6_prepare_5 rfl rfl (Nat.le_of_ble_eq_true rfl) ⟨Nat.zero_le _, Nat.zero_le _⟩ ?_
  refine mh_callSp (pc := 8) (As := [.int (Int32.ofInt (0)), .int (Int32.ofInt (min (60) (n)))]) (st := [.ref 10]) F (by omega) (k_max (by omega) (by omega) (by omega)) ws_RX6_35 dX6_prepare_8 rfl rfl (Nat.le_of_ble_eq_true rfl) ⟨Nat.zero_le _, Nat.zero_le _⟩ ?_
  refine mh_top (y := n) (mh_eqI (by omega)) ?_
  refine mh_puti (pc := 11) F sh_10 (by decide) pw_RX6_38_6 dX6_prepare_11 ?_
  refine mh_nmh (fun h1 e1 => ?_)
  have F1 : mh_FX h1 := by rw [e1]; exact hF.upz rfl
  have r10_1 : h1 10 = mh_ur w10 5 n := by rw [e1, mh_up_rs, r10]
  have r13_1 : h1 13 = w13 := by rw [e1, mh_up_row (by decide)]; exact r13
  have r14_1 : h1 14 = w14 := by rw [e1, mh_up_row (by decide)]; exact r14
  have r15_1 : h1 15 = w15 := by rw [e1, mh_up_row (by decide)]; exact r15
  have r44ktoNat_1 : h1 (44 + k.toNat) = c := by rw [e1, mh_up_row (by omega)]; exact r44ktoNat
  have fr1 : mh_fr [10] h h1 := mh_fr.up mh_fr.rf e1
  refine mh_aload0 (pc := 14) F dX6_prepare_14 ?_
  refine mh_iconst (pc := 15) F dX6_prepare_15 ?_
  refine mh_bipush (pc := 16) F dX6_prepare_16 rfl ?_
  refine mh_aload2 (pc := 18) F dX6_prepare_18 ?_
  refine mh_getir (pc := 19) F (sc_Aj hkk).sh (sc_Aj hkk).lt fw_RX6_42_0 dX6_prepare_19 rfl r44ktoNat_1 ?_
  refine mh_callSp (pc := 22) (As := [.int (Int32.ofInt (8)), .int (Int32.ofInt (c 3))]) (st := [.int (Int32.ofInt (0)), .ref 10]) F (by omega) (k_min (by omega) (by omega) (by omega)) ws_RX6_29 dX6_prepare_22 rfl rfl (Nat.le_of_ble_eq_true rfl) ⟨Nat.zero_le _, Nat.zero_le _⟩ ?_
  refine mh_callSp (pc := 25) (As := [.int (Int32.ofInt (0)), .int (Int32.ofInt (min (8) (c 3)))]) (st := [.ref 10]) F (by omega) (k_max (by omega) (by omega) (by omega)) ws_RX6_35 dX6_prepare_25 rfl rfl (Nat.le_of_ble_eq_true rfl) ⟨Nat.zero_le _, Nat.zero_le _⟩ ?_
  refine mh_top (y := c 3) (mh_eqI (by omega)) ?_
  refine mh_puti (pc := 28) F sh_10 (by decide) pw_RX6_47_6 dX6_prepare_28 ?_
  refine mh_nmh (fun h2 e2 => ?_)
  have F2 : mh_FX h2 := by rw [e2]; exact F1.upz rfl
  have r10_2 : h2 10 = mh_ur (mh_ur w10 5 n) 7 (c 3) := by rw [e2, mh_up_rs, r10_1]
  have r13_2 : h2 13 = w13 := by rw [e2, mh_up_row (by decide)]; exact r13_1
  have r14_2 : h2 14 = w14 := by rw [e2, mh_up_row (by decide)]; exact r14_1
  have r15_2 : h2 15 = w15 := by rw [e2, mh_up_row (by decide)]; exact r15_1
  have r44ktoNat_2 : h2 (44 + k.toNat) = c := by rw [e2, mh_up_row (by omega)]; exact r44ktoNat_1
  have fr2 : mh_fr [10] h h2 := mh_fr.upi fr1 e2 (by simp)
  refine mh_aload0 (pc := 31) F dX6_prepare_31 ?_
  refine mh_aload2 (pc := 32) F dX6_prepare_32 ?_
  refine mh_getir (pc := 33) F (sc_Aj hkk).sh (sc_Aj hkk).lt fw_RX6_50_0 dX6_prepare_33 rfl r44ktoNat_2 ?_
  refine mh_puti (pc := 36) F sh_10 (by decide) pw_RX6_53_6 dX6_prepare_36 ?_
  refine mh_nmh (fun h3 e3 => ?_)
  have F3 : mh_FX h3 := by rw [e3]; exact F2.upz rfl
  have r10_3 : h3 10 = mh_ur (mh_ur (mh_ur w10 5 n) 7 (c 3)) 8 (c 7) := by rw [e3, mh_up_rs, r10_2]
  have r13_3 : h3 13 = w13 := by rw [e3, mh_up_row (by decide)]; exact r13_2
  have r14_3 : h3 14 = w14 := by rw [e3, mh_up_row (by decide)]; exact r14_2
  have r15_3 : h3 15 = w15 := by rw [e3, mh_up_row (by decide)]; exact r15_2
  have r44ktoNat_3 : h3 (44 + k.toNat) = c := by rw [e3, mh_up_row (by omega)]; exact r44ktoNat_2
  have fr3 : mh_fr [10] h h3 := mh_fr.upi fr2 e3 (by simp)
  refine mh_aload0 (pc := 39) F dX6_prepare_39 ?_
  refine mh_aload2 (pc := 40) F dX6_prepare_40 ?_
  refine mh_getir (pc := 41) F (sc_Aj hkk).sh (sc_Aj hkk).lt fw_RX6_54_0 dX6_prepare_41 rfl r44ktoNat_3 ?_
  refine mh_puti (pc := 44) F sh_10 (by decide) pw_RX6_57_6 dX6_prepare_44 ?_
  refine mh_nmh (fun h4 e4 => ?_)
  have F4 : mh_FX h4 := by rw [e4]; exact F3.upz rfl
  have r10_4 : h4 10 = mh_ur (mh_ur (mh_ur (mh_ur w10 5 n) 7 (c 3)) 8 (c 7)) 9 (c 8) := by rw [e4, mh_up_rs, r10_3]
  have r13_4 : h4 13 = w13 := by rw [e4, mh_up_row (by decide)]; exact r13_3
  have r14_4 : h4 14 = w14 := by rw [e4, mh_up_row (by decide)]; exact r14_3
  have r15_4 : h4 15 = w15 := by rw [e4, mh_up_row (by decide)]; exact r15_3
  have r44ktoNat_4 : h4 (44 + k.toNat) = c := by rw [e4, mh_up_row (by omega)]; exact r44ktoNat_3
  have fr4 : mh_fr [10] h h4 := mh_fr.upi fr3 e4 (by simp)
  refine mh_aload0 (pc := 47) F dX6_prepare_47 ?_
  refine mh_aload2 (pc := 48) F dX6_prepare_48 ?_
  refine mh_getr (b := 2 + (c 1 - 3).toNat) (pc := 49) F (sc_Aj hkk).sh (sc_Aj hkk).lt fw_RX6_58_0 dX6_prepare_49 rfl (by rw [r44ktoNat_4]; omega) ?_
  refine mh_aload2 (pc := 52) F dX6_prepare_52 ?_
  refine mh_getir (pc := 53) F (sc_Aj hkk).sh (sc_Aj hkk).lt fw_RX6_62_0 dX6_prepare_53 rfl r44ktoNat_4 ?_
  refine kd_turns_RX6_65 (pc := 56) F (by omega) (k := (c 1 - 3)) (by omega) (by omega) dX6_prepare_56 rfl (Nat.le_of_ble_eq_true rfl) ⟨Nat.zero_le _, Nat.zero_le _⟩ ?_
  refine mh_puti (pc := 59) F sh_10 (by decide) pw_RX6_71_6 dX6_prepare_59 ?_
  refine mh_nmh (fun h5 e5 => ?_)
  have F5 : mh_FX h5 := by rw [e5]; exact F4.upz rfl
  have r10_5 : h5 10 = mh_ur (mh_ur (mh_ur (mh_ur (mh_ur w10 5 n) 7 (c 3)) 8 (c 7)) 9 (c 8)) 10 (sp_turns (c 1 - 3) (c 2)) := by rw [e5, mh_up_rs, r10_4]
  have r13_5 : h5 13 = w13 := by rw [e5, mh_up_row (by decide)]; exact r13_4
  have r14_5 : h5 14 = w14 := by rw [e5, mh_up_row (by decide)]; exact r14_4
  have r15_5 : h5 15 = w15 := by rw [e5, mh_up_row (by decide)]; exact r15_4
  have r44ktoNat_5 : h5 (44 + k.toNat) = c := by rw [e5, mh_up_row (by omega)]; exact r44ktoNat_4
  have fr5 : mh_fr [10] h h5 := mh_fr.upi fr4 e5 (by simp)
  refine mh_aload0 (pc := 62) F dX6_prepare_62 ?_
  refine mh_bipush (pc := 63) F dX6_prepare_63 rfl ?_
  refine mh_puti (pc := 65) F sh_10 (by decide) pw_RX6_73_6 dX6_prepare_65 ?_
  refine mh_nmh (fun h6 e6 => ?_)
  have F6 : mh_FX h6 := by rw [e6]; exact F5.upz rfl
  have r10_6 : h6 10 = mh_ur (mh_ur (mh_ur (mh_ur (mh_ur (mh_ur w10 5 n) 7 (c 3)) 8 (c 7)) 9 (c 8)) 10 (sp_turns (c 1 - 3) (c 2))) 6 60 := by rw [e6, mh_up_rs, r10_5]
  have r13_6 : h6 13 = w13 := by rw [e6, mh_up_row (by decide)]; exact r13_5
  have r14_6 : h6 14 = w14 := by rw [e6, mh_up_row (by decide)]; exact r14_5
  have r15_6 : h6 15 = w15 := by rw [e6, mh_up_row (by decide)]; exact r15_5
  have r44ktoNat_6 : h6 (44 + k.toNat) = c := by rw [e6, mh_up_row (by omega)]; exact r44ktoNat_5
  have fr6 : mh_fr [10] h h6 := mh_fr.upi fr5 e6 (by simp)
  obtain ⟨z10, ez10⟩ : ∃ z : Int → Int, z = mh_ur (mh_ur (mh_ur (mh_ur (mh_ur (mh_ur w10 5 n) 7 (c 3)) 8 (c 7)) 9 (c 8)) 10 (sp_turns (c 1 - 3) (c 2))) 6 60 := ⟨_, rfl⟩
  rw [← ez10] at r10_6
  have hz10 : z10 5 = n ∧ z10 7 = c 3 ∧ z10 8 = c 7 ∧ z10 9 = c 8 ∧ z10 10 = sp_turns (c 1 - 3) (c 2) := by rw [ez10]; refine ⟨?_, ?_, ?_, ?_, ?_⟩ <;> (repeat (first | rw [mh_ur_ne (by decide)] | rw [mh_ur_eq rfl]))
  have hz6 : z10 6 = 60 := by rw [ez10, mh_ur_eq rfl]
  refine mh_iconst (pc := 68) F dX6_prepare_68 ?_
  refine mh_istore4 (pc := 69) F dX6_prepare_69 rfl (by decide) ?_
  have L71 : ∀ (m : Nat) (y : Int) (hg : Nat → Int → Int) (t10 : Int → Int) (t14 : Int → Int) (t15 : Int → Int), (mh_FX hg) → (mh_fr [10, 14, 15] h hg) → (hg 10 = t10) → (hg 13 = w13) → (hg 14 = t14) → (hg 15 = t15) → (hg (44 + k.toNat) = c) → (0 ≤ y ∧ y ≤ 4) → (t10 5 = n ∧ t10 7 = c 3 ∧ t10 8 = c 7 ∧ t10 9 = c 8 ∧ t10 10 = sp_turns (c 1 - 3) (c 2)) → (0 ≤ t10 6 ∧ t10 6 ≤ 60) → (∀ j, 0 ≤ j → j < y → t10 6 ≤ s (33 + 2 * j)) → (∀ j, 0 ≤ j → j < y → t14 j = s (33 + 2 * j)) → (∀ j, 0 ≤ j → j < y → t15 j = s (33 + 2 * j) * sp_jolts (c 1 - 3) (c 2) (s (33 + 2 * j + 1))) → (4 - y).toNat = m → mh_V g f 5 96 0 0 71 [some (.ref 10), some (.ref 25), some (.ref (44 + k.toNat)), some (.int (Int32.ofInt (n))), some (.int (Int32.ofInt (y)))] [] hg := by
    intro m
    induction m using Nat.strongRecOn with
    | _ m ihL71 =>
    intro y hg t10 t14 t15 Fhg frhg q10hg q13hg q14hg q15hg q44ktoNathg hy zk10 hq6 hqm zk14 zk15 hmz
    refine mh_iload4 (pc := 71) F dX6_prepare_71 ?_
    refine mh_iconst (pc := 73) F dX6_prepare_73 ?_
    refine mh_icmp_ge (pc := 74) (tgt := 148) F dX6_prepare_74 rfl (by omega) (by omega) (fun c_74 => ?_) (fun c_74 => ?_)
    · refine mh_aload0 (pc := 148) F dX6_prepare_148 ?_
      refine mh_getir (pc := 149) F sh_10 (by decide) fw_RX6_47_6 dX6_prepare_149 rfl q10hg ?_
      refine mh_top (y := c 3) (mh_eqI zk10.2.1) ?_
      refine mh_istore4 (pc := 152) F dX6_prepare_152 rfl (by decide) ?_
      have L154 : ∀ (m : Nat) (y : Int) (hm : Nat → Int → Int) (t13 : Int → Int), (mh_FX hm) → (mh_fr [36, 12, 13, 10, 14, 15] h hm) → (hm 10 = t10) → (hm 13 = t13) → (hm 14 = t14) → (hm 15 = t15) → (hm (44 + k.toNat) = c) → (c 3 ≤ y ∧ y ≤ 9) → (hm 10 = t10) → (hm 14 = t14) → (hm 15 = t15) → (∀ b, c 3 ≤ b → b < y → t13 b = (if s (6 + 3 * b + 1) > 0 then 1 else 0)) → (∀ b, c 3 ≤ b → b < y → ∀ j, 0 ≤ j → j ≤ n → hm 12 (b * 61 + j) = sc_su s (c 1 - 3) (c 2) (s (6 + 3 * b + 0)) j.toNat) → (9 - y).toNat = m → mh_V g f 5 96 0 0 154 [some (.ref 10), some (.ref 25), some (.ref (44 + k.toNat)), some (.int (Int32.ofInt (n))), some (.int (Int32.ofInt (y)))] [] hm := by
        intro m
        induction m using Nat.strongRecOn with
        | _ m ihL154 =>
        intro y hm t13 Fhm frhm q10hm q13hm q14hm q15hm q44ktoNathm hy g10 g14 g15 zk13 zk12 hmz
        refine mh_iload4 (pc := 154) F dX6_prepare_154 ?_
        refine mh_bipush (pc := 156) F dX6_prepare_156 rfl ?_
        refine mh_icmp_ge (pc := 158) (tgt := 204) F dX6_prepare_158 rfl (by omega) (by omega) (fun c_158 => ?_) (fun c_158 => ?_)
        · refine mh_aload0 (pc := 204) F dX6_prepare_204 ?_
          refine mh_bipush (pc := 205) F dX6_prepare_205 rfl ?_
          refine mh_callV0 (pc := 207) (As := [.int (Int32.ofInt (8))]) (st := []) F (by omega) (k_forget (by omega) Fhm (show hm 10 7 = c 3 by rw [q10hm]; exact zk10.2.1) (by omega) (by omega)) wv_RX6_94_yX6_forget dX6_prepare_207 sh_10 rfl (by decide) rfl rfl (Nat.le_of_ble_eq_true rfl) ⟨Nat.zero_le _, Nat.zero_le _⟩ (fun r7 h7 q7 => ?_)
          obtain ⟨rfl, F7, frl7, qZ7, qO7⟩ := q7
          have r10_8 : h7 10 = t10 := (frl7 _ (by decide)).trans q10hm
          have r13_8 : h7 13 = t13 := (frl7 _ (by decide)).trans q13hm
          have r14_8 : h7 14 = t14 := (frl7 _ (by decide)).trans q14hm
          have r15_8 : h7 15 = t15 := (frl7 _ (by decide)).trans q15hm
          have r44ktoNat_8 : h7 (44 + k.toNat) = c := (frl7 _ (by simp; omega)).trans q44ktoNathm
          have fr8 : mh_fr [11, 36, 12, 13, 10, 14, 15] h h7 := (mh_fr.tr frhm frl7).mono (by simp)
          exact mh_return F Z dX6_prepare_210 ⟨rfl, F7, (fr8.mono (by simp)), (by rw [r10_8]; exact zk10), (by rw [r10_8]; exact hq6), (fun j j0 j1 => by rw [r10_8, r14_8, r15_8]; exact ⟨hqm j j0 (by omega), zk14 j j0 (by omega), zk15 j j0 (by omega)⟩), (fun b b0 b1 => by rw [r13_8, (show h7 12 = hm 12 from frl7 12 (by simp))]; exact ⟨zk13 b b0 (by omega), zk12 b b0 (by omega)⟩), (fun j j0 j1 => qZ7 j j0 (by omega))⟩
        · have hLh : h 26 y = s (6 + 3 * y + 0) ∧ h 27 y = s (6 + 3 * y + 1) ∧ h 28 y = s (6 + 3 * y + 2) := hL.1 y (by omega) (by omega)
          have hhh := hh.1 y (by omega) (by omega)
          refine mh_aload0 (pc := 161) F dX6_prepare_161 ?_
          refine mh_getr (b := 13) (pc := 162) F sh_10 (by decide) fw_RX6_19_6 dX6_prepare_162 rfl (fx_10_2 Fhm) ?_
          refine mh_iload4 (pc := 165) F dX6_prepare_165 ?_
          refine mh_aload1 (pc := 167) F dX6_prepare_167 ?_
          refine mh_getr (b := 27) (pc := 168) F sh_25 (by decide) fw_RX6_84_10 dX6_prepare_168 rfl (fx_25_1 Fhm) ?_
          refine mh_iload4 (pc := 171) F dX6_prepare_171 ?_
          refine mh_iaload (pc := 173) F sh_27 (by decide) (by omega) dX6_prepare_173 ?_
          refine mh_top (y := s (6 + 3 * y + 1)) (mh_eqI (by rw [frhm 27 (by simp)]; exact hLh.2.1)) ?_
          refine mh_if_le (pc := 174) (tgt := 181) F dX6_prepare_174 rfl (by omega) (fun c_174 => ?_) (fun c_174 => ?_)
          · refine mh_iconst (pc := 181) F dX6_prepare_181 ?_
            refine mh_zastore (pc := 182) F sh_13 (by decide) (by omega) dX6_prepare_182 (by omega) ?_
            refine mh_nmh (fun h9 e9 => ?_)
            have F9 : mh_FX h9 := by rw [e9]; exact Fhm.upa rfl
            have r10_9 : h9 10 = t10 := by rw [e9, mh_up_row (by decide)]; exact q10hm
            have r13_9 : h9 13 = mh_ur t13 y 0 := by rw [e9, mh_up_rs, q13hm]
            have r14_9 : h9 14 = t14 := by rw [e9, mh_up_row (by decide)]; exact q14hm
            have r15_9 : h9 15 = t15 := by rw [e9, mh_up_row (by decide)]; exact q15hm
            have r44ktoNat_9 : h9 (44 + k.toNat) = c := by rw [e9, mh_up_row (by omega)]; exact q44ktoNathm
            have fr9 : mh_fr [36, 12, 13, 10, 14, 15] h h9 := mh_fr.upi frhm e9 (by simp)
            refine mh_aload0 (pc := 183) F dX6_prepare_183 ?_
            refine mh_aload1 (pc := 184) F dX6_prepare_184 ?_
            refine mh_aload2 (pc := 185) F dX6_prepare_185 ?_
            refine mh_iload4 (pc := 186) F dX6_prepare_186 ?_
            refine mh_aload1 (pc := 188) F dX6_prepare_188 ?_
            refine mh_getr (b := 26) (pc := 189) F sh_25 (by decide) fw_RX6_87_10 dX6_prepare_189 rfl (fx_25_0 F9) ?_
            refine mh_iload4 (pc := 192) F dX6_prepare_192 ?_
            refine mh_iaload (pc := 194) F sh_26 (by decide) (by omega) dX6_prepare_194 ?_
            refine mh_top (y := s (6 + 3 * y + 0)) (mh_eqI (by rw [fr9 26 (by simp)]; exact hLh.1)) ?_
            refine mh_callV0 (pc := 195) (As := [.ref 25, .ref (44 + k.toNat), .int (Int32.ofInt (y)), .int (Int32.ofInt (s (6 + 3 * y + 0)))]) (st := []) F (by omega) (k_sumUp (s := s) (n := n) (by omega) F9 rfl r44ktoNat_9 hkk hc (hL.of (fun x hx => fr9 x (by simp; omega))) (by unfold sc_N; rw [fr9 25 (by simp)]; exact hN) hq0 (by omega) (by omega) (by rw [r10_9]; exact zk10.1) hn) wv_RX6_90_yX6_sumUp dX6_prepare_195 sh_10 rfl (by decide) rfl rfl (Nat.le_of_ble_eq_true rfl) ⟨Nat.zero_le _, Nat.zero_le _⟩ (fun r10 h10 q10 => ?_)
            obtain ⟨rfl, F10, frs10, qS10, qT10⟩ := q10
            have r10_11 : h10 10 = t10 := (frs10 _ (by decide)).trans r10_9
            have r13_11 : h10 13 = mh_ur t13 y 0 := (frs10 _ (by decide)).trans r13_9
            have r14_11 : h10 14 = t14 := (frs10 _ (by decide)).trans r14_9
            have r15_11 : h10 15 = t15 := (frs10 _ (by decide)).trans r15_9
            have r44ktoNat_11 : h10 (44 + k.toNat) = c := (frs10 _ (by simp; omega)).trans r44ktoNat_9
            have fr11 : mh_fr [36, 12, 13, 10, 14, 15] h h10 := (mh_fr.tr fr9 frs10).mono (by simp)
            have zk13n : ∀ b, c 3 ≤ b → b < y + 1 → (mh_ur t13 y 0) b = (if s (6 + 3 * b + 1) > 0 then 1 else 0) := fun b b0 b1 => by by_cases z : b = y; rw [mh_ur_eq z, z]; (first | (rw [if_pos (by omega)]) | (rw [if_neg (by omega)])); rw [mh_ur_ne z]; exact zk13 b b0 (by omega)
            have zk12n : ∀ b, c 3 ≤ b → b < y + 1 → ∀ j, 0 ≤ j → j ≤ n → h10 12 (b * 61 + j) = sc_su s (c 1 - 3) (c 2) (s (6 + 3 * b + 0)) j.toNat := fun b b0 b1 j j0 j1 => by by_cases z : b = y; subst z; exact qS10 j j0 j1; rw [qT10 _ (by omega), congrFun (show h9 12 = hm 12 from by rw [e9, mh_up_row (by decide)]) _]; exact zk12 b b0 (by omega) j j0 j1
            refine mh_iinc4 (pc := 198) F dX6_prepare_198 rfl (by decide) ?_
            refine mh_goto (pc := 201) (tgt := 154) F dX6_prepare_201 rfl ?_
            exact ihL154 _ (by omega) (y + 1) h10 (mh_ur t13 y 0) F10 (fr11.mono (by simp)) r10_11 r13_11 r14_11 r15_11 r44ktoNat_11 (by omega) r10_11 r14_11 r15_11 zk13n zk12n rfl
          · refine mh_iconst (pc := 177) F dX6_prepare_177 ?_
            refine mh_goto (pc := 178) (tgt := 182) F dX6_prepare_178 rfl ?_
            refine mh_zastore (pc := 182) F sh_13 (by decide) (by omega) dX6_prepare_182 (by omega) ?_
            refine mh_nmh (fun h12 e12 => ?_)
            have F12 : mh_FX h12 := by rw [e12]; exact Fhm.upa rfl
            have r10_12 : h12 10 = t10 := by rw [e12, mh_up_row (by decide)]; exact q10hm
            have r13_12 : h12 13 = mh_ur t13 y 1 := by rw [e12, mh_up_rs, q13hm]
            have r14_12 : h12 14 = t14 := by rw [e12, mh_up_row (by decide)]; exact q14hm
            have r15_12 : h12 15 = t15 := by rw [e12, mh_up_row (by decide)]; exact q15hm
            have r44ktoNat_12 : h12 (44 + k.toNat) = c := by rw [e12, mh_up_row (by omega)]; exact q44ktoNathm
            have fr12 : mh_fr [36, 12, 13, 10, 14, 15] h h12 := mh_fr.upi frhm e12 (by simp)
            refine mh_aload0 (pc := 183) F dX6_prepare_183 ?_
            refine mh_aload1 (pc := 184) F dX6_prepare_184 ?_
            refine mh_aload2 (pc := 185) F dX6_prepare_185 ?_
            refine mh_iload4 (pc := 186) F dX6_prepare_186 ?_
            refine mh_aload1 (pc := 188) F dX6_prepare_188 ?_
            refine mh_getr (b := 26) (pc := 189) F sh_25 (by decide) fw_RX6_87_10 dX6_prepare_189 rfl (fx_25_0 F12) ?_
            refine mh_iload4 (pc := 192) F dX6_prepare_192 ?_
            refine mh_iaload (pc := 194) F sh_26 (by decide) (by omega) dX6_prepare_194 ?_
            refine mh_top (y := s (6 + 3 * y + 0)) (mh_eqI (by rw [fr12 26 (by simp)]; exact hLh.1)) ?_
            refine mh_callV0 (pc := 195) (As := [.ref 25, .ref (44 + k.toNat), .int (Int32.ofInt (y)), .int (Int32.ofInt (s (6 + 3 * y + 0)))]) (st := []) F (by omega) (k_sumUp (s := s) (n := n) (by omega) F12 rfl r44ktoNat_12 hkk hc (hL.of (fun x hx => fr12 x (by simp; omega))) (by unfold sc_N; rw [fr12 25 (by simp)]; exact hN) hq0 (by omega) (by omega) (by rw [r10_12]; exact zk10.1) hn) wv_RX6_90_yX6_sumUp dX6_prepare_195 sh_10 rfl (by decide) rfl rfl (Nat.le_of_ble_eq_true rfl) ⟨Nat.zero_le _, Nat.zero_le _⟩ (fun r13 h13 q13 => ?_)
            obtain ⟨rfl, F13, frs13, qS13, qT13⟩ := q13
            have r10_14 : h13 10 = t10 := (frs13 _ (by decide)).trans r10_12
            have r13_14 : h13 13 = mh_ur t13 y 1 := (frs13 _ (by decide)).trans r13_12
            have r14_14 : h13 14 = t14 := (frs13 _ (by decide)).trans r14_12
            have r15_14 : h13 15 = t15 := (frs13 _ (by decide)).trans r15_12
            have r44ktoNat_14 : h13 (44 + k.toNat) = c := (frs13 _ (by simp; omega)).trans r44ktoNat_12
            have fr14 : mh_fr [36, 12, 13, 10, 14, 15] h h13 := (mh_fr.tr fr12 frs13).mono (by simp)
            have zk13n : ∀ b, c 3 ≤ b → b < y + 1 → (mh_ur t13 y 1) b = (if s (6 + 3 * b + 1) > 0 then 1 else 0) := fun b b0 b1 => by by_cases z : b = y; rw [mh_ur_eq z, z]; (first | (rw [if_pos (by omega)]) | (rw [if_neg (by omega)])); rw [mh_ur_ne z]; exact zk13 b b0 (by omega)
            have zk12n : ∀ b, c 3 ≤ b → b < y + 1 → ∀ j, 0 ≤ j → j ≤ n → h13 12 (b * 61 + j) = sc_su s (c 1 - 3) (c 2) (s (6 + 3 * b + 0)) j.toNat := fun b b0 b1 j j0 j1 => by by_cases z : b = y; subst z; exact qS13 j j0 j1; rw [qT13 _ (by omega), congrFun (show h12 12 = hm 12 from by rw [e12, mh_up_row (by decide)]) _]; exact zk12 b b0 (by omega) j j0 j1
            refine mh_iinc4 (pc := 198) F dX6_prepare_198 rfl (by decide) ?_
            refine mh_goto (pc := 201) (tgt := 154) F dX6_prepare_201 rfl ?_
            exact ihL154 _ (by omega) (y + 1) h13 (mh_ur t13 y 1) F13 (fr14.mono (by simp)) r10_14 r13_14 r14_14 r15_14 r44ktoNat_14 (by omega) r10_14 r14_14 r15_14 zk13n zk12n rfl
      exact L154 _ (c 3) hg w13 Fhg (frhg.mono (by simp)) q10hg q13hg q14hg q15hg q44ktoNathg (by omega) q10hg q14hg q15hg (fun j j0 j1 => by omega) (fun j j0 j1 => by omega) rfl
    · have hLy : h 29 y = s (33 + 2 * y) ∧ h 30 y = s (33 + 2 * y + 1) := hL.2.1 y (by omega) (by omega)
      have hL29 : hg 29 y = s (33 + 2 * y) := by rw [frhg 29 (by simp)]; exact hLy.1
      have hpc := (hh.2 y (by omega) (by omega)).1
      have hsh := (hh.2 y (by omega) (by omega)).2
      refine mh_aload0 (pc := 77) F dX6_prepare_77 ?_
      refine mh_getr (b := 14) (pc := 78) F sh_10 (by decide) fw_RX6_23_6 dX6_prepare_78 rfl (fx_10_3 Fhg) ?_
      refine mh_iload4 (pc := 81) F dX6_prepare_81 ?_
      refine mh_aload1 (pc := 83) F dX6_prepare_83 ?_
      refine mh_getr (b := 29) (pc := 84) F sh_25 (by decide) fw_RX6_76_10 dX6_prepare_84 rfl (fx_25_3 Fhg) ?_
      refine mh_iload4 (pc := 87) F dX6_prepare_87 ?_
      refine mh_iaload (pc := 89) F sh_29 (by decide) (by omega) dX6_prepare_89 ?_
      refine mh_top (y := s (33 + 2 * y)) (mh_eqI (by rw [frhg 29 (by simp)]; exact hLy.1)) ?_
      refine mh_iastore (pc := 90) F sh_14 (by decide) (by omega) dX6_prepare_90 ?_
      refine mh_nmh (fun h15 e15 => ?_)
      have F15 : mh_FX h15 := by rw [e15]; exact Fhg.upa rfl
      have r10_15 : h15 10 = t10 := by rw [e15, mh_up_row (by decide)]; exact q10hg
      have r13_15 : h15 13 = w13 := by rw [e15, mh_up_row (by decide)]; exact q13hg
      have r14_15 : h15 14 = mh_ur t14 y (s (33 + 2 * y)) := by rw [e15, mh_up_rs, q14hg]
      have r15_15 : h15 15 = t15 := by rw [e15, mh_up_row (by decide)]; exact q15hg
      have r44ktoNat_15 : h15 (44 + k.toNat) = c := by rw [e15, mh_up_row (by omega)]; exact q44ktoNathg
      have fr15 : mh_fr [10, 14, 15] h h15 := mh_fr.upi frhg e15 (by simp)
      refine mh_aload0 (pc := 91) F dX6_prepare_91 ?_
      refine mh_getr (b := 15) (pc := 92) F sh_10 (by decide) fw_RX6_26_6 dX6_prepare_92 rfl (fx_10_4 F15) ?_
      refine mh_iload4 (pc := 95) F dX6_prepare_95 ?_
      refine mh_aload1 (pc := 97) F dX6_prepare_97 ?_
      refine mh_getr (b := 29) (pc := 98) F sh_25 (by decide) fw_RX6_76_10 dX6_prepare_98 rfl (fx_25_3 F15) ?_
      refine mh_iload4 (pc := 101) F dX6_prepare_101 ?_
      refine mh_iaload (pc := 103) F sh_29 (by decide) (by omega) dX6_prepare_103 ?_
      refine mh_top (y := s (33 + 2 * y)) (mh_eqI (by rw [fr15 29 (by simp)]; exact hLy.1)) ?_
      refine mh_aload2 (pc := 104) F dX6_prepare_104 ?_
      refine mh_getr (b := 2 + (c 1 - 3).toNat) (pc := 105) F (sc_Aj hkk).sh (sc_Aj hkk).lt fw_RX6_58_0 dX6_prepare_105 rfl (by rw [r44ktoNat_15]; omega) ?_
      refine mh_aload1 (pc := 108) F dX6_prepare_108 ?_
      refine mh_getr (b := 30) (pc := 109) F sh_25 (by decide) fw_RX6_79_10 dX6_prepare_109 rfl (fx_25_4 F15) ?_
      refine mh_iload4 (pc := 112) F dX6_prepare_112 ?_
      refine mh_iaload (pc := 114) F sh_30 (by decide) (by omega) dX6_prepare_114 ?_
      refine mh_top (y := s (33 + 2 * y + 1)) (mh_eqI (by rw [fr15 30 (by simp)]; exact hLy.2)) ?_
      refine mh_aload2 (pc := 115) F dX6_prepare_115 ?_
      refine mh_getir (pc := 116) F (sc_Aj hkk).sh (sc_Aj hkk).lt fw_RX6_62_0 dX6_prepare_116 rfl r44ktoNat_15 ?_
      refine kd_jolts_RX6_82 (pc := 119) F (by omega) (k := (c 1 - 3)) (by omega) (by omega) (by omega) dX6_prepare_119 rfl (Nat.le_of_ble_eq_true rfl) ⟨Nat.zero_le _, Nat.zero_le _⟩ ?_
      refine mh_imul (pc := 122) F dX6_prepare_122 ?_
      refine mh_iastore (pc := 123) F sh_15 (by decide) (by omega) dX6_prepare_123 ?_
      refine mh_nmh (fun h16 e16 => ?_)
      have F16 : mh_FX h16 := by rw [e16]; exact F15.upa rfl
      have r10_16 : h16 10 = t10 := by rw [e16, mh_up_row (by decide)]; exact r10_15
      have r13_16 : h16 13 = w13 := by rw [e16, mh_up_row (by decide)]; exact r13_15
      have r14_16 : h16 14 = mh_ur t14 y (s (33 + 2 * y)) := by rw [e16, mh_up_row (by decide)]; exact r14_15
      have r15_16 : h16 15 = mh_ur t15 y ((s (33 + 2 * y)) * (sp_jolts (c 1 - 3) (c 2) (s (33 + 2 * y + 1)))) := by rw [e16, mh_up_rs, r15_15]
      have r44ktoNat_16 : h16 (44 + k.toNat) = c := by rw [e16, mh_up_row (by omega)]; exact r44ktoNat_15
      have fr16 : mh_fr [10, 14, 15] h h16 := mh_fr.upi fr15 e16 (by simp)
      refine mh_aload0 (pc := 124) F dX6_prepare_124 ?_
      refine mh_aload0 (pc := 125) F dX6_prepare_125 ?_
      refine mh_getir (pc := 126) F sh_10 (by decide) fw_RX6_73_6 dX6_prepare_126 rfl r10_16 ?_
      refine mh_aload0 (pc := 129) F dX6_prepare_129 ?_
      refine mh_getr (b := 14) (pc := 130) F sh_10 (by decide) fw_RX6_23_6 dX6_prepare_130 rfl (fx_10_3 F16) ?_
      refine mh_iload4 (pc := 133) F dX6_prepare_133 ?_
      refine mh_ialoadr (pc := 135) F sh_14 (by decide) (by omega) dX6_prepare_135 r14_16 ?_
      refine mh_top (y := s (33 + 2 * y)) (mh_eqI (mh_ur_eq rfl)) ?_
      refine mh_callSp (pc := 136) (As := [.int (Int32.ofInt (t10 6)), .int (Int32.ofInt (s (33 + 2 * y)))]) (st := [.ref 10]) F (by omega) (k_min (by omega) (by omega) (by omega)) ws_RX6_29 dX6_prepare_136 rfl rfl (Nat.le_of_ble_eq_true rfl) ⟨Nat.zero_le _, Nat.zero_le _⟩ ?_
      refine mh_puti (pc := 139) F sh_10 (by decide) pw_RX6_73_6 dX6_prepare_139 ?_
      refine mh_nmh (fun h17 e17 => ?_)
      have F17 : mh_FX h17 := by rw [e17]; exact F16.upz rfl
      have r10_17 : h17 10 = mh_ur t10 6 (min (t10 6) (s (33 + 2 * y))) := by rw [e17, mh_up_rs, r10_16]
      have r13_17 : h17 13 = w13 := by rw [e17, mh_up_row (by decide)]; exact r13_16
      have r14_17 : h17 14 = mh_ur t14 y (s (33 + 2 * y)) := by rw [e17, mh_up_row (by decide)]; exact r14_16
      have r15_17 : h17 15 = mh_ur t15 y ((s (33 + 2 * y)) * (sp_jolts (c 1 - 3) (c 2) (s (33 + 2 * y + 1)))) := by rw [e17, mh_up_row (by decide)]; exact r15_16
      have r44ktoNat_17 : h17 (44 + k.toNat) = c := by rw [e17, mh_up_row (by omega)]; exact r44ktoNat_16
      have fr17 : mh_fr [10, 14, 15] h h17 := mh_fr.upi fr16 e17 (by simp)
      refine mh_iinc4 (pc := 142) F dX6_prepare_142 rfl (by decide) ?_
      refine mh_goto (pc := 145) (tgt := 71) F dX6_prepare_145 rfl ?_
      exact ihL71 _ (by omega) (y + 1) h17 (mh_ur t10 6 (min (t10 6) (s (33 + 2 * y)))) (mh_ur t14 y (s (33 + 2 * y))) (mh_ur t15 y ((s (33 + 2 * y)) * (sp_jolts (c 1 - 3) (c 2) (s (33 + 2 * y + 1))))) F17 (fr17.mono (by simp)) r10_17 r13_17 r14_17 r15_17 r44ktoNat_17 (by omega) (by rw [mh_ur_ne (by decide), mh_ur_ne (by decide), mh_ur_ne (by decide), mh_ur_ne (by decide), mh_ur_ne (by decide)]; exact zk10) (by rw [mh_ur_eq rfl]; omega) (fun j j0 j1 => by rw [mh_ur_eq rfl]; by_cases z : j = y; subst z; omega; have := hqm j j0 (by omega); omega) (fun j j0 j1 => by by_cases z : j = y; rw [mh_ur_eq z, z]; rw [mh_ur_ne z]; exact zk14 j j0 (by omega)) (fun j j0 j1 => by by_cases z : j = y; rw [mh_ur_eq z, z]; rw [mh_ur_ne z]; exact zk15 j j0 (by omega)) rfl
  exact L71 _ 0 h6 z10 w14 w15 F6 (fr6.mono (by simp)) r10_6 r13_6 r14_6 r15_6 r44ktoNat_6 (by omega) hz10 (by omega) (fun j j0 j1 => by omega) (fun j j0 j1 => by omega) (fun j j0 j1 => by omega) rfl

