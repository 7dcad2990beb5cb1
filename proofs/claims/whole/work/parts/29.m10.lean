set_option maxRecDepth 100000 in
set_option maxHeartbeats 4000000 in
theorem p_check {g : mh_G} {d : Nat} (hd : 10 ≤ d) {h : Nat → Int → Int} (hF : mh_FX h) {s : Int → Int} (r82 : h 82 = s) {er : Int → Int} (r85 : h 85 = er) {z : Int → Int} (r84 : h 84 = z)  (hq9 : s 0 ≤ 9999) (h5 : 0 ≤ s 5 ∧ s 5 ≤ 20) (h247r : ∀ i, 0 ≤ i → i < 20 → -2147483648 ≤ s (247 + i) ∧ s (247 + i) < 2147483648) (hi : sp_inv s) : mh_M g d yX12_check cX12_check 3 (some .int) 96 0 0 [.ref 81] h (fun r h2 => ∃ (vv : Int) (t0 : Int → Int) (t1 : Int → Int), (vv, t0, t1) = sp_checkP  s er ∧ r = some (.int (Int32.ofInt vv)) ∧ mh_FX h2 ∧ mh_fr [82, 84, 85, 86, 87] h h2 ∧ h2 82 = t0 ∧ h2 85 = t1) := by
  refine mh_M_of RX12 rfl (by decide +kernel) [some (.ref 81), none, none] rfl (Nat.le_of_ble_eq_true rfl) (fun f F Z hn0 hR => ?_)
  have hib := sp_inv_b hi
  have hm := hi.1
  have hq0 := hi.2.1
  have hws := hi.2.2.2.2.2
  obtain ⟨hH, hC⟩ := hi.2.2.2.1
  have hs1 := hi.2.2.1
  refine mh_aload0 (pc := 0) F dX12_check_0 ?_
  refine mh_callV0 (pc := 1) (As := []) (st := []) F (by omega) (k_lends (by omega) hF r82 r84 ) wv_RX12_277_yX12_lends dX12_check_1 sh_81 rfl (by decide) rfl rfl (Nat.le_of_ble_eq_true rfl) ⟨Nat.zero_le _, Nat.zero_le _⟩ (fun r1 h1 q1 => ?_)
  obtain ⟨rfl, F1, fr1, q1_0⟩ := q1
  have r82_2 : h1 82 = s := (fr1 _ (by decide)).trans r82
  have r85_2 : h1 85 = er := (fr1 _ (by decide)).trans r85
  have fr2 : mh_fr [84] h h1 := (mh_fr.tr mh_fr.rf fr1).mono (by simp)
  refine mh_iconst (pc := 4) F dX12_check_4 ?_
  refine mh_istore1 (pc := 5) F dX12_check_5 rfl (by decide) ?_
  refine mh_iconst (pc := 6) F dX12_check_6 ?_
  refine mh_istore2 (pc := 7) F dX12_check_7 rfl (by decide) ?_
  have L8 : ∀ (m : Nat) (q : Int) (x : Int) (hh : Nat → Int → Int) (t : Int → Int), (mh_FX hh) → (mh_fr [84, 82, 86, 87] h hh) → (hh 82 = t) → (hh 85 = er) → (hh 84 = mh_cp 267 s z) → (0 ≤ x ∧ x ≤ s 5) → (t = sp_aqs s x.toNat) → (q = sp_chk s x.toNat) → (s 5 - x).toNat = m → mh_V g f 3 96 0 0 8 [some (.ref 81), some (.int (Int32.ofInt (q))), some (.int (Int32.ofInt (x)))] [] hh := by
    intro m
    induction m using Nat.strongRecOn with
    | _ m ihL8 =>
    intro q x hh t Fhh frhh q82hh q85hh q84hh hx ht hq hmz
    refine mh_iload2 (pc := 8) F dX12_check_8 ?_
    obtain ⟨zHI, ha0, ha3⟩ := sp_aqs_all hi x.toNat (by omega)
    rw [← ht] at zHI ha0 ha3
    have ha5 : t 5 = s 5 := by rw [ht]; exact sp_aqs_wt s hm x.toNat 5 (by decide) (by decide) (by decide)
    have hcr := sp_chk_rg s x.toNat
    rw [← hq] at hcr
    refine mh_aload0 (pc := 9) F dX12_check_9 ?_
    refine mh_getr (b := 82) (pc := 10) F sh_81 (by decide) fw_RX12_9_12 dX12_check_10 rfl (fx_81_0 Fhh) ?_
    refine mh_iconst (pc := 13) F dX12_check_13 ?_
    refine mh_ialoadr (pc := 14) F sh_82 (by decide) (by omega) dX12_check_14 q82hh ?_
    refine mh_icmp_ge (pc := 15) (tgt := 55) F dX12_check_15 rfl (by omega) (by omega) (fun c_15 => ?_) (fun c_15 => ?_)
    · refine mh_aload0 (pc := 55) F dX12_check_55 ?_
      refine mh_callV0 (pc := 56) (As := []) (st := []) F (by omega) (k_laysBack (by omega) Fhh q84hh q82hh ) wv_RX12_280_yX12_laysBack dX12_check_56 sh_81 rfl (by decide) rfl rfl (Nat.le_of_ble_eq_true rfl) ⟨Nat.zero_le _, Nat.zero_le _⟩ (fun r3 h3 q3 => ?_)
      obtain ⟨rfl, F3, fr3, q3_0⟩ := q3
      have r85_4 : h3 85 = er := (fr3 _ (by decide)).trans q85hh
      have r84_4 : h3 84 = mh_cp 267 s z := (fr3 _ (by decide)).trans q84hh
      have fr4 : mh_fr [84, 82, 86, 87] h h3 := (mh_fr.tr frhh fr3).mono (by simp)
      rw [mh_cp_back (fun i hi2 => by rw [ht]; exact (sp_aqs_far s hm x.toNat i hi2).1)] at q3_0
      refine mh_aload0 (pc := 59) F dX12_check_59 ?_
      refine mh_getr (b := 82) (pc := 60) F sh_81 (by decide) fw_RX12_9_12 dX12_check_60 rfl (fx_81_0 F3) ?_
      refine mh_iconst (pc := 63) F dX12_check_63 ?_
      refine mh_iconst (pc := 64) F dX12_check_64 ?_
      refine mh_iastore (pc := 65) F sh_82 (by decide) (by omega) dX12_check_65 ?_
      refine mh_nmh (fun h5 e5 => ?_)
      have F5 : mh_FX h5 := by rw [e5]; exact F3.upa rfl
      have r85_5 : h5 85 = er := by rw [e5, mh_up_row (by decide)]; exact r85_4
      have r84_5 : h5 84 = mh_cp 267 s z := by rw [e5, mh_up_row (by decide)]; exact r84_4
      have r82_5 : h5 82 = mh_ur s 5 0 := by rw [e5, mh_up_rs, q3_0]
      have fr5 : mh_fr [84, 82, 86, 87] h h5 := mh_fr.upi fr4 e5 (by simp)
      refine mh_iload1 (pc := 66) F dX12_check_66 ?_
      refine mh_iconst (pc := 67) F dX12_check_67 ?_
      refine mh_iadd (pc := 68) F dX12_check_68 ?_
      exact mh_ireturn F Z dX12_check_69 ⟨_, _, _, (by unfold sp_checkP; rw [show sp_chk s (s 5).toNat = q from by first | (rw [hq, show x = s 5 by omega]; done) | (rw [hq, show (s 5).toNat = x.toNat + ((s 5).toNat - x.toNat) by omega]; exact sp_chk_stay s _ _ (by omega))]), rfl, F5, (fr5.mono (by simp)), r82_5, r85_5⟩
    · refine mh_iload1 (pc := 18) F dX12_check_18 ?_
      refine mh_if_ge (pc := 19) (tgt := 55) F dX12_check_19 rfl (by omega) (fun c_19 => ?_) (fun c_19 => ?_)
      · refine mh_aload0 (pc := 55) F dX12_check_55 ?_
        refine mh_callV0 (pc := 56) (As := []) (st := []) F (by omega) (k_laysBack (by omega) Fhh q84hh q82hh ) wv_RX12_280_yX12_laysBack dX12_check_56 sh_81 rfl (by decide) rfl rfl (Nat.le_of_ble_eq_true rfl) ⟨Nat.zero_le _, Nat.zero_le _⟩ (fun r6 h6 q6 => ?_)
        obtain ⟨rfl, F6, fr6, q6_0⟩ := q6
        have r85_7 : h6 85 = er := (fr6 _ (by decide)).trans q85hh
        have r84_7 : h6 84 = mh_cp 267 s z := (fr6 _ (by decide)).trans q84hh
        have fr7 : mh_fr [84, 82, 86, 87] h h6 := (mh_fr.tr frhh fr6).mono (by simp)
        rw [mh_cp_back (fun i hi2 => by rw [ht]; exact (sp_aqs_far s hm x.toNat i hi2).1)] at q6_0
        refine mh_aload0 (pc := 59) F dX12_check_59 ?_
        refine mh_getr (b := 82) (pc := 60) F sh_81 (by decide) fw_RX12_9_12 dX12_check_60 rfl (fx_81_0 F6) ?_
        refine mh_iconst (pc := 63) F dX12_check_63 ?_
        refine mh_iconst (pc := 64) F dX12_check_64 ?_
        refine mh_iastore (pc := 65) F sh_82 (by decide) (by omega) dX12_check_65 ?_
        refine mh_nmh (fun h8 e8 => ?_)
        have F8 : mh_FX h8 := by rw [e8]; exact F6.upa rfl
        have r85_8 : h8 85 = er := by rw [e8, mh_up_row (by decide)]; exact r85_7
        have r84_8 : h8 84 = mh_cp 267 s z := by rw [e8, mh_up_row (by decide)]; exact r84_7
        have r82_8 : h8 82 = mh_ur s 5 0 := by rw [e8, mh_up_rs, q6_0]
        have fr8 : mh_fr [84, 82, 86, 87] h h8 := mh_fr.upi fr7 e8 (by simp)
        refine mh_iload1 (pc := 66) F dX12_check_66 ?_
        refine mh_iconst (pc := 67) F dX12_check_67 ?_
        refine mh_iadd (pc := 68) F dX12_check_68 ?_
        exact mh_ireturn F Z dX12_check_69 ⟨_, _, _, (by unfold sp_checkP; rw [show sp_chk s (s 5).toNat = q from by first | (rw [hq, show x = s 5 by omega]; done) | (rw [hq, show (s 5).toNat = x.toNat + ((s 5).toNat - x.toNat) by omega]; exact sp_chk_stay s _ _ (by omega))]), rfl, F8, (fr8.mono (by simp)), r82_8, r85_8⟩
      · refine mh_aload0 (pc := 22) F dX12_check_22 ?_
        refine mh_callV0 (pc := 23) (As := []) (st := []) F (by omega) (k_aQuarter (by omega) Fhh q82hh zHI) wv_RX12_265_yX12_aQuarter dX12_check_23 sh_81 rfl (by decide) rfl rfl (Nat.le_of_ble_eq_true rfl) ⟨Nat.zero_le _, Nat.zero_le _⟩ (fun r9 h9 q9 => ?_)
        obtain ⟨rfl, F9, fr9, q9_0⟩ := q9
        have r85_10 : h9 85 = er := (fr9 _ (by decide)).trans q85hh
        have r84_10 : h9 84 = mh_cp 267 s z := (fr9 _ (by decide)).trans q84hh
        have fr10 : mh_fr [84, 82, 86, 87] h h9 := (mh_fr.tr frhh fr9).mono (by simp)
        have h247 : sp_aq t (247 + x) = s (247 + x) := by rw [sp_aq_out zHI.1 _ (by omega) (by omega) (by omega), ht]; exact sp_aqs_wt s hm x.toNat _ (by omega) (by omega) (by omega)
        have h247x := h247r x (by omega) (by omega)
        have zHJ := sp_aq_inv zHI (by omega)
        have hsr := sp_sum_rg (s := sp_aq t) (fun j j0 j1 => (zHJ.2.2.2.2.1 j j0 j1).2.2.2.2.2.1) (sp_aq t 3).toNat (by have := zHJ.1; omega)
        have hm3 := zHJ.1
        have hal : 0 ≤ sp_all (sp_aq t) ∧ sp_all (sp_aq t) ≤ 59994 := by unfold sp_all; omega
        refine mh_aload0 (pc := 26) F dX12_check_26 ?_
        refine mh_getr (b := 82) (pc := 27) F sh_81 (by decide) fw_RX12_9_12 dX12_check_27 rfl (fx_81_0 F9) ?_
        refine mh_sipush (pc := 30) F dX12_check_30 rfl ?_
        refine mh_iload2 (pc := 33) F dX12_check_33 ?_
        refine mh_iadd (pc := 34) F dX12_check_34 ?_
        refine mh_ialoadr (pc := 35) F sh_82 (by decide) (by omega) dX12_check_35 q9_0 ?_
        refine mh_aload0 (pc := 36) F dX12_check_36 ?_
        refine mh_callVp (pc := 37) (As := []) (st := [.int (Int32.ofInt ((sp_aq t) (247 + x)))]) F (by omega) (k_allSour (by omega) F9 q9_0 (by omega)) wv_RX12_401_yX12_allSour dX12_check_37 sh_81 rfl (by decide) rfl rfl (Nat.le_of_ble_eq_true rfl) ⟨Nat.zero_le _, Nat.zero_le _⟩ ?_
        refine mh_icmp_ne (pc := 40) (tgt := 47) F dX12_check_40 rfl (by omega) (by omega) (fun c_40 => ?_) (fun c_40 => ?_)
        · refine mh_iload2 (pc := 47) F dX12_check_47 ?_
          refine mh_istore1 (pc := 48) F dX12_check_48 rfl (by decide) ?_
          refine mh_iinc2 (pc := 49) F dX12_check_49 rfl (by decide) ?_
          refine mh_goto (pc := 52) (tgt := 8) F dX12_check_52 rfl ?_
          exact ihL8 _ (by omega) x (x + 1) h9 (sp_aq t) F9 (fr10.mono (by simp)) q9_0 r85_10 r84_10 (by omega) (by rw [sp_aqs_at _ hx.1, ← ht]) (by rw [sp_chk_at s hx.1 (by omega), ← ht, ← h247]; first | (rw [if_pos (by omega)]; done) | (rw [if_neg (by omega)]; done)) rfl
        · refine mh_iconst (pc := 43) F dX12_check_43 ?_
          refine mh_goto (pc := 44) (tgt := 48) F dX12_check_44 rfl ?_
          refine mh_istore1 (pc := 48) F dX12_check_48 rfl (by decide) ?_
          refine mh_iinc2 (pc := 49) F dX12_check_49 rfl (by decide) ?_
          refine mh_goto (pc := 52) (tgt := 8) F dX12_check_52 rfl ?_
          exact ihL8 _ (by omega) (-1) (x + 1) h9 (sp_aq t) F9 (fr10.mono (by simp)) q9_0 r85_10 r84_10 (by omega) (by rw [sp_aqs_at _ hx.1, ← ht]) (by rw [sp_chk_at s hx.1 (by omega), ← ht, ← h247]; first | (rw [if_pos (by omega)]; done) | (rw [if_neg (by omega)]; done)) rfl
  exact L8 _ (-1) 0 h1 s F1 (fr2.mono (by simp)) r82_2 r85_2 q1_0 (by omega) rfl rfl rfl

set_option maxRecDepth 100000 in
set_option maxHeartbeats 4000000 in
theorem p_told {g : mh_G} {d : Nat} (hd : 9 ≤ d) {h : Nat → Int → Int} (hF : mh_FX h) {s : Int → Int} (r82 : h 82 = s) {er : Int → Int} (r85 : h 85 = er) {x : Int} (hx : -2147483648 ≤ x ∧ x < 2147483648) (hi : sp_inv s) : mh_M g d yX12_told_ cX12_told_ 2 (some .int) 96 0 0 [.ref 81, .int (Int32.ofInt (x))] h (fun r h2 => ∃ (vv : Int) (tt ee : Int → Int), (vv, tt, ee) = sp_toldP x s er ∧ r = some (.int (Int32.ofInt vv)) ∧ mh_FX h2 ∧ mh_fr [82, 85, 86, 87] h h2 ∧ h2 82 = tt ∧ h2 85 = ee) := by
  refine mh_M_of RX12 rfl (by decide +kernel) [some (.ref 81), some (.int (Int32.ofInt (x)))] rfl (Nat.le_of_ble_eq_true rfl) (fun f F Z hn0 hR => ?_)
  have hib := sp_inv_b hi
  have hm := hi.1
  have hq0 := hi.2.1
  have hws := hi.2.2.2.2.2
  obtain ⟨hH, hC⟩ := hi.2.2.2.1
  have hs1 := hi.2.2.1
  refine mh_iload1 (pc := 0) F dX12_told__0 ?_
  refine mh_i2l (pc := 1) F dX12_told__1 (by omega) ?_
  refine mh_lconst (x := 1) (pc := 2) F dX12_told__2 rfl ?_
  refine mh_ldc2 (x := 5) (pc := 3) F dX12_told__3 tw_7_222 ?_
  refine mh_callSp (pc := 6) (As := [.long (Int64.ofInt (x)), .long (Int64.ofInt (1)), .long (Int64.ofInt (5))]) (st := []) F (by omega) (k_in (by omega) (by omega) (by omega) (by omega)) ws_RX12_69 dX12_told__6 rfl rfl (Nat.le_of_ble_eq_true rfl) ⟨Nat.zero_le _, Nat.zero_le _⟩ ?_
  refine mh_ifb_eq (pc := 9) (tgt := 21) F dX12_told__9 rfl (fun c_9 => ?_) (fun c_9 => ?_)
  · refine mh_aload0 (pc := 21) F dX12_told__21 ?_
    refine mh_iconst (pc := 22) F dX12_told__22 ?_
    refine mh_callV0 (pc := 23) (As := [.int (Int32.ofInt (1))]) (st := []) F (by omega) (k_error (by omega) hF r85 (by omega)) wv_RX12_114_yX12_error dX12_told__23 sh_81 rfl (by decide) rfl rfl (Nat.le_of_ble_eq_true rfl) ⟨Nat.zero_le _, Nat.zero_le _⟩ (fun r1 h1 q1 => ?_)
    obtain ⟨rfl, F1, fr1, q1_0⟩ := q1
    have r82_2 : h1 82 = s := (fr1 _ (by decide)).trans r82
    have fr2 : mh_fr [85] h h1 := (mh_fr.tr mh_fr.rf fr1).mono (by simp)
    exact mh_ireturn F Z dX12_told__26 ⟨_, _, _, (by unfold sp_toldP; (repeat' split) <;> first | rfl | (exfalso; omega)), rfl, F1, (fr2.mono (by simp)), r82_2, q1_0⟩
  · refine mh_aload0 (pc := 12) F dX12_told__12 ?_
    refine mh_getr (b := 85) (pc := 13) F sh_81 (by decide) fw_RX12_19_12 dX12_told__13 rfl (fx_81_5 hF) ?_
    refine mh_iload1 (pc := 16) F dX12_told__16 ?_
    refine mh_ialoadr (pc := 17) F sh_85 (by decide) (by omega) dX12_told__17 r85 ?_
    refine mh_goto (pc := 18) (tgt := 26) F dX12_told__18 rfl ?_
    exact mh_ireturn F Z dX12_told__26 ⟨_, _, _, (by unfold sp_toldP; (repeat' split) <;> first | rfl | (exfalso; omega)), rfl, hF, (mh_fr.rf.mono (by simp)), r82, r85⟩

set_option maxRecDepth 100000 in
set_option maxHeartbeats 4000000 in
theorem p_count {g : mh_G} {d : Nat} (hd : 10 ≤ d) {h : Nat → Int → Int} (hF : mh_FX h) {s : Int → Int} (r82 : h 82 = s) {er : Int → Int} (r85 : h 85 = er) {o : Int → Int} (r81 : h 81 = o) {x : Int} (hx : -2147483648 ≤ x ∧ x < 2147483648) (hi : sp_inv s) : mh_M g d yX12_count cX12_count 2 (some .int) 96 0 0 [.ref 81, .int (Int32.ofInt (x))] h (fun r h2 => ∃ (vv : Int) (t0 : Int → Int) (t1 : Int → Int), (vv, t0, t1) = sp_count x s er o ∧ r = some (.int (Int32.ofInt vv)) ∧ mh_FX h2 ∧ mh_fr [82, 85, 86, 87] h h2 ∧ h2 82 = t0 ∧ h2 85 = t1) := by
  refine mh_M_of RX12 rfl (by decide +kernel) [some (.ref 81), some (.int (Int32.ofInt (x)))] rfl (Nat.le_of_ble_eq_true rfl) (fun f F Z hn0 hR => ?_)
  have hib := sp_inv_b hi
  have hm := hi.1
  have hq0 := hi.2.1
  have hws := hi.2.2.2.2.2
  obtain ⟨hH, hC⟩ := hi.2.2.2.1
  have hs1 := hi.2.2.1
  have hcc := hi.2.2.2.2.1
  refine mh_iload1 (pc := 0) F dX12_count_0 ?_
  by_cases c_1_0 : x = 0
  · refine mh_tabIn (pc := 1) (off := 55) (tgt := 56) F dX12_count_1 (by omega) (by omega) (by omega) (by rw [c_1_0]; rfl) rfl ?_
    refine mh_aload0 (pc := 56) F dX12_count_56 ?_
    refine mh_getr (b := 82) (pc := 57) F sh_81 (by decide) fw_RX12_9_12 dX12_count_57 rfl (fx_81_0 hF) ?_
    refine mh_iconst (pc := 60) F dX12_count_60 ?_
    refine mh_ialoadr (pc := 61) F sh_82 (by decide) (by omega) dX12_count_61 r82 ?_
    exact mh_ireturn F Z dX12_count_62 ⟨_, _, _, (by unfold sp_count; (repeat' split) <;> first | rfl | (exfalso; omega)), rfl, hF, (mh_fr.rf.mono (by simp)), r82, r85⟩
  by_cases c_1_1 : x = 1
  · refine mh_tabIn (pc := 1) (off := 62) (tgt := 63) F dX12_count_1 (by omega) (by omega) (by omega) (by rw [c_1_1]; rfl) rfl ?_
    refine mh_aload0 (pc := 63) F dX12_count_63 ?_
    refine mh_getr (b := 82) (pc := 64) F sh_81 (by decide) fw_RX12_9_12 dX12_count_64 rfl (fx_81_0 hF) ?_
    refine mh_iconst (pc := 67) F dX12_count_67 ?_
    refine mh_ialoadr (pc := 68) F sh_82 (by decide) (by omega) dX12_count_68 r82 ?_
    exact mh_ireturn F Z dX12_count_69 ⟨_, _, _, (by unfold sp_count; (repeat' split) <;> first | rfl | (exfalso; omega)), rfl, hF, (mh_fr.rf.mono (by simp)), r82, r85⟩
  by_cases c_1_2 : x = 2
  · refine mh_tabIn (pc := 1) (off := 69) (tgt := 70) F dX12_count_1 (by omega) (by omega) (by omega) (by rw [c_1_2]; rfl) rfl ?_
    refine mh_aload0 (pc := 70) F dX12_count_70 ?_
    refine mh_getr (b := 82) (pc := 71) F sh_81 (by decide) fw_RX12_9_12 dX12_count_71 rfl (fx_81_0 hF) ?_
    refine mh_iconst (pc := 74) F dX12_count_74 ?_
    refine mh_ialoadr (pc := 75) F sh_82 (by decide) (by omega) dX12_count_75 r82 ?_
    exact mh_ireturn F Z dX12_count_76 ⟨_, _, _, (by unfold sp_count; (repeat' split) <;> first | rfl | (exfalso; omega)), rfl, hF, (mh_fr.rf.mono (by simp)), r82, r85⟩
  by_cases c_1_3 : x = 3
  · refine mh_tabIn (pc := 1) (off := 76) (tgt := 77) F dX12_count_1 (by omega) (by omega) (by omega) (by rw [c_1_3]; rfl) rfl ?_
    refine mh_aload0 (pc := 77) F dX12_count_77 ?_
    refine mh_iconst (pc := 78) F dX12_count_78 ?_
    refine mh_callVp (pc := 79) (As := [.int (Int32.ofInt (3))]) (st := []) F (by omega) (k_howMany (by omega) hF r82 (by omega) hcc (by omega)) wv_RX12_404_yX12_howMany dX12_count_79 sh_81 rfl (by decide) rfl rfl (Nat.le_of_ble_eq_true rfl) ⟨Nat.zero_le _, Nat.zero_le _⟩ ?_
    exact mh_ireturn F Z dX12_count_82 ⟨_, _, _, (by unfold sp_count; (repeat' split) <;> first | rfl | (exfalso; omega)), rfl, hF, (mh_fr.rf.mono (by simp)), r82, r85⟩
  by_cases c_1_4 : x = 4
  · refine mh_tabIn (pc := 1) (off := 82) (tgt := 83) F dX12_count_1 (by omega) (by omega) (by omega) (by rw [c_1_4]; rfl) rfl ?_
    refine mh_aload0 (pc := 83) F dX12_count_83 ?_
    refine mh_iconst (pc := 84) F dX12_count_84 ?_
    refine mh_callVp (pc := 85) (As := [.int (Int32.ofInt (2))]) (st := []) F (by omega) (k_howMany (by omega) hF r82 (by omega) hcc (by omega)) wv_RX12_404_yX12_howMany dX12_count_85 sh_81 rfl (by decide) rfl rfl (Nat.le_of_ble_eq_true rfl) ⟨Nat.zero_le _, Nat.zero_le _⟩ ?_
    exact mh_ireturn F Z dX12_count_88 ⟨_, _, _, (by unfold sp_count; (repeat' split) <;> first | rfl | (exfalso; omega)), rfl, hF, (mh_fr.rf.mono (by simp)), r82, r85⟩
  by_cases c_1_5 : x = 5
  · refine mh_tabIn (pc := 1) (off := 88) (tgt := 89) F dX12_count_1 (by omega) (by omega) (by omega) (by rw [c_1_5]; rfl) rfl ?_
    refine mh_aload0 (pc := 89) F dX12_count_89 ?_
    refine mh_callVp (pc := 90) (As := []) (st := []) F (by omega) (k_sweet (by omega) hF r82 (by omega) hcc) wv_RX12_407_yX12_sweet dX12_count_90 sh_81 rfl (by decide) rfl rfl (Nat.le_of_ble_eq_true rfl) ⟨Nat.zero_le _, Nat.zero_le _⟩ ?_
    exact mh_ireturn F Z dX12_count_93 ⟨_, _, _, (by unfold sp_count; (repeat' split) <;> first | rfl | (exfalso; omega)), rfl, hF, (mh_fr.rf.mono (by simp)), r82, r85⟩
  by_cases c_1_6 : x = 6
  · refine mh_tabIn (pc := 1) (off := 93) (tgt := 94) F dX12_count_1 (by omega) (by omega) (by omega) (by rw [c_1_6]; rfl) rfl ?_
    refine mh_aload0 (pc := 94) F dX12_count_94 ?_
    refine mh_getr (b := 82) (pc := 95) F sh_81 (by decide) fw_RX12_9_12 dX12_count_95 rfl (fx_81_0 hF) ?_
    refine mh_iconst (pc := 98) F dX12_count_98 ?_
    refine mh_ialoadr (pc := 99) F sh_82 (by decide) (by omega) dX12_count_99 r82 ?_
    exact mh_ireturn F Z dX12_count_100 ⟨_, _, _, (by unfold sp_count; (repeat' split) <;> first | rfl | (exfalso; omega)), rfl, hF, (mh_fr.rf.mono (by simp)), r82, r85⟩
  by_cases c_1_7 : x = 7
  · refine mh_tabIn (pc := 1) (off := 100) (tgt := 101) F dX12_count_1 (by omega) (by omega) (by omega) (by rw [c_1_7]; rfl) rfl ?_
    refine mh_aload0 (pc := 101) F dX12_count_101 ?_
    refine mh_getr (b := 82) (pc := 102) F sh_81 (by decide) fw_RX12_9_12 dX12_count_102 rfl (fx_81_0 hF) ?_
    refine mh_iconst (pc := 105) F dX12_count_105 ?_
    refine mh_ialoadr (pc := 106) F sh_82 (by decide) (by omega) dX12_count_106 r82 ?_
    exact mh_ireturn F Z dX12_count_107 ⟨_, _, _, (by unfold sp_count; (repeat' split) <;> first | rfl | (exfalso; omega)), rfl, hF, (mh_fr.rf.mono (by simp)), r82, r85⟩
  by_cases c_1_8 : x = 8
  · refine mh_tabIn (pc := 1) (off := 107) (tgt := 108) F dX12_count_1 (by omega) (by omega) (by omega) (by rw [c_1_8]; rfl) rfl ?_
    refine mh_aload0 (pc := 108) F dX12_count_108 ?_
    refine mh_getir (pc := 109) F sh_81 (by decide) fw_RX12_345_12 dX12_count_109 rfl r81 ?_
    exact mh_ireturn F Z dX12_count_112 ⟨_, _, _, (by unfold sp_count; (repeat' split) <;> first | rfl | (exfalso; omega)), rfl, hF, (mh_fr.rf.mono (by simp)), r82, r85⟩
  by_cases c_1_9 : x = 9
  · refine mh_tabIn (pc := 1) (off := 112) (tgt := 113) F dX12_count_1 (by omega) (by omega) (by omega) (by rw [c_1_9]; rfl) rfl ?_
    refine mh_aload0 (pc := 113) F dX12_count_113 ?_
    refine mh_getr (b := 82) (pc := 114) F sh_81 (by decide) fw_RX12_9_12 dX12_count_114 rfl (fx_81_0 hF) ?_
    refine mh_iconst (pc := 117) F dX12_count_117 ?_
    refine mh_ialoadr (pc := 118) F sh_82 (by decide) (by omega) dX12_count_118 r82 ?_
    exact mh_ireturn F Z dX12_count_119 ⟨_, _, _, (by unfold sp_count; (repeat' split) <;> first | rfl | (exfalso; omega)), rfl, hF, (mh_fr.rf.mono (by simp)), r82, r85⟩
  refine mh_tabOut (pc := 1) (tgt := 120) F dX12_count_1 (by omega) (by omega) rfl ?_
  refine mh_aload0 (pc := 120) F dX12_count_120 ?_
  refine mh_iconst (pc := 121) F dX12_count_121 ?_
  refine mh_callV0 (pc := 122) (As := [.int (Int32.ofInt (1))]) (st := []) F (by omega) (k_error (by omega) hF r85 (by omega)) wv_RX12_114_yX12_error dX12_count_122 sh_81 rfl (by decide) rfl rfl (Nat.le_of_ble_eq_true rfl) ⟨Nat.zero_le _, Nat.zero_le _⟩ (fun r1 h1 q1 => ?_)
  obtain ⟨rfl, F1, fr1, q1_0⟩ := q1
  have r82_2 : h1 82 = s := (fr1 _ (by decide)).trans r82
  have r81_2 : h1 81 = o := (fr1 _ (by decide)).trans r81
  have fr2 : mh_fr [85] h h1 := (mh_fr.tr mh_fr.rf fr1).mono (by simp)
  exact mh_ireturn F Z dX12_count_125 ⟨_, _, _, (by unfold sp_count; (repeat' split) <;> first | rfl | (exfalso; omega)), rfl, F1, (fr2.mono (by simp)), r82_2, q1_0⟩

def sp_image (s kp o : Int → Int) : Int × (Int → Int) × (Int → Int) := (o 4 + 1, mh_cp 267 s kp, mh_ur (mh_ur o 3 1) 4 (o 4 + 1))
def sp_restore (s er kp o : Int → Int) : Int × (Int → Int) × (Int → Int) := if o 3 = 0 then sp_er s er 2 else (kp 0, mh_cp 267 kp s, er)
set_option maxRecDepth 100000 in
set_option maxHeartbeats 4000000 in
theorem p_image {g : mh_G} {d : Nat} (hd : 10 ≤ d) {h : Nat → Int → Int} (hF : mh_FX h) {s : Int → Int} (r82 : h 82 = s) {kp : Int → Int} (r83 : h 83 = kp) {o : Int → Int} (r81 : h 81 = o)   : mh_M g d yX12_image cX12_image 1 (some .int) 96 0 0 [.ref 81] h (fun r h2 => ∃ (vv : Int) (t0 : Int → Int) (t1 : Int → Int), (vv, t0, t1) = sp_image  s kp o ∧ r = some (.int (Int32.ofInt vv)) ∧ mh_FX h2 ∧ mh_fr [81, 83] h h2 ∧ h2 83 = t0 ∧ h2 81 = t1) := by
  refine mh_M_of RX12 rfl (by decide +kernel) [some (.ref 81)] rfl (Nat.le_of_ble_eq_true rfl) (fun f F Z hn0 hR => ?_)
  refine mh_aload0 (pc := 0) F dX12_image_0 ?_
  refine mh_getr (b := 82) (pc := 1) F sh_81 (by decide) fw_RX12_9_12 dX12_image_1 rfl (fx_81_0 hF) ?_
  refine mh_aload0 (pc := 4) F dX12_image_4 ?_
  refine mh_getr (b := 83) (pc := 5) F sh_81 (by decide) fw_RX12_13_12 dX12_image_5 rfl (fx_81_1 hF) ?_
  refine mh_callS0 (pc := 8) (As := [.ref 82, .ref 83]) (st := []) F (by omega) (k_cp_82_83 (by omega) hF r82 r83) ws_RX12_63 dX12_image_8 rfl rfl (Nat.le_of_ble_eq_true rfl) ⟨Nat.zero_le _, Nat.zero_le _⟩ (fun r1 h1 q1 => ?_)
  obtain ⟨rfl, F1, fr1, q1_0⟩ := q1
  have r82_2 : h1 82 = s := (fr1 _ (by decide)).trans r82
  have r81_2 : h1 81 = o := (fr1 _ (by decide)).trans r81
  have fr2 : mh_fr [83] h h1 := (mh_fr.tr mh_fr.rf fr1).mono (by simp)
  refine mh_aload0 (pc := 11) F dX12_image_11 ?_
  refine mh_iconst (pc := 12) F dX12_image_12 ?_
  refine mh_putz (pc := 13) F sh_81 (by decide) pw_RX12_395_12 dX12_image_13 (by omega) ?_
  refine mh_nmh (fun h3 e3 => ?_)
  have F3 : mh_FX h3 := by rw [e3]; exact F1.upz rfl
  have r82_3 : h3 82 = s := by rw [e3, mh_up_row (by decide)]; exact r82_2
  have r81_3 : h3 81 = mh_ur o 3 1 := by rw [e3, mh_up_rs, r81_2]
  obtain ⟨o1, eo1⟩ : ∃ z : Int → Int, z = mh_ur o 3 1 := ⟨_, rfl⟩
  rw [← eo1] at r81_3
  have r83_3 : h3 83 = mh_cp 267 s kp := by rw [e3, mh_up_row (by decide)]; exact q1_0
  have fr3 : mh_fr [81, 83] h h3 := mh_fr.up fr2 e3
  have o14 : o1 4 = o 4 := by rw [eo1]; exact mh_ur_ne (by decide)
  refine mh_aload0 (pc := 16) F dX12_image_16 ?_
  refine mh_dup (pc := 17) F dX12_image_17 rfl ?_
  refine mh_getir (pc := 18) F sh_81 (by decide) fw_RX12_398_12 dX12_image_18 rfl r81_3 ?_
  refine mh_iconst (pc := 21) F dX12_image_21 ?_
  refine mh_iadd (pc := 22) F dX12_image_22 ?_
  refine mh_puti (pc := 23) F sh_81 (by decide) pw_RX12_398_12 dX12_image_23 ?_
  refine mh_nmh (fun h4 e4 => ?_)
  have F4 : mh_FX h4 := by rw [e4]; exact F3.upz rfl
  have r82_4 : h4 82 = s := by rw [e4, mh_up_row (by decide)]; exact r82_3
  have r81_4 : h4 81 = mh_ur o1 4 ((o1 4) + 1) := by rw [e4, mh_up_rs, r81_3]
  obtain ⟨o2, eo2⟩ : ∃ z : Int → Int, z = mh_ur o1 4 ((o1 4) + 1) := ⟨_, rfl⟩
  rw [← eo2] at r81_4
  have r83_4 : h4 83 = mh_cp 267 s kp := by rw [e4, mh_up_row (by decide)]; exact r83_3
  have fr4 : mh_fr [81, 83] h h4 := mh_fr.upi fr3 e4 (by simp)
  have o24 : o2 4 = o 4 + 1 := by rw [eo2, mh_ur_eq rfl, o14]
  refine mh_aload0 (pc := 26) F dX12_image_26 ?_
  refine mh_getir (pc := 27) F sh_81 (by decide) fw_RX12_398_12 dX12_image_27 rfl r81_4 ?_
  exact mh_ireturn F Z dX12_image_30 ⟨_, _, _, (by unfold sp_image; rw [o24, eo2, o14, eo1]), rfl, F4, (fr4.mono (by simp)), r83_4, r81_4⟩

set_option maxRecDepth 100000 in
set_option maxHeartbeats 4000000 in
theorem p_restore {g : mh_G} {d : Nat} (hd : 10 ≤ d) {h : Nat → Int → Int} (hF : mh_FX h) {s : Int → Int} (r82 : h 82 = s) {er : Int → Int} (r85 : h 85 = er) {kp : Int → Int} (r83 : h 83 = kp) {o : Int → Int} (r81 : h 81 = o)  (h3 : 0 ≤ o 3 ∧ o 3 ≤ 1) : mh_M g d yX12_restore cX12_restore 1 (some .int) 96 0 0 [.ref 81] h (fun r h2 => ∃ (vv : Int) (t0 : Int → Int) (t1 : Int → Int), (vv, t0, t1) = sp_restore  s er kp o ∧ r = some (.int (Int32.ofInt vv)) ∧ mh_FX h2 ∧ mh_fr [82, 85] h h2 ∧ h2 82 = t0 ∧ h2 85 = t1) := by
  refine mh_M_of RX12 rfl (by decide +kernel) [some (.ref 81)] rfl (Nat.le_of_ble_eq_true rfl) (fun f F Z hn0 hR => ?_)
  refine mh_aload0 (pc := 0) F dX12_restore_0 ?_
  refine mh_getir (pc := 1) F sh_81 (by decide) fw_RX12_395_12 dX12_restore_1 rfl r81 ?_
  refine mh_if_ne (pc := 4) (tgt := 13) F dX12_restore_4 rfl (by omega) (fun c_4 => ?_) (fun c_4 => ?_)
  · refine mh_aload0 (pc := 13) F dX12_restore_13 ?_
    refine mh_getr (b := 83) (pc := 14) F sh_81 (by decide) fw_RX12_13_12 dX12_restore_14 rfl (fx_81_1 hF) ?_
    refine mh_aload0 (pc := 17) F dX12_restore_17 ?_
    refine mh_getr (b := 82) (pc := 18) F sh_81 (by decide) fw_RX12_9_12 dX12_restore_18 rfl (fx_81_0 hF) ?_
    refine mh_callS0 (pc := 21) (As := [.ref 83, .ref 82]) (st := []) F (by omega) (k_cp_83_82 (by omega) hF r83 r82) ws_RX12_63 dX12_restore_21 rfl rfl (Nat.le_of_ble_eq_true rfl) ⟨Nat.zero_le _, Nat.zero_le _⟩ (fun r1 h1 q1 => ?_)
    obtain ⟨rfl, F1, fr1, q1_0⟩ := q1
    have r85_2 : h1 85 = er := (fr1 _ (by decide)).trans r85
    have r83_2 : h1 83 = kp := (fr1 _ (by decide)).trans r83
    have r81_2 : h1 81 = o := (fr1 _ (by decide)).trans r81
    have fr2 : mh_fr [82] h h1 := (mh_fr.tr mh_fr.rf fr1).mono (by simp)
    refine mh_aload0 (pc := 24) F dX12_restore_24 ?_
    refine mh_getr (b := 82) (pc := 25) F sh_81 (by decide) fw_RX12_9_12 dX12_restore_25 rfl (fx_81_0 F1) ?_
    refine mh_iconst (pc := 28) F dX12_restore_28 ?_
    refine mh_ialoadr (pc := 29) F sh_82 (by decide) (by omega) dX12_restore_29 q1_0 ?_
    exact mh_ireturn F Z dX12_restore_30 ⟨_, _, _, (by unfold sp_restore; (repeat' split) <;> first | rfl | (exfalso; omega)), rfl, F1, (fr2.mono (by simp)), q1_0, r85_2⟩
  · refine mh_aload0 (pc := 7) F dX12_restore_7 ?_
    refine mh_iconst (pc := 8) F dX12_restore_8 ?_
    refine mh_callV0 (pc := 9) (As := [.int (Int32.ofInt (2))]) (st := []) F (by omega) (k_error (by omega) hF r85 (by omega)) wv_RX12_114_yX12_error dX12_restore_9 sh_81 rfl (by decide) rfl rfl (Nat.le_of_ble_eq_true rfl) ⟨Nat.zero_le _, Nat.zero_le _⟩ (fun r3 h3 q3 => ?_)
    obtain ⟨rfl, F3, fr3, q3_0⟩ := q3
    have r82_4 : h3 82 = s := (fr3 _ (by decide)).trans r82
    have r83_4 : h3 83 = kp := (fr3 _ (by decide)).trans r83
    have r81_4 : h3 81 = o := (fr3 _ (by decide)).trans r81
    have fr4 : mh_fr [85] h h3 := (mh_fr.tr mh_fr.rf fr3).mono (by simp)
    exact mh_ireturn F Z dX12_restore_12 ⟨_, _, _, (by unfold sp_restore; (repeat' split) <;> first | rfl | (exfalso; omega)), rfl, F3, (fr4.mono (by simp)), r82_4, q3_0⟩

def sp_byte (x i : Int) : Int := mh_l2i (mh_land (mh_lshr x (8 * i)) 255)
def sp_feeds (x : Int) (s : Int → Int) : Nat → Int → Int
  | 0 => s
  | i + 1 => mh_ur (mh_ur (sp_feeds x s i) (197 + sp_feeds x s i 4) (sp_byte x (i : Int))) 4 (mh_ur (sp_feeds x s i) (197 + sp_feeds x s i 4) (sp_byte x (i : Int)) 4 + 1)
theorem sp_feeds_at (x : Int) (s : Int → Int) {k : Int} (h : 0 ≤ k) : sp_feeds x s (k + 1).toNat = mh_ur (mh_ur (sp_feeds x s k.toNat) (197 + sp_feeds x s k.toNat 4) (sp_byte x k)) 4 (mh_ur (sp_feeds x s k.toNat) (197 + sp_feeds x s k.toNat 4) (sp_byte x k) 4 + 1) := by
  rw [show (k + 1).toNat = k.toNat + 1 by omega]
  show mh_ur (mh_ur _ _ (sp_byte x (k.toNat : Int))) 4 (mh_ur _ _ (sp_byte x (k.toNat : Int)) 4 + 1) = _
  rw [Int.toNat_of_nonneg h]
theorem sp_feeds_4 (x : Int) (s : Int → Int) (hs : 0 ≤ s 4) (n : Nat) : sp_feeds x s n 4 = s 4 + n := by
  induction n with
  | zero => simp [sp_feeds]
  | succ n ih =>
    show mh_ur _ 4 _ 4 = _
    rw [mh_ur_eq rfl, mh_ur_ne (by omega), ih]; omega
def sp_feed (x n : Int) (s er : Int → Int) : Int × (Int → Int) × (Int → Int) :=
  if ¬ (1 ≤ n ∧ n ≤ 8) then sp_er s er 1 else if 50 < s 4 + n then sp_er s er 4 else (sp_feeds x s n.toNat 4, sp_feeds x s n.toNat, er)
set_option maxRecDepth 100000 in
set_option maxHeartbeats 4000000 in
theorem p_feed {g : mh_G} {d : Nat} (hd : 9 ≤ d) {h : Nat → Int → Int} (hF : mh_FX h) {s : Int → Int} (r82 : h 82 = s) {er : Int → Int} (r85 : h 85 = er) {x n : Int} (hn : -2147483648 ≤ n ∧ n < 2147483648) (h4 : 0 ≤ s 4 ∧ s 4 ≤ 50) (hi : sp_inv s) : mh_M g d yX12_feed cX12_feed 5 (some .int) 96 0 0 [.ref 81, .long (Int64.ofInt (x)), .int (Int32.ofInt (n))] h (fun r h2 => ∃ (vv : Int) (tt ee : Int → Int), (vv, tt, ee) = sp_feed x n s er ∧ r = some (.int (Int32.ofInt vv)) ∧ mh_FX h2 ∧ mh_fr [82, 85, 86, 87] h h2 ∧ h2 82 = tt ∧ h2 85 = ee) := by
  refine mh_M_of RX12 rfl (by decide +kernel) [some (.ref 81), some (.long (Int64.ofInt (x))), none, some (.int (Int32.ofInt (n))), none] rfl (Nat.le_of_ble_eq_true rfl) (fun f F Z hn0 hR => ?_)
  have hib := sp_inv_b hi
  have hm := hi.1
  have hq0 := hi.2.1
  have hws := hi.2.2.2.2.2
  obtain ⟨hH, hC⟩ := hi.2.2.2.1
  have hs1 := hi.2.2.1
  refine mh_iload3 (pc := 0) F dX12_feed_0 ?_
  refine mh_i2l (pc := 1) F dX12_feed_1 (by omega) ?_
  refine mh_lconst (x := 1) (pc := 2) F dX12_feed_2 rfl ?_
  refine mh_ldc2 (x := 8) (pc := 3) F dX12_feed_3 tw_5_222 ?_
  refine mh_callSp (pc := 6) (As := [.long (Int64.ofInt (n)), .long (Int64.ofInt (1)), .long (Int64.ofInt (8))]) (st := []) F (by omega) (k_in (by omega) (by omega) (by omega) (by omega)) ws_RX12_69 dX12_feed_6 rfl rfl (Nat.le_of_ble_eq_true rfl) ⟨Nat.zero_le _, Nat.zero_le _⟩ ?_
  refine mh_ifb_ne (pc := 9) (tgt := 18) F dX12_feed_9 rfl (fun c_9 => ?_) (fun c_9 => ?_)
  · refine mh_aload0 (pc := 18) F dX12_feed_18 ?_
    refine mh_getr (b := 82) (pc := 19) F sh_81 (by decide) fw_RX12_9_12 dX12_feed_19 rfl (fx_81_0 hF) ?_
    refine mh_iconst (pc := 22) F dX12_feed_22 ?_
    refine mh_ialoadr (pc := 23) F sh_82 (by decide) (by omega) dX12_feed_23 r82 ?_
    refine mh_iload3 (pc := 24) F dX12_feed_24 ?_
    refine mh_iadd (pc := 25) F dX12_feed_25 ?_
    refine mh_bipush (pc := 26) F dX12_feed_26 rfl ?_
    refine mh_icmp_le (pc := 28) (tgt := 37) F dX12_feed_28 rfl (by omega) (by omega) (fun c_28 => ?_) (fun c_28 => ?_)
    · refine mh_iconst (pc := 37) F dX12_feed_37 ?_
      refine mh_istore4 (pc := 38) F dX12_feed_38 rfl (by decide) ?_
      have L40 : ∀ (m : Nat) (k : Int) (hh : Nat → Int → Int) (t : Int → Int), (mh_FX hh) → (mh_fr [82] h hh) → (hh 82 = t) → (hh 85 = er) → (0 ≤ k ∧ k ≤ n) → (t = sp_feeds x s k.toNat) → (n - k).toNat = m → mh_V g f 5 96 0 0 40 [some (.ref 81), some (.long (Int64.ofInt (x))), none, some (.int (Int32.ofInt (n))), some (.int (Int32.ofInt (k)))] [] hh := by
        intro m
        induction m using Nat.strongRecOn with
        | _ m ihL40 =>
        intro k hh t Fhh frhh q82hh q85hh hk ht hmz
        refine mh_iload4 (pc := 40) F dX12_feed_40 ?_
        have ht4 : t 4 = s 4 + k := by rw [ht, sp_feeds_4 x s h4.1]; omega
        refine mh_iload3 (pc := 42) F dX12_feed_42 ?_
        refine mh_icmp_ge (pc := 43) (tgt := 89) F dX12_feed_43 rfl (by omega) (by omega) (fun c_43 => ?_) (fun c_43 => ?_)
        · refine mh_aload0 (pc := 89) F dX12_feed_89 ?_
          refine mh_getr (b := 82) (pc := 90) F sh_81 (by decide) fw_RX12_9_12 dX12_feed_90 rfl (fx_81_0 Fhh) ?_
          refine mh_iconst (pc := 93) F dX12_feed_93 ?_
          refine mh_ialoadr (pc := 94) F sh_82 (by decide) (by omega) dX12_feed_94 q82hh ?_
          exact mh_ireturn F Z dX12_feed_95 ⟨_, _, _, (by unfold sp_feed; (repeat' split) <;> first | rfl | (exfalso; omega) | (rw [show n = k by omega, ← ht]; done)), rfl, Fhh, (frhh.mono (by simp)), q82hh, q85hh⟩
        · refine mh_aload0 (pc := 46) F dX12_feed_46 ?_
          refine mh_getr (b := 82) (pc := 47) F sh_81 (by decide) fw_RX12_9_12 dX12_feed_47 rfl (fx_81_0 Fhh) ?_
          refine mh_sipush (pc := 50) F dX12_feed_50 rfl ?_
          refine mh_aload0 (pc := 53) F dX12_feed_53 ?_
          refine mh_getr (b := 82) (pc := 54) F sh_81 (by decide) fw_RX12_9_12 dX12_feed_54 rfl (fx_81_0 Fhh) ?_
          refine mh_iconst (pc := 57) F dX12_feed_57 ?_
          refine mh_ialoadr (pc := 58) F sh_82 (by decide) (by omega) dX12_feed_58 q82hh ?_
          refine mh_iadd (pc := 59) F dX12_feed_59 ?_
          refine mh_lload1 (pc := 60) F dX12_feed_60 ?_
          refine mh_bipush (pc := 61) F dX12_feed_61 rfl ?_
          refine mh_iload4 (pc := 63) F dX12_feed_63 ?_
          refine mh_imul (pc := 65) F dX12_feed_65 ?_
          refine mh_rlshr (pc := 66) F dX12_feed_66 ?_
          refine mh_ldc2 (x := 255) (pc := 67) F dX12_feed_67 tw_6_142 ?_
          refine mh_rland (pc := 70) F dX12_feed_70 ?_
          refine mh_l2ir (pc := 71) F dX12_feed_71 ?_
          refine mh_iastore (pc := 72) F sh_82 (by decide) (by omega) dX12_feed_72 ?_
          refine mh_nmh (fun h1 e1 => ?_)
          have F1 : mh_FX h1 := by rw [e1]; exact Fhh.upa rfl
          have r82_1 : h1 82 = mh_ur t (197 + (t 4)) (mh_l2i (mh_land (mh_lshr x (8 * k)) 255)) := by rw [e1, mh_up_rs, q82hh]
          obtain ⟨t1, et1⟩ : ∃ z : Int → Int, z = mh_ur t (197 + (t 4)) (mh_l2i (mh_land (mh_lshr x (8 * k)) 255)) := ⟨_, rfl⟩
          rw [← et1] at r82_1
          have r85_1 : h1 85 = er := by rw [e1, mh_up_row (by decide)]; exact q85hh
          have fr1 : mh_fr [82] h h1 := mh_fr.upi frhh e1 (by simp)
          have t14 : t1 4 = t 4 := by rw [et1]; exact mh_ur_ne (by omega)
          refine mh_aload0 (pc := 73) F dX12_feed_73 ?_
          refine mh_getr (b := 82) (pc := 74) F sh_81 (by decide) fw_RX12_9_12 dX12_feed_74 rfl (fx_81_0 F1) ?_
          refine mh_iconst (pc := 77) F dX12_feed_77 ?_
          refine mh_dup2 (pc := 78) F dX12_feed_78 rfl rfl ?_
          refine mh_ialoadr (pc := 79) F sh_82 (by decide) (by omega) dX12_feed_79 r82_1 ?_
          refine mh_iconst (pc := 80) F dX12_feed_80 ?_
          refine mh_iadd (pc := 81) F dX12_feed_81 ?_
          refine mh_iastore (pc := 82) F sh_82 (by decide) (by omega) dX12_feed_82 ?_
          refine mh_nmh (fun h2 e2 => ?_)
          have F2 : mh_FX h2 := by rw [e2]; exact F1.upa rfl
          have r82_2 : h2 82 = mh_ur t1 4 ((t1 4) + 1) := by rw [e2, mh_up_rs, r82_1]
          have r85_2 : h2 85 = er := by rw [e2, mh_up_row (by decide)]; exact r85_1
          have fr2 : mh_fr [82] h h2 := mh_fr.upi fr1 e2 (by simp)
          refine mh_iinc4 (pc := 83) F dX12_feed_83 rfl (by decide) ?_
          refine mh_goto (pc := 86) (tgt := 40) F dX12_feed_86 rfl ?_
          exact ihL40 _ (by omega) (k + 1) h2 (mh_ur t1 4 ((t1 4) + 1)) F2 (fr2.mono (by simp)) r82_2 r85_2 (by omega) (by rw [sp_feeds_at x s hk.1, ← ht, et1]; rfl) rfl
      exact L40 _ 0 h s hF (mh_fr.rf.mono (by simp)) r82 r85 (by omega) rfl rfl
    · refine mh_aload0 (pc := 31) F dX12_feed_31 ?_
      refine mh_iconst (pc := 32) F dX12_feed_32 ?_
      refine mh_callV0 (pc := 33) (As := [.int (Int32.ofInt (4))]) (st := []) F (by omega) (k_error (by omega) hF r85 (by omega)) wv_RX12_114_yX12_error dX12_feed_33 sh_81 rfl (by decide) rfl rfl (Nat.le_of_ble_eq_true rfl) ⟨Nat.zero_le _, Nat.zero_le _⟩ (fun r3 h3 q3 => ?_)
      obtain ⟨rfl, F3, fr3, q3_0⟩ := q3
      have r82_4 : h3 82 = s := (fr3 _ (by decide)).trans r82
      have fr4 : mh_fr [85] h h3 := (mh_fr.tr mh_fr.rf fr3).mono (by simp)
      exact mh_ireturn F Z dX12_feed_36 ⟨_, _, _, (by unfold sp_feed; (repeat' split) <;> first | rfl | (exfalso; omega)), rfl, F3, (fr4.mono (by simp)), r82_4, q3_0⟩
  · refine mh_aload0 (pc := 12) F dX12_feed_12 ?_
    refine mh_iconst (pc := 13) F dX12_feed_13 ?_
    refine mh_callV0 (pc := 14) (As := [.int (Int32.ofInt (1))]) (st := []) F (by omega) (k_error (by omega) hF r85 (by omega)) wv_RX12_114_yX12_error dX12_feed_14 sh_81 rfl (by decide) rfl rfl (Nat.le_of_ble_eq_true rfl) ⟨Nat.zero_le _, Nat.zero_le _⟩ (fun r5 h5 q5 => ?_)
    obtain ⟨rfl, F5, fr5, q5_0⟩ := q5
    have r82_6 : h5 82 = s := (fr5 _ (by decide)).trans r82
    have fr6 : mh_fr [85] h h5 := (mh_fr.tr mh_fr.rf fr5).mono (by simp)
    exact mh_ireturn F Z dX12_feed_17 ⟨_, _, _, (by unfold sp_feed; (repeat' split) <;> first | rfl | (exfalso; omega)), rfl, F5, (fr6.mono (by simp)), r82_6, q5_0⟩

