/-! the world's quarter, thunder -/
theorem sc_is.i8 {c r : Int → Int} {j : Int} (h : sc_is c r j) (hr : sp_cok r) : sc_i8 c := by
  obtain ⟨a0, a1, a2, a3, a4, a5, a6, a7, a8, a9⟩ := h
  obtain ⟨b0, b1, b2, b3, b4, b5, b6, b7, b8, b9, b10, b11, b12, b13⟩ := hr
  unfold sc_i8; omega
theorem sc_V_q {h h2 : Nat → Int → Int} {t : Int → Int} (hV : sc_V h t) (e : h2 = mh_up h 25 7 (h 25 7 + 1)) : sc_V h2 (mh_ur t 0 (t 0 + 1)) := by
  obtain ⟨n6, n7, n8, n10, n14, n15⟩ := hV.2.2
  refine sc_V_up hV (fun a ha => by rw [e]; exact mh_up_row ha) (fun i hi => mh_ur_ne (by omega)) ⟨?_, ?_, ?_, ?_, ?_, ?_⟩
  · rw [e, mh_up_rs, mh_ur_ne (by decide), mh_ur_ne (by decide)]; exact n6
  · rw [e, mh_up_rs, mh_ur_eq rfl, mh_ur_eq rfl, n7]
  · rw [e, mh_up_rs, mh_ur_ne (by decide), mh_ur_ne (by decide)]; exact n8
  · rw [e, mh_up_rs, mh_ur_ne (by decide), mh_ur_ne (by decide)]; exact n10
  · rw [e, mh_up_rs, mh_ur_ne (by decide), mh_ur_ne (by decide)]; exact n14
  · rw [e, mh_up_rs, mh_ur_ne (by decide), mh_ur_ne (by decide)]; exact n15
/-- one churn changes, as the model's row does -/
theorem sc_V_ch {h h2 : Nat → Int → Int} {s t : Int → Int} {k : Int} (hk : 0 ≤ k ∧ k < 6) (hV : sc_V h s) (hA : sc_is (h2 (44 + k.toNat)) (sp_row t k) k) (ho : ∀ i, (i < 41 + 9 * k ∨ 41 + 9 * k + 9 ≤ i) → t i = s i) (hfr : ∀ a, 25 ≤ a → a ≤ 49 → a ≠ 36 → a ≠ 41 → a ≠ 44 + k.toNat → h2 a = h a) : sc_V h2 t := by
  obtain ⟨a, b, c⟩ := hV
  refine ⟨(a.of (fun x hx => hfr x (by omega) (by omega) (by omega) (by omega) (by omega))).to (fun i hi2 => ho i (by omega)), fun j j0 j1 => ?_, ?_⟩
  · by_cases z : j = k
    · subst z; exact hA
    · show sc_is (h2 (44 + j.toNat)) _ _
      rw [hfr (44 + j.toNat) (by omega) (by omega) (by omega) (by omega) (by omega)]
      have hb := b j j0 j1
      unfold sc_is sp_row at hb ⊢
      rw [ho _ (by omega), ho _ (by omega), ho _ (by omega), ho _ (by omega), ho _ (by omega), ho _ (by omega), ho _ (by omega), ho _ (by omega), ho _ (by omega)]
      exact hb
  · obtain ⟨c1, c2, c3, c4, c5, c6⟩ := c
    unfold sc_N
    rw [hfr 25 (by decide) (by decide) (by decide) (by decide) (by omega), ho 3 (by omega), ho 0 (by omega), ho 1 (by omega), ho 4 (by omega), ho 5 (by omega), ho 2 (by omega)]
    exact ⟨c1, c2, c3, c4, c5, c6⟩
theorem sc_is_sour {c s : Int → Int} {k v : Int} (h : sc_is c (sp_row s k) k) : sc_is (mh_ur c 7 (sp_held (c 7 + v) 0 9999)) (sp_row (sp_sours s k v) k) k := by
  obtain ⟨a0, a1, a2, a3, a4, a5, a6, a7, a8, a9⟩ := h
  unfold sp_row at a1 a2 a3 a4 a5 a6 a7 a8 a9
  unfold sp_sours sc_is sp_row
  refine ⟨?_, ?_, ?_, ?_, ?_, ?_, ?_, ?_, ?_, ?_⟩ <;> (repeat (first | rw [mh_ur_ne (by omega)] | rw [mh_ur_eq (by omega)])) <;> first | assumption | (rw [a7])
set_option maxRecDepth 100000 in
set_option maxHeartbeats 2000000 in
theorem k7_pq {g : mh_G} {d : Nat} (hd : 14 ≤ d) {h : Nat → Int → Int} (hF : mh_FX h) {s : Int → Int} (hi : sp_inv s) (hV : sc_V h s) (hq : s 0 ≤ 20000) : mh_M g d yX10_passQuarter cX10_passQuarter 2 none 96 0 0 [.ref 25] h (fun r h2 => r = none ∧ mh_FX h2 ∧ mh_fr [25, 36, 41, 44, 45, 46, 47, 48, 49] h h2 ∧ sc_V h2 (sp_aq s)) := by
  refine mh_M_of RX10 rfl (by decide +kernel) [some (.ref 25), none] rfl (Nat.le_of_ble_eq_true rfl) (fun f F Z hn0 hR => ?_)
  have hm := hi.1
  have hq0 := hi.2.1
  refine mh_iconst (pc := 0) F dX10_passQuarter_0 ?_
  refine mh_istore1 (pc := 1) F dX10_passQuarter_1 rfl (by decide) ?_
  have L2 : ∀ (m : Nat) (k : Int) (hh : Nat → Int → Int), (mh_FX hh) → (mh_fr [25, 36, 41, 44, 45, 46, 47, 48, 49] h hh) → (0 ≤ k ∧ k ≤ s 3) → (sc_V hh (sp_gos s k.toNat)) → (s 3 - k).toNat = m → mh_V g f 2 96 0 0 2 [some (.ref 25), some (.int (Int32.ofInt (k)))] [] hh := by
    intro m
    induction m using Nat.strongRecOn with
    | _ m ihL2 =>
    intro k hh Fhh frhh hk hV hmz
    refine mh_iload1 (pc := 2) F dX10_passQuarter_2 ?_
    obtain ⟨t, et⟩ : ∃ t : Int → Int, t = sp_gos s k.toNat := ⟨_, rfl⟩
    rw [← et] at hV
    have zHI : sp_inv t := by rw [et]; exact sp_gos_inv hi _ (by omega)
    have t3 : t 3 = s 3 := by rw [et]; exact sp_gos_out s _ (by omega) 3 (by decide) (by decide)
    have t0 : t 0 = s 0 := by rw [et]; exact sp_gos_out s _ (by omega) 0 (by decide) (by decide)
    have t1r := zHI.2.2.1
    obtain ⟨n6, n7, n8, n10, n14, n15⟩ := hV.2.2
    refine mh_aload0 (pc := 3) F dX10_passQuarter_3 ?_
    refine mh_geti (pc := 4) F sh_25 (by decide) fw_RX10_83_10 dX10_passQuarter_4 rfl ?_
    refine mh_icmp_ge (pc := 7) (tgt := 47) F dX10_passQuarter_7 rfl (by omega) (by omega) (fun c_7 => ?_) (fun c_7 => ?_)
    · refine mh_aload0 (pc := 47) F dX10_passQuarter_47 ?_
      refine mh_dup (pc := 48) F dX10_passQuarter_48 rfl ?_
      refine mh_geti (pc := 49) F sh_25 (by decide) fw_RX10_86_10 dX10_passQuarter_49 rfl ?_
      refine mh_iconst (pc := 52) F dX10_passQuarter_52 ?_
      refine mh_iadd (pc := 53) F dX10_passQuarter_53 ?_
      refine mh_puti (pc := 54) F sh_25 (by decide) pw_RX10_86_10 dX10_passQuarter_54 ?_
      refine mh_nmh (fun h1 e1 => ?_)
      have F1 : mh_FX h1 := by rw [e1]; exact Fhh.upz rfl
      have fr1 : mh_fr [25, 36, 41, 44, 45, 46, 47, 48, 49] h h1 := mh_fr.upi frhh e1 (by simp)
      exact mh_return F Z dX10_passQuarter_57 ⟨rfl, F1, (fr1.mono (by simp)), (by unfold sp_aq; rw [show (s 3).toNat = k.toNat by omega, ← et]; exact sc_V_q hV e1)⟩
    · have hkk : 0 ≤ k ∧ k < 6 := by omega
      have zAk := sc_Aj hkk
      have hcs : sc_is (hh (44 + k.toNat)) (sp_row t k) k := hV.2.1 k hkk.1 hkk.2
      have hcr := zHI.2.2.2.2.1 k hkk.1 hkk.2
      have hco := hcs.ok hcr
      have h8i := hcs.i8 hcr
      refine mh_aload0 (pc := 10) F dX10_passQuarter_10 ?_
      refine mh_aload0 (pc := 11) F dX10_passQuarter_11 ?_
      refine mh_getr (b := 31) (pc := 12) F sh_25 (by decide) fw_RX10_29_10 dX10_passQuarter_12 rfl (fx_25_5 Fhh) ?_
      refine mh_iload1 (pc := 15) F dX10_passQuarter_15 ?_
      refine mh_aaload (b := 44 + (k).toNat) (pc := 16) F sh_31 (by decide) (by decide) (by omega) dX10_passQuarter_16 (fx_31 Fhh (by omega)) ?_
      refine mh_aload0 (pc := 17) F dX10_passQuarter_17 ?_
      refine mh_geti (pc := 18) F sh_25 (by decide) fw_RX10_86_10 dX10_passQuarter_18 rfl ?_
      refine mh_callV0 (pc := 21) (As := [.ref (44 + (k).toNat), .int (Int32.ofInt (hh 25 7))]) (st := []) F (by omega) (k5_pass (by omega) Fhh rfl rfl zAk hco hV.1 zHI.2.2.2.1 (by omega) h8i) wv_RX10_145_yX10_pass dX10_passQuarter_21 sh_25 rfl (by decide) rfl rfl (Nat.le_of_ble_eq_true rfl) ⟨Nat.zero_le _, Nat.zero_le _⟩ (fun r2 h2 q2 => ?_)
      obtain ⟨rfl, F2, frp, qA⟩ := q2
      have frS : mh_fr [25, 36, 41, 44, 45, 46, 47, 48, 49] hh h2 := frp.mono (by intro a ha; simp at ha ⊢; omega)
      have e25 : h2 25 = hh 25 := frp 25 (by simp; omega)
      rw [n7] at qA
      have fr3 : mh_fr [25, 36, 41, 44, 45, 46, 47, 48, 49] h h2 := (mh_fr.tr frhh frS).mono (by simp)
      have hpi : 0 ≤ sc_pbi (hh (44 + (k).toNat)) ∧ sc_pbi (hh (44 + (k).toNat)) ≤ 1 := by unfold sc_pbi; split <;> decide
      refine mh_if_eq (pc := 24) (tgt := 41) F dX10_passQuarter_24 rfl (by omega) (fun c_24 => ?_) (fun c_24 => ?_)
      · refine mh_iinc1 (pc := 41) F dX10_passQuarter_41 rfl (by decide) ?_
        refine mh_goto (pc := 44) (tgt := 2) F dX10_passQuarter_44 rfl ?_
        exact ihL2 _ (by omega) (k + 1) h2 F2 (fr3.mono (by simp)) (by omega) (by rw [sp_gos_at _ hk.1, ← et]; exact sc_V_go hkk zHI hV qA (fun i _ => by rw [e25]) (by rw [e25, n8, (sc_pass_go hkk zHI hcs).2, if_neg (by omega)]) (fun a a1 a2 a3 a4 => frp a (by simp; omega))) rfl
      · have hgo := sc_pass_go hkk zHI hcs
        have hcoN : sc_ok (h2 (44 + k.toNat)) := by rw [qA]; exact hgo.1.ok ((sp_go_inv zHI hkk).2.2.2.2.1 k hkk.1 hkk.2)
        have hLN : sc_L h2 25 t := hV.1.of (fun x hx => frp x (by simp; omega))
        refine mh_aload0 (pc := 27) F dX10_passQuarter_27 ?_
        refine mh_aload0 (pc := 28) F dX10_passQuarter_28 ?_
        refine mh_aload0 (pc := 29) F dX10_passQuarter_29 ?_
        refine mh_getr (b := 31) (pc := 30) F sh_25 (by decide) fw_RX10_29_10 dX10_passQuarter_30 rfl (fx_25_5 F2) ?_
        refine mh_iload1 (pc := 33) F dX10_passQuarter_33 ?_
        refine mh_aaload (b := 44 + (k).toNat) (pc := 34) F sh_31 (by decide) (by decide) (by omega) dX10_passQuarter_34 (fx_31 F2 (by omega)) ?_
        refine mh_callV0 (pc := 35) (As := [.ref (44 + (k).toNat)]) (st := [.ref 25]) F (by omega) (k4_worth (by omega) F2 rfl zAk hcoN hLN) wv_RX10_149_yX10_worth dX10_passQuarter_35 sh_25 rfl (by decide) rfl rfl (Nat.le_of_ble_eq_true rfl) ⟨Nat.zero_le _, Nat.zero_le _⟩ (fun r4 h4 q4 => ?_)
        obtain ⟨rfl, F4, frX⟩ := q4
        have fr5 : mh_fr [25, 36, 41, 44, 45, 46, 47, 48, 49] h h4 := (mh_fr.tr fr3 frX).mono (by simp)
        have hwr : 0 ≤ sp_law t 1 (sc_st (h2 (44 + (k).toNat))) (h2 (44 + (k).toNat) 7) (h2 (44 + (k).toNat) 2) ∧ sp_law t 1 (sc_st (h2 (44 + (k).toNat))) (h2 (44 + (k).toNat) 7) (h2 (44 + (k).toNat) 2) ≤ 999 := sp_law_rg1
        have e25X : h4 25 = hh 25 := (frX 25 (by decide)).trans e25
        have e258 : h4 25 8 = t 1 := by rw [e25X]; exact n8
        refine mh_callV0 (pc := 38) (As := [.int (Int32.ofInt (sp_law t 1 (sc_st (h2 (44 + (k).toNat))) (h2 (44 + (k).toNat) 7) (h2 (44 + (k).toNat) 2)))]) (st := []) F (by omega) (k4_takeIn (by omega) F4 rfl (by omega) (by omega)) wv_RX10_153_yX10_takeIn dX10_passQuarter_38 sh_25 rfl (by decide) rfl rfl (Nat.le_of_ble_eq_true rfl) ⟨Nat.zero_le _, Nat.zero_le _⟩ (fun r6 h6 q6 => ?_)
        obtain ⟨rfl, F6, frY, qY⟩ := q6
        have fr7 : mh_fr [25, 36, 41, 44, 45, 46, 47, 48, 49] h h6 := (mh_fr.tr fr5 frY).mono (by simp)
        have hVn : sc_V h6 (sp_go t k) := sc_V_go hkk zHI hV ((frY _ (by simp; omega)).trans ((frX _ (by simp; omega)).trans qA)) (fun i hi => by rw [qY, mh_ur_ne hi, e25X]) (by rw [qY, mh_ur_eq rfl, e258, hgo.2, if_pos (by omega), qA]; rfl) (fun a a1 a2 a3 a4 => (frY a (by simp; omega)).trans ((frX a (by simp; omega)).trans (frp a (by simp; omega))))
        refine mh_iinc1 (pc := 41) F dX10_passQuarter_41 rfl (by decide) ?_
        refine mh_goto (pc := 44) (tgt := 2) F dX10_passQuarter_44 rfl ?_
        exact ihL2 _ (by omega) (k + 1) h6 F6 (fr7.mono (by simp)) (by omega) (by rw [sp_gos_at _ hk.1, ← et]; exact hVn) rfl
  exact L2 _ 0 h hF (mh_fr.rf.mono (by simp)) (by omega) hV rfl

set_option maxRecDepth 100000 in
set_option maxHeartbeats 2000000 in
theorem k7_strike {g : mh_G} {d : Nat} (hd : 8 ≤ d) {h : Nat → Int → Int} (hF : mh_FX h) {s : Int → Int} (hi : sp_inv s) (hV : sc_V h s) : mh_M g d yX10_strike cX10_strike 3 (some .int) 96 0 0 [.ref 25] h (fun r h2 => r = some (.int (Int32.ofInt (sp_thun s).1)) ∧ mh_FX h2 ∧ mh_fr [25, 36, 41, 44, 45, 46, 47, 48, 49] h h2 ∧ sc_V h2 (sp_thun s).2) := by
  refine mh_M_of RX10 rfl (by decide +kernel) [some (.ref 25), none, none] rfl (Nat.le_of_ble_eq_true rfl) (fun f F Z hn0 hR => ?_)
  have hm := hi.1
  refine mh_iconst (pc := 0) F dX10_strike_0 ?_
  refine mh_istore1 (pc := 1) F dX10_strike_1 rfl (by decide) ?_
  refine mh_iconst (pc := 2) F dX10_strike_2 ?_
  refine mh_istore2 (pc := 3) F dX10_strike_3 rfl (by decide) ?_
  have L4 : ∀ (m : Nat) (n : Int) (k : Int) (hh : Nat → Int → Int), (mh_FX hh) → (mh_fr [25, 36, 41, 44, 45, 46, 47, 48, 49] h hh) → (0 ≤ k ∧ k ≤ s 3) → (n = (sp_ths s k.toNat).1) → (sc_V hh (sp_ths s k.toNat).2) → (s 3 - k).toNat = m → mh_V g f 3 96 0 0 4 [some (.ref 25), some (.int (Int32.ofInt (n))), some (.int (Int32.ofInt (k)))] [] hh := by
    intro m
    induction m using Nat.strongRecOn with
    | _ m ihL4 =>
    intro n k hh Fhh frhh hk hn hV hmz
    refine mh_iload2 (pc := 4) F dX10_strike_4 ?_
    obtain ⟨t, et⟩ : ∃ t : Int → Int, t = (sp_ths s k.toNat).2 := ⟨_, rfl⟩
    rw [← et] at hV
    have zHI : sp_inv t := by rw [et]; exact sp_ths_inv hi _ (by omega)
    have t3 : t 3 = s 3 := by rw [et]; exact sp_ths_out s _ (by omega) 3 (by decide)
    obtain ⟨n6, n7, n8, n10, n14, n15⟩ := hV.2.2
    refine mh_aload0 (pc := 5) F dX10_strike_5 ?_
    refine mh_geti (pc := 6) F sh_25 (by decide) fw_RX10_83_10 dX10_strike_6 rfl ?_
    refine mh_icmp_ge (pc := 9) (tgt := 57) F dX10_strike_9 rfl (by omega) (by omega) (fun c_9 => ?_) (fun c_9 => ?_)
    · refine mh_iload1 (pc := 57) F dX10_strike_57 ?_
      exact mh_ireturn F Z dX10_strike_58 ⟨mh_sv (by unfold sp_thun; rw [hn, show (s 3).toNat = k.toNat by omega]), Fhh, (frhh.mono (by simp)), (by unfold sp_thun; rw [show (s 3).toNat = k.toNat by omega, ← et]; exact hV)⟩
    · have hkk : 0 ≤ k ∧ k < 6 := by omega
      have zAk := sc_Aj hkk
      have hcs : sc_is (hh (44 + k.toNat)) (sp_row t k) k := hV.2.1 k hkk.1 hkk.2
      have hcr := zHI.2.2.2.2.1 k hkk.1 hkk.2
      have hco := hcs.ok hcr
      obtain ⟨d0, d1, d2, d3, d4, d5, d6, d7, d8, d9⟩ := id hcs
      unfold sp_row at d4 d9
      have hco9 := hco.2.2.2.2.2.2.2.2
      have hco4 := hco.2.2.2.1
      have hst : sp_ths s (k + 1).toNat = sp_th1 (sp_ths s k.toNat) k := sp_ths_at s hk.1
      refine mh_aload0 (pc := 12) F dX10_strike_12 ?_
      refine mh_getr (b := 31) (pc := 13) F sh_25 (by decide) fw_RX10_29_10 dX10_strike_13 rfl (fx_25_5 Fhh) ?_
      refine mh_iload2 (pc := 16) F dX10_strike_16 ?_
      refine mh_aaload (b := 44 + (k).toNat) (pc := 17) F sh_31 (by decide) (by decide) (by omega) dX10_strike_17 (fx_31 Fhh (by omega)) ?_
      refine mh_geti (pc := 18) F zAk.sh zAk.lt fw_RX10_137_0 dX10_strike_18 rfl ?_
      refine mh_if_ne (pc := 21) (tgt := 51) F dX10_strike_21 rfl (by omega) (fun c_21 => ?_) (fun c_21 => ?_)
      · refine mh_iinc2 (pc := 51) F dX10_strike_51 rfl (by decide) ?_
        refine mh_goto (pc := 54) (tgt := 4) F dX10_strike_54 rfl ?_
        exact ihL4 _ (by omega) n (k + 1) hh Fhh (frhh.mono (by simp)) (by omega) (by rw [hst]; unfold sp_th1; rw [if_neg (by rw [← et]; omega)]; exact hn) (by rw [hst]; unfold sp_th1; rw [if_neg (by rw [← et]; omega), ← et]; exact hV) rfl
      · refine mh_aload0 (pc := 24) F dX10_strike_24 ?_
        refine mh_getr (b := 31) (pc := 25) F sh_25 (by decide) fw_RX10_29_10 dX10_strike_25 rfl (fx_25_5 Fhh) ?_
        refine mh_iload2 (pc := 28) F dX10_strike_28 ?_
        refine mh_aaload (b := 44 + (k).toNat) (pc := 29) F sh_31 (by decide) (by decide) (by omega) dX10_strike_29 (fx_31 Fhh (by omega)) ?_
        refine mh_geti (pc := 30) F zAk.sh zAk.lt fw_RX10_133_0 dX10_strike_30 rfl ?_
        refine mh_iconst (pc := 33) F dX10_strike_33 ?_
        refine mh_icmp_eq (pc := 34) (tgt := 51) F dX10_strike_34 rfl (by omega) (by omega) (fun c_34 => ?_) (fun c_34 => ?_)
        · refine mh_iinc2 (pc := 51) F dX10_strike_51 rfl (by decide) ?_
          refine mh_goto (pc := 54) (tgt := 4) F dX10_strike_54 rfl ?_
          exact ihL4 _ (by omega) n (k + 1) hh Fhh (frhh.mono (by simp)) (by omega) (by rw [hst]; unfold sp_th1; rw [if_neg (by rw [← et]; omega)]; exact hn) (by rw [hst]; unfold sp_th1; rw [if_neg (by rw [← et]; omega), ← et]; exact hV) rfl
        · refine mh_aload0 (pc := 37) F dX10_strike_37 ?_
          refine mh_getr (b := 31) (pc := 38) F sh_25 (by decide) fw_RX10_29_10 dX10_strike_38 rfl (fx_25_5 Fhh) ?_
          refine mh_iload2 (pc := 41) F dX10_strike_41 ?_
          refine mh_aaload (b := 44 + (k).toNat) (pc := 42) F sh_31 (by decide) (by decide) (by omega) dX10_strike_42 (fx_31 Fhh (by omega)) ?_
          refine mh_bipush (pc := 43) F dX10_strike_43 rfl ?_
          refine mh_callV0 (pc := 45) (As := [.int (Int32.ofInt (30))]) (st := []) F (by omega) (k0_sourBy (by omega) Fhh rfl zAk hco (by omega)) wv_RX10_141_yX0_sourBy dX10_strike_45 zAk.sh rfl zAk.lt rfl rfl (Nat.le_of_ble_eq_true rfl) ⟨Nat.zero_le _, Nat.zero_le _⟩ (fun r1 h1 q1 => ?_)
          obtain ⟨rfl, F1, frp, qA⟩ := q1
          have frS : mh_fr [25, 36, 41, 44, 45, 46, 47, 48, 49] hh h1 := frp.mono (by intro a ha; simp at ha ⊢; omega)
          have fr2 : mh_fr [25, 36, 41, 44, 45, 46, 47, 48, 49] h h1 := (mh_fr.tr frhh frS).mono (by simp)
          refine mh_iinc1 (pc := 48) F dX10_strike_48 rfl (by decide) ?_
          refine mh_iinc2 (pc := 51) F dX10_strike_51 rfl (by decide) ?_
          refine mh_goto (pc := 54) (tgt := 4) F dX10_strike_54 rfl ?_
          exact ihL4 _ (by omega) (n + 1) (k + 1) h1 F1 (fr2.mono (by simp)) (by omega) (by rw [hst]; unfold sp_th1; rw [if_pos (by rw [← et]; omega), ← hn]) (by rw [hst]; unfold sp_th1; rw [if_pos (by rw [← et]; omega), ← et]; exact sc_V_ch hkk hV (by rw [qA]; exact sc_is_sour hcs) (fun i hi2 => mh_ur_ne (by omega)) (fun a a1 a2 a3 a4 a5 => frp a (by simp; omega))) rfl
  exact L4 _ 0 0 h hF (mh_fr.rf.mono (by simp)) (by omega) rfl hV rfl

