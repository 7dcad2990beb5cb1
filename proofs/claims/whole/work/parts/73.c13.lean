/-! where it turns -/
theorem sc_stm_g {s : Int → Int} {k : Int} (h : 0 ≤ s (41 + 9 * k + 8) ∧ s (41 + 9 * k + 8) ≤ 1) : sp_stm s k = 3 ∨ s (41 + 9 * k + 8) = 0 := by
  unfold sp_stm
  by_cases z : s (41 + 9 * k + 8) = 1
  · rw [if_pos z]; exact Or.inl rfl
  · exact Or.inr (by omega)
theorem sc_badq {s og u : Int → Int} {k b i : Int} (hi : 0 ≤ i) (h : sc_st u = sp_st (s (41 + 9 * k + 0)) (s (41 + 9 * k + 1)) (sp_strs s og k b (i + 1).toNat 19) (sp_strs s og k b (i + 1).toNat 20)) : sp_badq s k b og i.toNat = decide (sc_st u ≠ 0) := by
  unfold sp_badq sp_bad
  rw [h, show (i + 1).toNat = i.toNat + 1 by omega]
theorem sc_to_hit {s og : Int → Int} {k b a i : Int} (ha : a < 9) (hi : 0 ≤ i) (hip : i < s (33 + 2 * b)) (h : sp_badq s k b og i.toNat = true) : sp_to s k b (9 - a).toNat og = og 17 := by
  rw [show (9 - a).toNat = (8 - a).toNat + 1 by omega]
  show (if sp_anyb (sp_badq s k b og) (s (33 + 2 * b)).toNat = true then og 17 else _) = _
  have h1 : sp_anyb (sp_badq s k b og) (i + 1).toNat = true := by rw [sp_anyb_at hi, h, Bool.or_true]
  have h2 := sp_anyb_mono ((s (33 + 2 * b)).toNat - (i + 1).toNat) h1
  rw [show (i + 1).toNat + ((s (33 + 2 * b)).toNat - (i + 1).toNat) = (s (33 + 2 * b)).toNat by omega] at h2
  rw [if_pos h2]
theorem sc_to_on {s og : Int → Int} {k b a : Int} (ha : a < 9) (h : sp_anyb (sp_badq s k b og) (s (33 + 2 * b)).toNat = false) : sp_to s k b (9 - a).toNat og = sp_to s k b (9 - (a + 1)).toNat (sp_on s og k b) := by
  rw [show (9 - a).toNat = (9 - (a + 1)).toNat + 1 by omega]
  show (if sp_anyb (sp_badq s k b og) (s (33 + 2 * b)).toNat = true then og 17 else _) = _
  rw [h, if_neg (by decide)]
set_option maxRecDepth 100000 in
set_option maxHeartbeats 2000000 in
theorem k13_where {g : mh_G} {d : Nat} (hd : 16 ≤ d) {h : Nat → Int → Int} (hF : mh_FX h) {c : Int → Int} (r75 : h 75 = c) {s : Int → Int} {k b : Int} {ob : Int → Int} (hi : sp_inv s) (hV : sc_V h s) (hb : 0 ≤ b ∧ b ≤ 3) (hc : sc_ok c) (h38 : c 3 ≤ 8) (hob : sp_ook ob) (hob2 : ob 17 = c 3 ∧ ob 18 = s 0) (ht0 : sc_t0 s k ob c) : mh_M g d yX11_whereItTurns cX11_whereItTurns 7 (some .int) 96 0 0 [.ref 0, .ref 75, .int (Int32.ofInt (b))] h (fun r h2 => r = some (.int (Int32.ofInt (sp_to s k b (9 - c 3).toNat ob))) ∧ mh_FX h2 ∧ mh_fr [36, 75] h h2) := by
  refine mh_M_of RX11 rfl (by decide +kernel) [some (.ref 0), some (.ref 75), some (.int (Int32.ofInt (b))), none, none, none, none] rfl (Nat.le_of_ble_eq_true rfl) (fun f F Z hn0 hR => ?_)
  have zA75 : sc_A 75 := Or.inr (Or.inr (by decide))
  have hh := hi.2.2.2.1
  have hq0 := hi.2.1
  have hpc := (hh.2 b (by omega) (by omega)).1
  have hLc : h 29 b = s (33 + 2 * b) := (hV.1.2.1 b (by omega) (by omega)).1
  obtain ⟨n6, n7, n8, n10, n14, n15⟩ := hV.2.2
  obtain ⟨VAL, hVAL⟩ : ∃ z, z = sp_to s k b (9 - c 3).toNat ob := ⟨_, rfl⟩
  have hc3 := hc.2.2.1
  refine mh_aload0 (pc := 0) F dX11_whereItTurns_0 ?_
  refine mh_getr (b := 25) (pc := 1) F sh_0 (by decide) fw_RX11_72_11 dX11_whereItTurns_1 rfl (fx_0_0 hF) ?_
  refine mh_geti (pc := 4) F sh_25 (by decide) fw_RX11_105_10 dX11_whereItTurns_4 rfl ?_
  refine mh_top (y := s 0) (mh_eqI n7) ?_
  refine mh_istore3 (pc := 7) F dX11_whereItTurns_7 rfl (by decide) ?_
  refine mh_aload1 (pc := 8) F dX11_whereItTurns_8 ?_
  refine mh_getir (pc := 9) F sh_75 (by decide) fw_RX11_169_0 dX11_whereItTurns_9 rfl r75 ?_
  refine mh_istore4 (pc := 12) F dX11_whereItTurns_12 rfl (by decide) ?_
  have L14 : ∀ (m : Nat) (qx : Int) (a : Int) (og : Int → Int) (hg : Nat → Int → Int) (t : Int → Int), (mh_FX hg) → (mh_fr [36, 75] h hg) → (hg 75 = t) → (0 ≤ a ∧ a ≤ 9) → (sp_ook og) → (og 17 = a ∧ og 18 = qx) → (0 ≤ qx ∧ qx ≤ s 0 + 9 * a) → (sc_t0 s k og t) → (t 3 = a) → (sc_ok t) → (VAL = sp_to s k b (9 - a).toNat og) → (9 - a).toNat = m → mh_V g f 7 96 0 0 14 [some (.ref 0), some (.ref 75), some (.int (Int32.ofInt (b))), some (.int (Int32.ofInt (qx))), some (.int (Int32.ofInt (a))), none, none] [] hg := by
    intro m
    induction m using Nat.strongRecOn with
    | _ m ihL14 =>
    intro qx a og hg t Fhg frhg q75hg ha hog hoa hqx ht0 hta hok hval hmz
    refine mh_iload4 (pc := 14) F dX11_whereItTurns_14 ?_
    refine mh_bipush (pc := 16) F dX11_whereItTurns_16 rfl ?_
    refine mh_icmp_ge (pc := 18) (tgt := 81) F dX11_whereItTurns_18 rfl (by omega) (by omega) (fun c_18 => ?_) (fun c_18 => ?_)
    · refine mh_iconst (pc := 81) F dX11_whereItTurns_81 ?_
      exact mh_ireturn F Z dX11_whereItTurns_82 ⟨mh_sv (by rw [← hVAL, hval, show (9 - a).toNat = 0 by omega]; rfl), Fhg, (frhg.mono (by simp))⟩
    · refine mh_aload0 (pc := 21) F dX11_whereItTurns_21 ?_
      refine mh_getr (b := 25) (pc := 22) F sh_0 (by decide) fw_RX11_72_11 dX11_whereItTurns_22 rfl (fx_0_0 Fhg) ?_
      refine mh_aload1 (pc := 25) F dX11_whereItTurns_25 ?_
      refine mh_iload2 (pc := 26) F dX11_whereItTurns_26 ?_
      refine mh_callV0 (pc := 27) (As := [.ref 75, .int (Int32.ofInt (b))]) (st := []) F (by omega) (k9_setOff (by omega) Fhg q75hg rfl zA75 (by omega)) wv_RX11_155_yX10_setOff dX11_whereItTurns_27 sh_25 rfl (by decide) rfl rfl (Nat.le_of_ble_eq_true rfl) ⟨Nat.zero_le _, Nat.zero_le _⟩ (fun r1 h1 q1 => ?_)
      obtain ⟨rfl, F1, fr1, qA1⟩ := q1
      rw [show _ = _ from (congrFun (frhg 29 (by simp)) b).trans hLc] at qA1
      have fr2 : mh_fr [36, 75] h h1 := (mh_fr.tr frhg fr1).mono (by simp)
      obtain ⟨c0, ec0⟩ : ∃ z : Int → Int, z = sc_off t b (s (33 + 2 * b)) := ⟨_, rfl⟩
      rw [← ec0] at qA1
      obtain ⟨hok0, h80⟩ := sc_off_ok (b := b) (p := s (33 + 2 * b)) hok (by omega) (by omega) (by omega)
      rw [← ec0] at hok0 h80
      refine mh_aload1 (pc := 30) F dX11_whereItTurns_30 ?_
      refine mh_getir (pc := 31) F sh_75 (by decide) fw_RX11_159_0 dX11_whereItTurns_31 rfl qA1 ?_
      refine mh_top (y := s (33 + 2 * b)) (mh_eqI (by rw [ec0]; unfold sc_off; exact mh_ur_eq rfl)) ?_
      refine mh_istore5 (pc := 34) F dX11_whereItTurns_34 rfl (by decide) ?_
      refine mh_iconst (pc := 36) F dX11_whereItTurns_36 ?_
      refine mh_istore6 (pc := 37) F dX11_whereItTurns_37 rfl (by decide) ?_
      have L39 : ∀ (m : Nat) (qy : Int) (i : Int) (hq : Nat → Int → Int) (u : Int → Int), (mh_FX hq) → (mh_fr [36, 75] h hq) → (hq 75 = u) → (0 ≤ i ∧ i ≤ s (33 + 2 * b)) → (qy = qx + i) → (u = sc_ps s c0 qx i.toNat) → (sp_anyb (sp_badq s k b og) i.toNat = false) → (s (33 + 2 * b) - i).toNat = m → mh_V g f 7 96 0 0 39 [some (.ref 0), some (.ref 75), some (.int (Int32.ofInt (b))), some (.int (Int32.ofInt (qy))), some (.int (Int32.ofInt (a))), some (.int (Int32.ofInt (s (33 + 2 * b)))), some (.int (Int32.ofInt (i)))] [] hq := by
        intro m
        induction m using Nat.strongRecOn with
        | _ m ihL39 =>
        intro qy i hq u Fhq frhq q75hq hi_ hqy hu hany hmz
        refine mh_iload6 (pc := 39) F dX11_whereItTurns_39 ?_
        obtain ⟨hokT, h8T⟩ := sc_ps_ok (s := s) (q := qx) hok0 h80 i.toNat
        rw [← hu] at hokT h8T
        refine mh_iload5 (pc := 41) F dX11_whereItTurns_41 ?_
        refine mh_icmp_ge (pc := 43) (tgt := 75) F dX11_whereItTurns_43 rfl (by omega) (by omega) (fun c_43 => ?_) (fun c_43 => ?_)
        · have hend := sc_rd_end (b := b) (q := qx) (by omega) hog (hta.trans hoa.1.symm) hoa.2 ht0 (by omega)
          rw [← ec0, show (s (33 + 2 * b)).toNat = i.toNat by omega, ← hu] at hend
          have hond := sp_on_ok (s := s) (k := k) (c := b) hog (by omega) (by omega)
          have hokE : sc_ok u := hokT
          refine mh_iinc4 (pc := 75) F dX11_whereItTurns_75 rfl (by decide) ?_
          refine mh_goto (pc := 78) (tgt := 14) F dX11_whereItTurns_78 rfl ?_
          refine mh_drop5 ?_
          refine mh_drop6 ?_
          exact ihL14 _ (by omega) qy (a + 1) (sp_on s og k b) hq u Fhq (frhq.mono (by simp)) q75hq (by omega) hond.1 (by omega) (by omega) hend.1 (by omega) hokE (hval.trans (sc_to_on (by omega) (by rw [show (s (33 + 2 * b)).toNat = i.toNat by omega]; exact hany))) rfl
        · refine mh_aload0 (pc := 46) F dX11_whereItTurns_46 ?_
          refine mh_getr (b := 25) (pc := 47) F sh_0 (by decide) fw_RX11_72_11 dX11_whereItTurns_47 rfl (fx_0_0 Fhq) ?_
          refine mh_aload1 (pc := 50) F dX11_whereItTurns_50 ?_
          refine mh_iload3 (pc := 51) F dX11_whereItTurns_51 ?_
          refine mh_callV0 (pc := 52) (As := [.ref 75, .int (Int32.ofInt (qy))]) (st := []) F (by omega) (k5_pass (by omega) Fhq q75hq rfl zA75 hokT (hV.1.of (fun x hx => frhq x (by simp; omega))) hh (by omega) h8T) wv_RX11_220_yX10_pass dX11_whereItTurns_52 sh_25 rfl (by decide) rfl rfl (Nat.le_of_ble_eq_true rfl) ⟨Nat.zero_le _, Nat.zero_le _⟩ (fun r3 h3 q3 => ?_)
          obtain ⟨rfl, F3, frp3, qA3⟩ := q3
          have fr4 : mh_fr [36, 75] h h3 := (mh_fr.tr frhq frp3).mono (by simp)
          obtain ⟨u2, eu2⟩ : ∃ z : Int → Int, z = sc_pass s u qy := ⟨_, rfl⟩
          rw [← eu2] at qA3
          have hu2 : u2 = sc_ps s c0 qx (i + 1).toNat := by rw [eu2, sc_ps_at s c0 qx hi_.1, ← hu, hqy]
          have hok2 : sc_ok u2 := by rw [eu2]; exact (sc_pass_ok hokT h8T).1
          have hr0 := sc_rd0 (b := b) (q := qx) (by omega) hog (hta.trans hoa.1.symm) hoa.2 ht0 (i + 1).toNat (by omega) (by omega)
          rw [← ec0, ← hu2] at hr0
          have hst2 := hr0.st
          have hbq := sc_badq (b := b) (i := i) hi_.1 hst2
          have hsr2 := sc_st_rg u2
          refine mh_pop (pc := 55) F dX11_whereItTurns_55 rfl ?_
          refine mh_iinc3 (pc := 56) F dX11_whereItTurns_56 rfl (by decide) ?_
          refine mh_aload1 (pc := 59) F dX11_whereItTurns_59 ?_
          refine mh_callVp (pc := 60) (As := []) (st := []) F (by omega) (k0_state (by omega) F3 qA3 zA75 hok2) wv_RX11_297_yX0_state dX11_whereItTurns_60 sh_75 rfl (by decide) rfl rfl (Nat.le_of_ble_eq_true rfl) ⟨Nat.zero_le _, Nat.zero_le _⟩ ?_
          refine mh_if_eq (pc := 63) (tgt := 69) F dX11_whereItTurns_63 rfl (by omega) (fun c_63 => ?_) (fun c_63 => ?_)
          · refine mh_iinc6 (pc := 69) F dX11_whereItTurns_69 rfl (by decide) ?_
            refine mh_goto (pc := 72) (tgt := 39) F dX11_whereItTurns_72 rfl ?_
            exact ihL39 _ (by omega) (qy + 1) (i + 1) h3 u2 F3 (fr4.mono (by simp)) qA3 (by omega) (by omega) hu2 (by rw [sp_anyb_at hi_.1, hany, hbq]; simp only [Bool.false_or]; exact decide_eq_false (by omega)) rfl
          · refine mh_iload4 (pc := 66) F dX11_whereItTurns_66 ?_
            exact mh_ireturn F Z dX11_whereItTurns_68 ⟨mh_sv (by rw [← hVAL, hval, sc_to_hit (by omega) hi_.1 (by omega) (by rw [hbq]; exact decide_eq_true (by omega))]; exact hoa.1.symm), F3, (fr4.mono (by simp))⟩
      exact L39 _ qx 0 h1 c0 F1 (fr2.mono (by simp)) qA1 (by omega) (by omega) rfl rfl rfl
  exact L14 _ (s 0) (c 3) ob h c hF (mh_fr.rf.mono (by simp)) r75 (by omega) hob (by omega) (by omega) ht0 rfl hc hVAL rfl

theorem sc_cp_ok {c b : Int → Int} (h : sc_ok b) : sc_ok (sc_cp c b) := h
theorem sc_cp_t0 {s c b o : Int → Int} {k : Int} (h : sc_is b (sp_row s k) k) (h8 : s (41 + 9 * k + 8) = 0) {q : Int} : sc_t0 s k (sp_bg o (s (41 + 9 * k + 2)) q (s (41 + 9 * k + 5)) (s (41 + 9 * k + 6))) (sc_cp c b) := by
  obtain ⟨a0, a1, a2, a3, a4, a5, a6, a7, a8, a9⟩ := h
  unfold sp_row at a1 a2 a3 a4 a5 a7 a8 a9
  obtain ⟨b17, b18, b19, b20⟩ := sp_bg_at (o := o) (a := s (41 + 9 * k + 2)) (q := q) (x := s (41 + 9 * k + 5)) (y := s (41 + 9 * k + 6))
  exact ⟨a1, a2, a9.trans h8, a7.trans b19.symm, a8.trans b20.symm⟩
set_option maxRecDepth 100000 in
set_option maxHeartbeats 2000000 in
theorem q_turnsAt {g : mh_G} {d : Nat} (hd : 18 ≤ d) {h : Nat → Int → Int} (hF : mh_FX h) {s er o : Int → Int} {k c : Int} (hk : -2147483648 ≤ k ∧ k < 2147483648) (hc : -2147483648 ≤ c ∧ c < 2147483648) (hi : sp_inv s) (hV : sc_V h s) (hE : sc_E h er) (hKN : sc_KN h) : mh_M g d yX11_turnsAt cX11_turnsAt 4 (some .int) 96 0 0 [.ref 0, .int (Int32.ofInt (k)), .int (Int32.ofInt (c))] h (fun r h2 => ∃ (vv : Int) (tt ee : Int → Int), (vv, tt, ee) = sp_turnsAt k c s er o ∧ r = some (.int (Int32.ofInt vv)) ∧ mh_FX h2 ∧ mh_fr [36, 75, 24] h h2 ∧ sc_V h2 tt ∧ sc_E h2 ee) := by
  refine mh_M_of RX11 rfl (by decide +kernel) [some (.ref 0), some (.int (Int32.ofInt (k))), some (.int (Int32.ofInt (c))), none] rfl (Nat.le_of_ble_eq_true rfl) (fun f F Z hn0 hR => ?_)
  have hm := hi.1
  have hq0 := hi.2.1
  have hs1 := hi.2.2.1
  have hh := hi.2.2.2.1
  obtain ⟨n6, n7, n8, n10, n14, n15⟩ := hV.2.2
  refine mh_aload0 (pc := 0) F dX11_turnsAt_0 ?_
  refine mh_iload1 (pc := 1) F dX11_turnsAt_1 ?_
  refine mh_callVp (pc := 2) (As := [.int (Int32.ofInt (k))]) (st := []) F (by omega) (k8_isChurn (by omega) hF (by omega) hV.2.2 (by omega)) wv_RX11_139_yX11_isChurn dX11_turnsAt_2 sh_0 rfl (by decide) rfl rfl (Nat.le_of_ble_eq_true rfl) ⟨Nat.zero_le _, Nat.zero_le _⟩ ?_
  refine mh_ifb_eq (pc := 5) (tgt := 15) F dX11_turnsAt_5 rfl (fun c_5 => ?_) (fun c_5 => ?_)
  · refine mh_aload0 (pc := 15) F dX11_turnsAt_15 ?_
    refine mh_iconst (pc := 16) F dX11_turnsAt_16 ?_
    refine mh_callV0 (pc := 17) (As := [.int (Int32.ofInt (1))]) (st := []) F (by omega) (k8_refuse (by omega) hF rfl (by decide)) wv_RX11_90_yX11_refuse dX11_turnsAt_17 sh_0 rfl (by decide) rfl rfl (Nat.le_of_ble_eq_true rfl) ⟨Nat.zero_le _, Nat.zero_le _⟩ (fun r1 h1 q1 => ?_)
    obtain ⟨rfl, F1, fr1, q1_0⟩ := q1
    have fr2 : mh_fr [24] h h1 := (mh_fr.tr mh_fr.rf fr1).mono (by simp)
    have hVr : sc_V h1 s := sc_V_fr hV (fun a a1 a2 a3 a4 => fr1 a (by simp; omega))
    have hEr : sc_E h1 (mh_ur er 1 (er 1 + 1)) := hE.up (by decide) q1_0
    exact mh_ireturn F Z dX11_turnsAt_20 ⟨_, _, _, (by unfold sp_turnsAt; (repeat' split) <;> first | rfl | (exfalso; omega)), rfl, F1, (fr2.mono (by simp)), hVr, hEr⟩
  · refine mh_iload2 (pc := 8) F dX11_turnsAt_8 ?_
    refine mh_callSp (pc := 9) (As := [.int (Int32.ofInt (c))]) (st := []) F (by omega) (k4_isCarrier (by omega) (by omega)) ws_RX11_113 dX11_turnsAt_9 rfl rfl (Nat.le_of_ble_eq_true rfl) ⟨Nat.zero_le _, Nat.zero_le _⟩ ?_
    refine mh_ifb_ne (pc := 12) (tgt := 21) F dX11_turnsAt_12 rfl (fun c_12 => ?_) (fun c_12 => ?_)
    · have hkk : 0 ≤ k ∧ k < 6 := by omega
      have zAk := sc_Aj hkk
      have hcs : sc_is (h (44 + k.toNat)) (sp_row s k) k := hV.2.1 k hkk.1 hkk.2
      have hcr := hi.2.2.2.2.1 k hkk.1 hkk.2
      have hco := hcs.ok hcr
      obtain ⟨d0, d1, d2, d3, d4, d5, d6, d7, d8, d9⟩ := id hcs
      unfold sp_row at d1 d2 d3 d4 d5 d6 d7 d8 d9
      obtain ⟨c0, c1, c2, c3, c4, c5, c6, c7, c8, c9, c10, c11, c12, c13⟩ := id hcr
      unfold sp_row at c0 c1 c2 c3 c4 c5 c6 c7 c8 c9 c10 c11 c12 c13
      have hcA := zAk.rg
      have hst0 : sc_st (h (44 + k.toNat)) = sp_stm s k := hcs.st
      have hgv := sc_stm_g (s := s) (k := k) c8
      have hsr0 := sp_stm_rg s k
      have zA75 : sc_A 75 := Or.inr (Or.inr (by decide))
      refine mh_aload0 (pc := 21) F dX11_turnsAt_21 ?_
      refine mh_getr (b := 25) (pc := 22) F sh_0 (by decide) fw_RX11_72_11 dX11_turnsAt_22 rfl (fx_0_0 hF) ?_
      refine mh_getr (b := 31) (pc := 25) F sh_25 (by decide) fw_RX11_126_10 dX11_turnsAt_25 rfl (fx_25_5 hF) ?_
      refine mh_iload1 (pc := 28) F dX11_turnsAt_28 ?_
      refine mh_aaload (b := 44 + (k).toNat) (pc := 29) F sh_31 (by decide) (by decide) (by omega) dX11_turnsAt_29 (fx_31 hF (by omega)) ?_
      refine mh_callVp (pc := 30) (As := []) (st := []) F (by omega) (k0_standsSweet (by omega) hF rfl zAk hco) wv_RX11_224_yX0_standsSweet dX11_turnsAt_30 zAk.sh rfl zAk.lt rfl rfl (Nat.le_of_ble_eq_true rfl) ⟨Nat.zero_le _, Nat.zero_le _⟩ ?_
      refine mh_ifb_ne (pc := 33) (tgt := 42) F dX11_turnsAt_33 rfl (fun c_33 => ?_) (fun c_33 => ?_)
      · refine mh_aload0 (pc := 42) F dX11_turnsAt_42 ?_
        refine mh_getr (b := 9) (pc := 43) F sh_0 (by decide) fw_RX11_38_11 dX11_turnsAt_43 rfl (fx_0_4 hF) ?_
        refine mh_iconst (pc := 46) F dX11_turnsAt_46 ?_
        refine mh_aaload (b := 75) (pc := 47) F sh_9 (by decide) (by decide) (by omega) dX11_turnsAt_47 (fx_9_0 hF) ?_
        refine mh_astore3 (pc := 48) F dX11_turnsAt_48 rfl (by decide) ?_
        refine mh_aload3 (pc := 49) F dX11_turnsAt_49 ?_
        refine mh_aload0 (pc := 50) F dX11_turnsAt_50 ?_
        refine mh_getr (b := 25) (pc := 51) F sh_0 (by decide) fw_RX11_72_11 dX11_turnsAt_51 rfl (fx_0_0 hF) ?_
        refine mh_getr (b := 31) (pc := 54) F sh_25 (by decide) fw_RX11_126_10 dX11_turnsAt_54 rfl (fx_25_5 hF) ?_
        refine mh_iload1 (pc := 57) F dX11_turnsAt_57 ?_
        refine mh_aaload (b := 44 + (k).toNat) (pc := 58) F sh_31 (by decide) (by decide) (by omega) dX11_turnsAt_58 (fx_31 hF (by omega)) ?_
        refine mh_callV0 (pc := 59) (As := [.ref (44 + (k).toNat)]) (st := []) F (by omega) (k0_copy (by omega) hF rfl rfl zA75 zAk (by omega) hco) wv_RX11_216_yX0_copy dX11_turnsAt_59 sh_75 rfl (by decide) rfl rfl (Nat.le_of_ble_eq_true rfl) ⟨Nat.zero_le _, Nat.zero_le _⟩ (fun r3 h3 q3 => ?_)
        obtain ⟨rfl, F3, fr3, q3_0⟩ := q3
        have fr4 : mh_fr [75] h h3 := (mh_fr.tr mh_fr.rf fr3).mono (by simp)
        obtain ⟨ob, eob⟩ : ∃ z : Int → Int, z = (sp_bg o (s (41 + 9 * k + 2)) (s 0) (s (41 + 9 * k + 5)) (s (41 + 9 * k + 6))) := ⟨_, rfl⟩
        obtain ⟨b17, b18, b19, b20⟩ : ob 17 = s (41 + 9 * k + 2) ∧ ob 18 = s 0 ∧ ob 19 = s (41 + 9 * k + 5) ∧ ob 20 = s (41 + 9 * k + 6) := by rw [eob]; exact sp_bg_at
        have hob : sp_ook ob := by unfold sp_ook; rw [b17, b18, b19, b20]; omega
        have hob2 : ob 17 = sc_cp (h 75) (h (44 + k.toNat)) 3 ∧ ob 18 = s 0 := ⟨b17.trans (show s (41 + 9 * k + 2) = h (44 + k.toNat) 3 from d3.symm), b18⟩
        have ht0c : sc_t0 s k ob (sc_cp (h 75) (h (44 + k.toNat))) := by rw [eob]; exact sc_cp_t0 hcs (by omega)
        refine mh_aload0 (pc := 62) F dX11_turnsAt_62 ?_
        refine mh_aload3 (pc := 63) F dX11_turnsAt_63 ?_
        refine mh_iload2 (pc := 64) F dX11_turnsAt_64 ?_
        refine mh_callV0 (pc := 65) (As := [.ref 75, .int (Int32.ofInt (c))]) (st := []) F (by omega) (k13_where (k := k) (by omega) F3 q3_0 hi (sc_V_fr hV (fun a a1 a2 a3 a4 => fr4 a (by simp; omega))) (by omega) (sc_cp_ok hco) (show sc_cp (h 75) (h (44 + k.toNat)) 3 ≤ 8 from (by show h (44 + k.toNat) 3 ≤ 8; omega)) hob hob2 ht0c) wv_RX11_237_yX11_whereItTurns dX11_turnsAt_65 sh_0 rfl (by decide) rfl rfl (Nat.le_of_ble_eq_true rfl) ⟨Nat.zero_le _, Nat.zero_le _⟩ (fun r5 h5 q5 => ?_)
        obtain ⟨rfl, F5, frw⟩ := q5
        have fr6 : mh_fr [36, 75] h h5 := (mh_fr.tr fr4 frw).mono (by simp)
        refine mh_top (y := sp_to s k c (9 - s (41 + 9 * k + 2)).toNat (sp_bg o (s (41 + 9 * k + 2)) (s 0) (s (41 + 9 * k + 5)) (s (41 + 9 * k + 6)))) (mh_eqI (by rw [show sc_cp (h 75) (h (44 + k.toNat)) 3 = s (41 + 9 * k + 2) from d3, eob])) ?_
        exact mh_ireturn F Z dX11_turnsAt_68 ⟨_, _, _, (by unfold sp_turnsAt; (repeat' split) <;> first | rfl | (exfalso; omega)), rfl, F5, (fr6.mono (by simp)), (sc_V_fr hV (fun a a1 a2 a3 a4 => fr6 a (by simp; omega))), (hE.of (fr6 24 (by simp)))⟩
      · refine mh_aload0 (pc := 36) F dX11_turnsAt_36 ?_
        refine mh_iconst (pc := 37) F dX11_turnsAt_37 ?_
        refine mh_callV0 (pc := 38) (As := [.int (Int32.ofInt (3))]) (st := []) F (by omega) (k8_refuse (by omega) hF rfl (by decide)) wv_RX11_90_yX11_refuse dX11_turnsAt_38 sh_0 rfl (by decide) rfl rfl (Nat.le_of_ble_eq_true rfl) ⟨Nat.zero_le _, Nat.zero_le _⟩ (fun r7 h7 q7 => ?_)
        obtain ⟨rfl, F7, fr7, q7_0⟩ := q7
        have fr8 : mh_fr [24] h h7 := (mh_fr.tr mh_fr.rf fr7).mono (by simp)
        have hVr : sc_V h7 s := sc_V_fr hV (fun a a1 a2 a3 a4 => fr7 a (by simp; omega))
        have hEr : sc_E h7 (mh_ur er 3 (er 3 + 1)) := hE.up (by decide) q7_0
        exact mh_ireturn F Z dX11_turnsAt_41 ⟨_, _, _, (by unfold sp_turnsAt; (repeat' split) <;> first | rfl | (exfalso; omega)), rfl, F7, (fr8.mono (by simp)), hVr, hEr⟩
    · refine mh_aload0 (pc := 15) F dX11_turnsAt_15 ?_
      refine mh_iconst (pc := 16) F dX11_turnsAt_16 ?_
      refine mh_callV0 (pc := 17) (As := [.int (Int32.ofInt (1))]) (st := []) F (by omega) (k8_refuse (by omega) hF rfl (by decide)) wv_RX11_90_yX11_refuse dX11_turnsAt_17 sh_0 rfl (by decide) rfl rfl (Nat.le_of_ble_eq_true rfl) ⟨Nat.zero_le _, Nat.zero_le _⟩ (fun r9 h9 q9 => ?_)
      obtain ⟨rfl, F9, fr9, q9_0⟩ := q9
      have fr10 : mh_fr [24] h h9 := (mh_fr.tr mh_fr.rf fr9).mono (by simp)
      have hVr : sc_V h9 s := sc_V_fr hV (fun a a1 a2 a3 a4 => fr9 a (by simp; omega))
      have hEr : sc_E h9 (mh_ur er 1 (er 1 + 1)) := hE.up (by decide) q9_0
      exact mh_ireturn F Z dX11_turnsAt_20 ⟨_, _, _, (by unfold sp_turnsAt; (repeat' split) <;> first | rfl | (exfalso; omega)), rfl, F9, (fr10.mono (by simp)), hVr, hEr⟩

