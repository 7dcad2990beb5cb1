/-! best given up, by whom -/
def sc_bv (s : Int → Int) (k b a : Int) (og : Int → Int) (wh mo : Int) (V : (Int → Int) × Int × Int) : Prop := (a ≤ 9 → V = sp_bl s k b (9 - a).toNat (sp_on s og k b) wh mo) ∧ (a = 10 → (wh, mo) = sp_be s k V)
theorem sc_bv0 {s og : Int → Int} {k b a v : Int} {V : (Int → Int) × Int × Int} (ha : a ≤ 8) (h17 : og 17 = a) (hv : v = sp_cheese s (og 17) (og 19)) (h0 : 0 ≤ v) (hV : V = sp_bl s k b (9 - a).toNat og (-1) (-1)) : sc_bv s k b (a + 1) og a v V := by
  refine ⟨fun _ => ?_, fun z => by omega⟩
  rw [hV, show (9 - a).toNat = (9 - (a + 1)).toNat + 1 by omega]
  show sp_bl s k b _ _ (if -1 < sp_cheese s (og 17) (og 19) then og 17 else -1) (max (-1) (sp_cheese s (og 17) (og 19))) = _
  rw [← hv, if_pos (by omega), h17, show max (-1) v = v by omega]
theorem sc_bv1 {s og : Int → Int} {k b a v wh mo wh2 mo2 : Int} {V : (Int → Int) × Int × Int} (h : sc_bv s k b a og wh mo V) (ha : a ≤ 8) (h17 : sp_on s og k b 17 = a) (hv : v = sp_cheese s (sp_on s og k b 17) (sp_on s og k b 19)) (h2 : (mo < v ∧ wh2 = a ∧ mo2 = v) ∨ (¬ mo < v ∧ wh2 = wh ∧ mo2 = mo)) : sc_bv s k b (a + 1) (sp_on s og k b) wh2 mo2 V := by
  refine ⟨fun _ => ?_, fun z => by omega⟩
  rw [h.1 (by omega), show (9 - a).toNat = (9 - (a + 1)).toNat + 1 by omega]
  show sp_bl s k b _ _ (if mo < sp_cheese s (sp_on s og k b 17) (sp_on s og k b 19) then sp_on s og k b 17 else wh) (max mo (sp_cheese s (sp_on s og k b 17) (sp_on s og k b 19))) = _
  rw [← hv, h17]
  rcases h2 with ⟨z, z1, z2⟩ | ⟨z, z1, z2⟩
  · rw [if_pos z, z1, z2, show max mo v = v by omega]
  · rw [if_neg z, z1, z2, show max mo v = mo by omega]
theorem sc_bv2 {s og : Int → Int} {k b a v wh mo wh2 mo2 : Int} {V : (Int → Int) × Int × Int} (ha : a = 9) (h : sc_bv s k b a og wh mo V) (hv : v = sp_worth s k (sp_on s og k b 19) (sp_on s og k b 20)) (h2 : (mo < v ∧ wh2 = 9 ∧ mo2 = v) ∨ (¬ mo < v ∧ wh2 = wh ∧ mo2 = mo)) : sc_bv s k b (a + 1) (sp_on s og k b) wh2 mo2 V := by
  subst ha
  refine ⟨fun z => by omega, fun _ => ?_⟩
  have hV : V = (sp_on s og k b, wh, mo) := h.1 (by decide)
  rw [hV]
  unfold sp_be
  simp only []
  rw [← hv]
  rcases h2 with ⟨z, z1, z2⟩ | ⟨z, z1, z2⟩
  · rw [if_pos z, z1, z2, show max mo v = v by omega]
  · rw [if_neg z, z1, z2, show max mo v = mo by omega]
theorem sc_t0.gain {s c o : Int → Int} {k : Int} (h : sc_t0 s k o c) : sp_law s 1 (sc_st c) (c 7) (c 2) = sp_worth s k (o 19) (o 20) := by
  rw [h.st]
  obtain ⟨a1, a2, a9, a7, a8⟩ := h
  unfold sp_worth
  rw [a7, a2]
theorem mh_or_0 {x : Int} (h : -2147483648 ≤ x ∧ x < 2147483648) : mh_or x 0 = x := by
  unfold mh_or
  rw [show Int32.ofInt 0 = (0 : Int32) from rfl, Int32.or_zero]
  exact Int32.toInt_ofInt_of_le h.1 h.2
theorem mh_orR (x y : Int) : -2147483648 ≤ mh_or x y ∧ mh_or x y < 2147483648 := ⟨Int32.le_toInt _, Int32.toInt_lt _⟩
set_option maxRecDepth 100000 in
set_option maxHeartbeats 2000000 in
theorem q_bestGiven {g : mh_G} {d : Nat} (hd : 18 ≤ d) {h : Nat → Int → Int} (hF : mh_FX h) {s er o : Int → Int} {k c w : Int} (hk : -2147483648 ≤ k ∧ k < 2147483648) (hc : -2147483648 ≤ c ∧ c < 2147483648) (hw : -2147483648 ≤ w ∧ w < 2147483648) (hi : sp_inv s) (hV : sc_V h s) (hE : sc_E h er) (hKN : sc_KN h) : mh_M g d yX11_bestGiven cX11_bestGiven 10 (some .int) 96 0 0 [.ref 0, .int (Int32.ofInt (k)), .int (Int32.ofInt (c)), .int (Int32.ofInt (w))] h (fun r h2 => ∃ (vv : Int) (tt ee : Int → Int), (vv, tt, ee) = sp_best k c w s er o ∧ r = some (.int (Int32.ofInt vv)) ∧ mh_FX h2 ∧ mh_fr [36, 41, 75, 24] h h2 ∧ sc_V h2 tt ∧ sc_E h2 ee) := by
  refine mh_M_of RX11 rfl (by decide +kernel) [some (.ref 0), some (.int (Int32.ofInt (k))), some (.int (Int32.ofInt (c))), some (.int (Int32.ofInt (w))), none, none, none, none, none, none] rfl (Nat.le_of_ble_eq_true rfl) (fun f F Z hn0 hR => ?_)
  have hm := hi.1
  have hq0 := hi.2.1
  have hs1 := hi.2.2.1
  have hh := hi.2.2.2.1
  obtain ⟨n6, n7, n8, n10, n14, n15⟩ := hV.2.2
  refine mh_aload0 (pc := 0) F dX11_bestGiven_0 ?_
  refine mh_iload1 (pc := 1) F dX11_bestGiven_1 ?_
  refine mh_callVp (pc := 2) (As := [.int (Int32.ofInt (k))]) (st := []) F (by omega) (k8_isChurn (by omega) hF (by omega) hV.2.2 (by omega)) wv_RX11_139_yX11_isChurn dX11_bestGiven_2 sh_0 rfl (by decide) rfl rfl (Nat.le_of_ble_eq_true rfl) ⟨Nat.zero_le _, Nat.zero_le _⟩ ?_
  refine mh_ifb_eq (pc := 5) (tgt := 24) F dX11_bestGiven_5 rfl (fun c_5 => ?_) (fun c_5 => ?_)
  · refine mh_aload0 (pc := 24) F dX11_bestGiven_24 ?_
    refine mh_iconst (pc := 25) F dX11_bestGiven_25 ?_
    refine mh_callV0 (pc := 26) (As := [.int (Int32.ofInt (1))]) (st := []) F (by omega) (k8_refuse (by omega) hF rfl (by decide)) wv_RX11_90_yX11_refuse dX11_bestGiven_26 sh_0 rfl (by decide) rfl rfl (Nat.le_of_ble_eq_true rfl) ⟨Nat.zero_le _, Nat.zero_le _⟩ (fun r1 h1 q1 => ?_)
    obtain ⟨rfl, F1, fr1, q1_0⟩ := q1
    have fr2 : mh_fr [24] h h1 := (mh_fr.tr mh_fr.rf fr1).mono (by simp)
    have hVr : sc_V h1 s := sc_V_fr hV (fun a a1 a2 a3 a4 => fr1 a (by simp; omega))
    have hEr : sc_E h1 (mh_ur er 1 (er 1 + 1)) := hE.up (by decide) q1_0
    exact mh_ireturn F Z dX11_bestGiven_29 ⟨_, _, _, (by unfold sp_best; (repeat' split) <;> first | rfl | (exfalso; omega)), rfl, F1, (fr2.mono (by simp)), hVr, hEr⟩
  · refine mh_iload2 (pc := 8) F dX11_bestGiven_8 ?_
    refine mh_callSp (pc := 9) (As := [.int (Int32.ofInt (c))]) (st := []) F (by omega) (k4_isCarrier (by omega) (by omega)) ws_RX11_113 dX11_bestGiven_9 rfl rfl (Nat.le_of_ble_eq_true rfl) ⟨Nat.zero_le _, Nat.zero_le _⟩ ?_
    refine mh_ifb_eq (pc := 12) (tgt := 24) F dX11_bestGiven_12 rfl (fun c_12 => ?_) (fun c_12 => ?_)
    · refine mh_aload0 (pc := 24) F dX11_bestGiven_24 ?_
      refine mh_iconst (pc := 25) F dX11_bestGiven_25 ?_
      refine mh_callV0 (pc := 26) (As := [.int (Int32.ofInt (1))]) (st := []) F (by omega) (k8_refuse (by omega) hF rfl (by decide)) wv_RX11_90_yX11_refuse dX11_bestGiven_26 sh_0 rfl (by decide) rfl rfl (Nat.le_of_ble_eq_true rfl) ⟨Nat.zero_le _, Nat.zero_le _⟩ (fun r3 h3 q3 => ?_)
      obtain ⟨rfl, F3, fr3, q3_0⟩ := q3
      have fr4 : mh_fr [24] h h3 := (mh_fr.tr mh_fr.rf fr3).mono (by simp)
      have hVr : sc_V h3 s := sc_V_fr hV (fun a a1 a2 a3 a4 => fr3 a (by simp; omega))
      have hEr : sc_E h3 (mh_ur er 1 (er 1 + 1)) := hE.up (by decide) q3_0
      exact mh_ireturn F Z dX11_bestGiven_29 ⟨_, _, _, (by unfold sp_best; (repeat' split) <;> first | rfl | (exfalso; omega)), rfl, F3, (fr4.mono (by simp)), hVr, hEr⟩
    · refine mh_iload3 (pc := 15) F dX11_bestGiven_15 ?_
      refine mh_iconst (pc := 16) F dX11_bestGiven_16 ?_
      refine mh_iconst (pc := 17) F dX11_bestGiven_17 ?_
      refine mh_callSp (pc := 18) (As := [.int (Int32.ofInt (w)), .int (Int32.ofInt (0)), .int (Int32.ofInt (1))]) (st := []) F (by omega) (k4_within (by omega) (by omega) (by omega) (by omega)) ws_RX11_82 dX11_bestGiven_18 rfl rfl (Nat.le_of_ble_eq_true rfl) ⟨Nat.zero_le _, Nat.zero_le _⟩ ?_
      refine mh_ifb_ne (pc := 21) (tgt := 30) F dX11_bestGiven_21 rfl (fun c_21 => ?_) (fun c_21 => ?_)
      · have hkk : 0 ≤ k ∧ k < 6 := by omega
        have zAk := sc_Aj hkk
        have hcs : sc_is (h (44 + k.toNat)) (sp_row s k) k := hV.2.1 k hkk.1 hkk.2
        have hcr := hi.2.2.2.2.1 k hkk.1 hkk.2
        have hco := hcs.ok hcr
        obtain ⟨d0, d1, d2, d3, d4, d5, d6, d7, d8, d9⟩ := id hcs
        unfold sp_row at d1 d2 d3 d4 d5 d6 d7 d8 d9
        obtain ⟨c0, c1, c2, c3, c4, c5, c6, c7, c8, c9, c10, c11, c12, c13⟩ := id hcr
        unfold sp_row at c0 c1 c2 c3 c4 c5 c6 c7 c8 c9 c10 c11 c12 c13
        have hcA := zAk.rg
        have hst0 : sc_st (h (44 + k.toNat)) = sp_stm s k := hcs.st
        have hgv := sc_stm_g (s := s) (k := k) c8
        have hsr0 := sp_stm_rg s k
        have zA75 : sc_A 75 := Or.inr (Or.inr (by decide))
        refine mh_aload0 (pc := 30) F dX11_bestGiven_30 ?_
        refine mh_getr (b := 25) (pc := 31) F sh_0 (by decide) fw_RX11_72_11 dX11_bestGiven_31 rfl (fx_0_0 hF) ?_
        refine mh_getr (b := 31) (pc := 34) F sh_25 (by decide) fw_RX11_126_10 dX11_bestGiven_34 rfl (fx_25_5 hF) ?_
        refine mh_iload1 (pc := 37) F dX11_bestGiven_37 ?_
        refine mh_aaload (b := 44 + (k).toNat) (pc := 38) F sh_31 (by decide) (by decide) (by omega) dX11_bestGiven_38 (fx_31 hF (by omega)) ?_
        refine mh_callVp (pc := 39) (As := []) (st := []) F (by omega) (k0_stands (by omega) hF rfl zAk hco) wv_RX11_151_yX0_stands dX11_bestGiven_39 zAk.sh rfl zAk.lt rfl rfl (Nat.le_of_ble_eq_true rfl) ⟨Nat.zero_le _, Nat.zero_le _⟩ ?_
        refine mh_ifb_ne (pc := 42) (tgt := 51) F dX11_bestGiven_42 rfl (fun c_42 => ?_) (fun c_42 => ?_)
        · refine mh_aload0 (pc := 51) F dX11_bestGiven_51 ?_
          refine mh_getr (b := 9) (pc := 52) F sh_0 (by decide) fw_RX11_38_11 dX11_bestGiven_52 rfl (fx_0_4 hF) ?_
          refine mh_iconst (pc := 55) F dX11_bestGiven_55 ?_
          refine mh_aaload (b := 75) (pc := 56) F sh_9 (by decide) (by decide) (by omega) dX11_bestGiven_56 (fx_9_0 hF) ?_
          refine mh_astore4 (pc := 57) F dX11_bestGiven_57 rfl (by decide) ?_
          refine mh_aload4 (pc := 59) F dX11_bestGiven_59 ?_
          refine mh_aload0 (pc := 61) F dX11_bestGiven_61 ?_
          refine mh_getr (b := 25) (pc := 62) F sh_0 (by decide) fw_RX11_72_11 dX11_bestGiven_62 rfl (fx_0_0 hF) ?_
          refine mh_getr (b := 31) (pc := 65) F sh_25 (by decide) fw_RX11_126_10 dX11_bestGiven_65 rfl (fx_25_5 hF) ?_
          refine mh_iload1 (pc := 68) F dX11_bestGiven_68 ?_
          refine mh_aaload (b := 44 + (k).toNat) (pc := 69) F sh_31 (by decide) (by decide) (by omega) dX11_bestGiven_69 (fx_31 hF (by omega)) ?_
          refine mh_callV0 (pc := 70) (As := [.ref (44 + (k).toNat)]) (st := []) F (by omega) (k0_copy (by omega) hF rfl rfl zA75 zAk (by omega) hco) wv_RX11_216_yX0_copy dX11_bestGiven_70 sh_75 rfl (by decide) rfl rfl (Nat.le_of_ble_eq_true rfl) ⟨Nat.zero_le _, Nat.zero_le _⟩ (fun r5 h5 q5 => ?_)
          obtain ⟨rfl, F5, fr5, q5_0⟩ := q5
          have fr6 : mh_fr [75] h h5 := (mh_fr.tr mh_fr.rf fr5).mono (by simp)
          obtain ⟨c0x, ec0⟩ : ∃ z : Int → Int, z = sc_cp (h 75) (h (44 + (k).toNat)) := ⟨_, rfl⟩
          rw [← ec0] at q5_0
          obtain ⟨ob, eob⟩ : ∃ z : Int → Int, z = (sp_bg o (s (41 + 9 * k + 2)) (s 0) (s (41 + 9 * k + 5)) (s (41 + 9 * k + 6))) := ⟨_, rfl⟩
          obtain ⟨b17, b18, b19, b20⟩ : ob 17 = s (41 + 9 * k + 2) ∧ ob 18 = s 0 ∧ ob 19 = s (41 + 9 * k + 5) ∧ ob 20 = s (41 + 9 * k + 6) := by rw [eob]; exact sp_bg_at
          have hob : sp_ook ob := by unfold sp_ook; rw [b17, b18, b19, b20]; omega
          have hokT : sc_ok c0x := by rw [ec0]; exact sc_cp_ok hco
          have ht0c : sc_t0 s k ob c0x := by rw [ec0, eob]; exact sc_cp_t0 hcs (by omega)
          have hc3 : c0x 3 = s (41 + 9 * k + 2) := by rw [ec0]; exact d3
          have hc7 : c0x 7 = s (41 + 9 * k + 5) := by rw [ec0]; exact d7
          have hpc := (hh.2 c (by omega) (by omega)).1
          have hch := sp_cheese_rg (s := s) (a := s (41 + 9 * k + 2)) (x := s (41 + 9 * k + 5)) (hh.1 (s (41 + 9 * k + 2)) (by omega) (by omega)).2.2 c5
          refine mh_aload0 (pc := 73) F dX11_bestGiven_73 ?_
          refine mh_getr (b := 25) (pc := 74) F sh_0 (by decide) fw_RX11_72_11 dX11_bestGiven_74 rfl (fx_0_0 F5) ?_
          refine mh_aload4 (pc := 77) F dX11_bestGiven_77 ?_
          refine mh_callVp (pc := 79) (As := [.ref 75]) (st := []) F (by omega) (k4_cheese (by omega) F5 q5_0 zA75 hokT (hV.1.of (fun x hx => fr6 x (by simp; omega))) hh) wv_RX11_175_yX10_cheesePrice dX11_bestGiven_79 sh_25 rfl (by decide) rfl rfl (Nat.le_of_ble_eq_true rfl) ⟨Nat.zero_le _, Nat.zero_le _⟩ ?_
          refine mh_top (y := sp_cheese s (s (41 + 9 * k + 2)) (s (41 + 9 * k + 5))) (mh_eqI (by rw [if_pos (by omega), hc3, hc7])) ?_
          refine mh_istore5 (pc := 82) F dX11_bestGiven_82 rfl (by decide) ?_
          refine mh_aload4 (pc := 84) F dX11_bestGiven_84 ?_
          refine mh_getir (pc := 86) F sh_75 (by decide) fw_RX11_169_0 dX11_bestGiven_86 rfl q5_0 ?_
          refine mh_top (y := s (41 + 9 * k + 2)) (mh_eqI hc3) ?_
          refine mh_istore6 (pc := 89) F dX11_bestGiven_89 rfl (by decide) ?_
          refine mh_aload0 (pc := 91) F dX11_bestGiven_91 ?_
          refine mh_getr (b := 25) (pc := 92) F sh_0 (by decide) fw_RX11_72_11 dX11_bestGiven_92 rfl (fx_0_0 F5) ?_
          refine mh_geti (pc := 95) F sh_25 (by decide) fw_RX11_105_10 dX11_bestGiven_95 rfl ?_
          refine mh_top (y := s 0) (mh_eqI ((congrFun (fr6 25 (by simp)) 7).trans n7)) ?_
          refine mh_istore7 (pc := 98) F dX11_bestGiven_98 rfl (by decide) ?_
          refine mh_aload4 (pc := 100) F dX11_bestGiven_100 ?_
          refine mh_getir (pc := 102) F sh_75 (by decide) fw_RX11_169_0 dX11_bestGiven_102 rfl q5_0 ?_
          refine mh_top (y := s (41 + 9 * k + 2)) (mh_eqI hc3) ?_
          refine mh_iconst (pc := 105) F dX11_bestGiven_105 ?_
          refine mh_iadd (pc := 106) F dX11_bestGiven_106 ?_
          refine mh_istore8 (pc := 107) F dX11_bestGiven_107 rfl (by decide) ?_
          have L109 : ∀ (m : Nat) (mo : Int) (wh : Int) (qx : Int) (a : Int) (og : Int → Int) (hg : Nat → Int → Int) (t : Int → Int), (mh_FX hg) → (mh_fr [36, 41, 75] h hg) → (hg 75 = t) → (s (41 + 9 * k + 2) + 1 ≤ a ∧ a ≤ 10) → (sp_ook og) → (og 17 = a - 1 ∧ og 18 = qx) → (0 ≤ qx ∧ qx ≤ s 0 + 9 * a) → (sc_t0 s k og t) → (t 3 = a - 1) → (sc_ok t) → (0 ≤ wh ∧ wh ≤ 9) → (0 ≤ mo ∧ mo ≤ 9900) → (sc_bv s k c a og wh mo (sp_bl s k c (9 - s (41 + 9 * k + 2)).toNat ob (-1) (-1))) → (10 - a).toNat = m → mh_V g f 10 96 0 0 109 [some (.ref 0), some (.int (Int32.ofInt (k))), some (.int (Int32.ofInt (c))), some (.int (Int32.ofInt (w))), some (.ref 75), some (.int (Int32.ofInt (mo))), some (.int (Int32.ofInt (wh))), some (.int (Int32.ofInt (qx))), some (.int (Int32.ofInt (a))), none] [] hg := by
            intro m
            induction m using Nat.strongRecOn with
            | _ m ihL109 =>
            intro mo wh qx a og hg t Fhg frhg q75hg ha hog hoa hqx ht0 hta hokT hwh hmo hbv hmz
            refine mh_iload8 (pc := 109) F dX11_bestGiven_109 ?_
            refine mh_bipush (pc := 111) F dX11_bestGiven_111 rfl ?_
            refine mh_icmp_gt (pc := 113) (tgt := 184) F dX11_bestGiven_113 rfl (by omega) (by omega) (fun c_113 => ?_) (fun c_113 => ?_)
            · refine mh_iload3 (pc := 184) F dX11_bestGiven_184 ?_
              refine mh_if_ne (pc := 185) (tgt := 193) F dX11_bestGiven_185 rfl (by omega) (fun c_185 => ?_) (fun c_185 => ?_)
              · refine mh_iload5 (pc := 193) F dX11_bestGiven_193 ?_
                exact mh_ireturn F Z dX11_bestGiven_195 ⟨_, _, _, (by have hz := hbv.2 (by omega); unfold sp_best; (repeat' split) <;> first | (exfalso; omega) | (rw [← eob, ← hz]; done) | (rw [← eob, ← hz])), rfl, Fhg, (frhg.mono (by simp)), (sc_V_fr hV (fun a a1 a2 a3 a4 => frhg a (by simp; omega))), (hE.of (frhg 24 (by simp)))⟩
              · refine mh_iload6 (pc := 188) F dX11_bestGiven_188 ?_
                refine mh_goto (pc := 190) (tgt := 195) F dX11_bestGiven_190 rfl ?_
                exact mh_ireturn F Z dX11_bestGiven_195 ⟨_, _, _, (by have hz := hbv.2 (by omega); unfold sp_best; (repeat' split) <;> first | (exfalso; omega) | (rw [← eob, ← hz]; done) | (rw [← eob, ← hz])), rfl, Fhg, (frhg.mono (by simp)), (sc_V_fr hV (fun a a1 a2 a3 a4 => frhg a (by simp; omega))), (hE.of (frhg 24 (by simp)))⟩
            · refine mh_iload7 (pc := 116) F dX11_bestGiven_116 ?_
              refine mh_aload0 (pc := 118) F dX11_bestGiven_118 ?_
              refine mh_getr (b := 25) (pc := 119) F sh_0 (by decide) fw_RX11_72_11 dX11_bestGiven_119 rfl (fx_0_0 Fhg) ?_
              refine mh_aload4 (pc := 122) F dX11_bestGiven_122 ?_
              refine mh_iload2 (pc := 124) F dX11_bestGiven_124 ?_
              refine mh_iload7 (pc := 125) F dX11_bestGiven_125 ?_
              refine mh_callV0 (pc := 127) (As := [.ref 75, .int (Int32.ofInt (c)), .int (Int32.ofInt (qx))]) (st := [.int (Int32.ofInt (qx))]) F (by omega) (k12_ride (by omega) Fhg q75hg hokT (by omega) (hV.1.of (fun x hx => frhg x (by simp; omega))) hh (by omega) (by omega)) wv_RX11_241_yX10_ride dX11_bestGiven_127 sh_25 rfl (by decide) rfl rfl (Nat.le_of_ble_eq_true rfl) ⟨Nat.zero_le _, Nat.zero_le _⟩ (fun r7 h7 q7 => ?_)
              obtain ⟨rfl, F7, fr7, qA7⟩ := q7
              have fr8 : mh_fr [36, 41, 75] h h7 := (mh_fr.tr frhg fr7).mono (by simp)
              obtain ⟨u, eu⟩ : ∃ z : Int → Int, z = sc_ps s (sc_off t c (s (33 + 2 * c))) qx (s (33 + 2 * c)).toNat := ⟨_, rfl⟩
              rw [← eu] at qA7
              have hend := sc_rd_end (b := c) (q := qx) (by omega) hog (hta.trans hoa.1.symm) hoa.2 ht0 (by omega)
              rw [← eu] at hend
              have hond := sp_on_ok (s := s) (k := k) (c := c) hog (by omega) (by omega)
              have hokE : sc_ok u := by rw [eu]; obtain ⟨z1, z2⟩ := sc_off_ok (b := c) (p := s (33 + 2 * c)) hokT (by omega) (by omega) (by omega); exact (sc_ps_ok z1 z2 _).1
              have hokT := hokE
              have hu7 : u 7 = sp_on s og k c 19 := hend.1.2.2.2.1
              have hu3 : u 3 = a := by have := hend.2; omega
              have hgn := hend.1.gain
              have hwr : 0 ≤ sp_worth s k (sp_on s og k c 19) (sp_on s og k c 20) ∧ sp_worth s k (sp_on s og k c 19) (sp_on s og k c 20) ≤ 999 := sp_law_rg1
              refine mh_iadd (pc := 130) F dX11_bestGiven_130 ?_
              refine mh_istore7 (pc := 131) F dX11_bestGiven_131 rfl (by decide) ?_
              refine mh_iload8 (pc := 133) F dX11_bestGiven_133 ?_
              refine mh_bipush (pc := 135) F dX11_bestGiven_135 rfl ?_
              refine mh_icmp_ne (pc := 137) (tgt := 152) F dX11_bestGiven_137 rfl (by omega) (by omega) (fun c_137 => ?_) (fun c_137 => ?_)
              · refine mh_aload0 (pc := 152) F dX11_bestGiven_152 ?_
                refine mh_getr (b := 25) (pc := 153) F sh_0 (by decide) fw_RX11_72_11 dX11_bestGiven_153 rfl (fx_0_0 F7) ?_
                refine mh_aload4 (pc := 156) F dX11_bestGiven_156 ?_
                refine mh_callVp (pc := 158) (As := [.ref 75]) (st := []) F (by omega) (k4_cheese (by omega) F7 qA7 zA75 hokT (hV.1.of (fun x hx => fr8 x (by simp; omega))) hh) wv_RX11_175_yX10_cheesePrice dX11_bestGiven_158 sh_25 rfl (by decide) rfl rfl (Nat.le_of_ble_eq_true rfl) ⟨Nat.zero_le _, Nat.zero_le _⟩ ?_
                refine mh_top (y := sp_cheese s a (sp_on s og k c 19)) (mh_eqI (by rw [if_pos (by omega), hu3, hu7])) ?_
                have hgv2 : sp_cheese s a (sp_on s og k c 19) = sp_cheese s (sp_on s og k c 17) (sp_on s og k c 19) := by rw [hond.2.1, show og 17 + 1 = a by omega]
                have hcr2 := sp_cheese_rg (s := s) (a := a) (x := sp_on s og k c 19) (hh.1 a (by omega) (by omega)).2.2 hond.1.2.2.1
                refine mh_istore9 (pc := 161) F dX11_bestGiven_161 rfl (by decide) ?_
                refine mh_iload9 (pc := 163) F dX11_bestGiven_163 ?_
                refine mh_iload5 (pc := 165) F dX11_bestGiven_165 ?_
                refine mh_icmp_le (pc := 167) (tgt := 178) F dX11_bestGiven_167 rfl (by omega) (by omega) (fun c_167 => ?_) (fun c_167 => ?_)
                · refine mh_iinc8 (pc := 178) F dX11_bestGiven_178 rfl (by decide) ?_
                  refine mh_goto (pc := 181) (tgt := 109) F dX11_bestGiven_181 rfl ?_
                  refine mh_drop9 ?_
                  exact ihL109 _ (by omega) mo wh (qx + (s (33 + 2 * c))) (a + 1) (sp_on s og k c) h7 u F7 (fr8.mono (by simp)) qA7 (by omega) hond.1 (by omega) (by omega) hend.1 (by omega) hokE (by omega) (by omega) (sc_bv1 hbv (by omega) (hond.2.1.trans (by omega)) hgv2 (by omega)) rfl
                · refine mh_iload9 (pc := 170) F dX11_bestGiven_170 ?_
                  refine mh_istore5 (pc := 172) F dX11_bestGiven_172 rfl (by decide) ?_
                  refine mh_iload8 (pc := 174) F dX11_bestGiven_174 ?_
                  refine mh_istore6 (pc := 176) F dX11_bestGiven_176 rfl (by decide) ?_
                  refine mh_iinc8 (pc := 178) F dX11_bestGiven_178 rfl (by decide) ?_
                  refine mh_goto (pc := 181) (tgt := 109) F dX11_bestGiven_181 rfl ?_
                  refine mh_drop9 ?_
                  exact ihL109 _ (by omega) (sp_cheese s a (sp_on s og k c 19)) a (qx + (s (33 + 2 * c))) (a + 1) (sp_on s og k c) h7 u F7 (fr8.mono (by simp)) qA7 (by omega) hond.1 (by omega) (by omega) hend.1 (by omega) hokE (by omega) (by omega) (sc_bv1 hbv (by omega) (hond.2.1.trans (by omega)) hgv2 (by omega)) rfl
              · refine mh_aload0 (pc := 140) F dX11_bestGiven_140 ?_
                refine mh_getr (b := 25) (pc := 141) F sh_0 (by decide) fw_RX11_72_11 dX11_bestGiven_141 rfl (fx_0_0 F7) ?_
                refine mh_aload4 (pc := 144) F dX11_bestGiven_144 ?_
                refine mh_callV0 (pc := 146) (As := [.ref 75]) (st := []) F (by omega) (k4_worth (by omega) F7 qA7 zA75 hokT (hV.1.of (fun x hx => fr8 x (by simp; omega)))) wv_RX11_245_yX10_worth dX11_bestGiven_146 sh_25 rfl (by decide) rfl rfl (Nat.le_of_ble_eq_true rfl) ⟨Nat.zero_le _, Nat.zero_le _⟩ (fun r9 h9 q9 => ?_)
                obtain ⟨rfl, F9, fr9⟩ := q9
                have r75_10 : h9 75 = u := (fr9 _ (by decide)).trans qA7
                have fr10 : mh_fr [36, 41, 75] h h9 := (mh_fr.tr fr8 fr9).mono (by simp)
                refine mh_top (y := sp_worth s k (sp_on s og k c 19) (sp_on s og k c 20)) (mh_eqI hgn) ?_
                have hgv2 : sp_worth s k (sp_on s og k c 19) (sp_on s og k c 20) = sp_worth s k (sp_on s og k c 19) (sp_on s og k c 20) := rfl
                refine mh_goto (pc := 149) (tgt := 161) F dX11_bestGiven_149 rfl ?_
                refine mh_istore9 (pc := 161) F dX11_bestGiven_161 rfl (by decide) ?_
                refine mh_iload9 (pc := 163) F dX11_bestGiven_163 ?_
                refine mh_iload5 (pc := 165) F dX11_bestGiven_165 ?_
                refine mh_icmp_le (pc := 167) (tgt := 178) F dX11_bestGiven_167 rfl (by omega) (by omega) (fun c_167 => ?_) (fun c_167 => ?_)
                · refine mh_iinc8 (pc := 178) F dX11_bestGiven_178 rfl (by decide) ?_
                  refine mh_goto (pc := 181) (tgt := 109) F dX11_bestGiven_181 rfl ?_
                  refine mh_drop9 ?_
                  exact ihL109 _ (by omega) mo wh (qx + (s (33 + 2 * c))) (a + 1) (sp_on s og k c) h9 u F9 (fr10.mono (by simp)) r75_10 (by omega) hond.1 (by omega) (by omega) hend.1 (by omega) hokE (by omega) (by omega) (sc_bv2 (by omega) hbv hgv2 (by omega)) rfl
                · refine mh_iload9 (pc := 170) F dX11_bestGiven_170 ?_
                  refine mh_istore5 (pc := 172) F dX11_bestGiven_172 rfl (by decide) ?_
                  refine mh_iload8 (pc := 174) F dX11_bestGiven_174 ?_
                  refine mh_istore6 (pc := 176) F dX11_bestGiven_176 rfl (by decide) ?_
                  refine mh_iinc8 (pc := 178) F dX11_bestGiven_178 rfl (by decide) ?_
                  refine mh_goto (pc := 181) (tgt := 109) F dX11_bestGiven_181 rfl ?_
                  refine mh_drop9 ?_
                  exact ihL109 _ (by omega) (sp_worth s k (sp_on s og k c 19) (sp_on s og k c 20)) a (qx + (s (33 + 2 * c))) (a + 1) (sp_on s og k c) h9 u F9 (fr10.mono (by simp)) r75_10 (by omega) hond.1 (by omega) (by omega) hend.1 (by omega) hokE (by omega) (by omega) (sc_bv2 (by omega) hbv hgv2 (by omega)) rfl
          exact L109 _ (sp_cheese s (s (41 + 9 * k + 2)) (s (41 + 9 * k + 5))) (s (41 + 9 * k + 2)) (s 0) ((s (41 + 9 * k + 2)) + 1) ob h5 c0x F5 (fr6.mono (by simp)) q5_0 (by omega) hob (by omega) (by omega) ht0c (by omega) hokT (by omega) (by omega) (sc_bv0 (by omega) b17 (by rw [b17, b19]) hch.1 rfl) rfl
        · refine mh_aload0 (pc := 45) F dX11_bestGiven_45 ?_
          refine mh_iconst (pc := 46) F dX11_bestGiven_46 ?_
          refine mh_callV0 (pc := 47) (As := [.int (Int32.ofInt (3))]) (st := []) F (by omega) (k8_refuse (by omega) hF rfl (by decide)) wv_RX11_90_yX11_refuse dX11_bestGiven_47 sh_0 rfl (by decide) rfl rfl (Nat.le_of_ble_eq_true rfl) ⟨Nat.zero_le _, Nat.zero_le _⟩ (fun r11 h11 q11 => ?_)
          obtain ⟨rfl, F11, fr11, q11_0⟩ := q11
          have fr12 : mh_fr [24] h h11 := (mh_fr.tr mh_fr.rf fr11).mono (by simp)
          have hVr : sc_V h11 s := sc_V_fr hV (fun a a1 a2 a3 a4 => fr11 a (by simp; omega))
          have hEr : sc_E h11 (mh_ur er 3 (er 3 + 1)) := hE.up (by decide) q11_0
          exact mh_ireturn F Z dX11_bestGiven_50 ⟨_, _, _, (by unfold sp_best; (repeat' split) <;> first | rfl | (exfalso; omega)), rfl, F11, (fr12.mono (by simp)), hVr, hEr⟩
      · refine mh_aload0 (pc := 24) F dX11_bestGiven_24 ?_
        refine mh_iconst (pc := 25) F dX11_bestGiven_25 ?_
        refine mh_callV0 (pc := 26) (As := [.int (Int32.ofInt (1))]) (st := []) F (by omega) (k8_refuse (by omega) hF rfl (by decide)) wv_RX11_90_yX11_refuse dX11_bestGiven_26 sh_0 rfl (by decide) rfl rfl (Nat.le_of_ble_eq_true rfl) ⟨Nat.zero_le _, Nat.zero_le _⟩ (fun r13 h13 q13 => ?_)
        obtain ⟨rfl, F13, fr13, q13_0⟩ := q13
        have fr14 : mh_fr [24] h h13 := (mh_fr.tr mh_fr.rf fr13).mono (by simp)
        have hVr : sc_V h13 s := sc_V_fr hV (fun a a1 a2 a3 a4 => fr13 a (by simp; omega))
        have hEr : sc_E h13 (mh_ur er 1 (er 1 + 1)) := hE.up (by decide) q13_0
        exact mh_ireturn F Z dX11_bestGiven_29 ⟨_, _, _, (by unfold sp_best; (repeat' split) <;> first | rfl | (exfalso; omega)), rfl, F13, (fr14.mono (by simp)), hVr, hEr⟩

theorem sc_new_ok {c : Int → Int} (h : sc_ok c) : sc_ok (sc_new c) := by
  obtain ⟨c1, c2, c3, c4, c5, c6, c7, c8, c9⟩ := h
  refine ⟨c1, c2, ?_, ?_, ?_, ?_, ?_, ?_, ?_⟩
  · show 0 ≤ (0 : Int) ∧ (0 : Int) ≤ 9; decide
  · show 0 ≤ (0 : Int) ∧ (0 : Int) ≤ 3; decide
  · show 0 ≤ (0 : Int) ∧ (0 : Int) ≤ 9; decide
  · show -1 ≤ (-1 : Int) ∧ (-1 : Int) ≤ 3; decide
  · show 0 ≤ (0 : Int) ∧ (0 : Int) ≤ 9999; decide
  · show 0 ≤ (0 : Int) ∧ (0 : Int) ≤ 9999; decide
  · show 0 ≤ (0 : Int) ∧ (0 : Int) ≤ 1; decide
set_option maxRecDepth 100000 in
set_option maxHeartbeats 2000000 in
theorem q_byWhom {g : mh_G} {d : Nat} (hd : 18 ≤ d) {h : Nat → Int → Int} (hF : mh_FX h) {s er o : Int → Int} {k q x : Int} (hk : -2147483648 ≤ k ∧ k < 2147483648) (hq : -2147483648 ≤ q ∧ q < 2147483648) (hx : -2147483648 ≤ x ∧ x < 2147483648) (hi : sp_inv s) (hV : sc_V h s) (hE : sc_E h er) (hKN : sc_KN h) : mh_M g d yX11_byWhom cX11_byWhom 9 (some .int) 96 0 0 [.ref 0, .int (Int32.ofInt (k)), .int (Int32.ofInt (q)), .int (Int32.ofInt (x))] h (fun r h2 => ∃ (vv : Int) (tt ee : Int → Int), (vv, tt, ee) = sp_byWhom k q x s er o ∧ r = some (.int (Int32.ofInt vv)) ∧ mh_FX h2 ∧ mh_fr [36, 75, 24] h h2 ∧ sc_V h2 tt ∧ sc_E h2 ee) := by
  refine mh_M_of RX11 rfl (by decide +kernel) [some (.ref 0), some (.int (Int32.ofInt (k))), some (.int (Int32.ofInt (q))), some (.int (Int32.ofInt (x))), none, none, none, none, none] rfl (Nat.le_of_ble_eq_true rfl) (fun f F Z hn0 hR => ?_)
  have hm := hi.1
  have hq0 := hi.2.1
  have hs1 := hi.2.2.1
  have hh := hi.2.2.2.1
  obtain ⟨n6, n7, n8, n10, n14, n15⟩ := hV.2.2
  refine mh_aload0 (pc := 0) F dX11_byWhom_0 ?_
  refine mh_iload1 (pc := 1) F dX11_byWhom_1 ?_
  refine mh_callVp (pc := 2) (As := [.int (Int32.ofInt (k))]) (st := []) F (by omega) (k8_isChurn (by omega) hF (by omega) hV.2.2 (by omega)) wv_RX11_139_yX11_isChurn dX11_byWhom_2 sh_0 rfl (by decide) rfl rfl (Nat.le_of_ble_eq_true rfl) ⟨Nat.zero_le _, Nat.zero_le _⟩ ?_
  refine mh_ifb_eq (pc := 5) (tgt := 19) F dX11_byWhom_5 rfl (fun c_5 => ?_) (fun c_5 => ?_)
  · refine mh_aload0 (pc := 19) F dX11_byWhom_19 ?_
    refine mh_iconst (pc := 20) F dX11_byWhom_20 ?_
    refine mh_callV0 (pc := 21) (As := [.int (Int32.ofInt (1))]) (st := []) F (by omega) (k8_refuse (by omega) hF rfl (by decide)) wv_RX11_90_yX11_refuse dX11_byWhom_21 sh_0 rfl (by decide) rfl rfl (Nat.le_of_ble_eq_true rfl) ⟨Nat.zero_le _, Nat.zero_le _⟩ (fun r1 h1 q1 => ?_)
    obtain ⟨rfl, F1, fr1, q1_0⟩ := q1
    have fr2 : mh_fr [24] h h1 := (mh_fr.tr mh_fr.rf fr1).mono (by simp)
    have hVr : sc_V h1 s := sc_V_fr hV (fun a a1 a2 a3 a4 => fr1 a (by simp; omega))
    have hEr : sc_E h1 (mh_ur er 1 (er 1 + 1)) := hE.up (by decide) q1_0
    exact mh_ireturn F Z dX11_byWhom_24 ⟨_, _, _, (by unfold sp_byWhom; (repeat' split) <;> first | rfl | (exfalso; omega)), rfl, F1, (fr2.mono (by simp)), hVr, hEr⟩
  · refine mh_iload2 (pc := 8) F dX11_byWhom_8 ?_
    refine mh_iconst (pc := 9) F dX11_byWhom_9 ?_
    refine mh_sipush (pc := 10) F dX11_byWhom_10 rfl ?_
    refine mh_callSp (pc := 13) (As := [.int (Int32.ofInt (q)), .int (Int32.ofInt (0)), .int (Int32.ofInt (9999))]) (st := []) F (by omega) (k4_within (by omega) (by omega) (by omega) (by omega)) ws_RX11_82 dX11_byWhom_13 rfl rfl (Nat.le_of_ble_eq_true rfl) ⟨Nat.zero_le _, Nat.zero_le _⟩ ?_
    refine mh_ifb_ne (pc := 16) (tgt := 25) F dX11_byWhom_16 rfl (fun c_16 => ?_) (fun c_16 => ?_)
    · have hkk : 0 ≤ k ∧ k < 6 := by omega
      have zAk := sc_Aj hkk
      have hcs : sc_is (h (44 + k.toNat)) (sp_row s k) k := hV.2.1 k hkk.1 hkk.2
      have hcr := hi.2.2.2.2.1 k hkk.1 hkk.2
      have hco := hcs.ok hcr
      obtain ⟨d0, d1, d2, d3, d4, d5, d6, d7, d8, d9⟩ := id hcs
      unfold sp_row at d1 d2 d3 d4 d5 d6 d7 d8 d9
      obtain ⟨c0, c1, c2, c3, c4, c5, c6, c7, c8, c9, c10, c11, c12, c13⟩ := id hcr
      unfold sp_row at c0 c1 c2 c3 c4 c5 c6 c7 c8 c9 c10 c11 c12 c13
      have hcA := zAk.rg
      have zA75 : sc_A 75 := Or.inr (Or.inr (by decide))
      refine mh_aload0 (pc := 25) F dX11_byWhom_25 ?_
      refine mh_getr (b := 9) (pc := 26) F sh_0 (by decide) fw_RX11_38_11 dX11_byWhom_26 rfl (fx_0_4 hF) ?_
      refine mh_iconst (pc := 29) F dX11_byWhom_29 ?_
      refine mh_aaload (b := 75) (pc := 30) F sh_9 (by decide) (by decide) (by omega) dX11_byWhom_30 (fx_9_0 hF) ?_
      refine mh_astore4 (pc := 31) F dX11_byWhom_31 rfl (by decide) ?_
      refine mh_aload4 (pc := 33) F dX11_byWhom_33 ?_
      refine mh_aload0 (pc := 35) F dX11_byWhom_35 ?_
      refine mh_getr (b := 25) (pc := 36) F sh_0 (by decide) fw_RX11_72_11 dX11_byWhom_36 rfl (fx_0_0 hF) ?_
      refine mh_getr (b := 31) (pc := 39) F sh_25 (by decide) fw_RX11_126_10 dX11_byWhom_39 rfl (fx_25_5 hF) ?_
      refine mh_iload1 (pc := 42) F dX11_byWhom_42 ?_
      refine mh_aaload (b := 44 + (k).toNat) (pc := 43) F sh_31 (by decide) (by decide) (by omega) dX11_byWhom_43 (fx_31 hF (by omega)) ?_
      refine mh_callV0 (pc := 44) (As := [.ref (44 + (k).toNat)]) (st := []) F (by omega) (k0_copy (by omega) hF rfl rfl zA75 zAk (by omega) hco) wv_RX11_216_yX0_copy dX11_byWhom_44 sh_75 rfl (by decide) rfl rfl (Nat.le_of_ble_eq_true rfl) ⟨Nat.zero_le _, Nat.zero_le _⟩ (fun r3 h3 q3 => ?_)
      obtain ⟨rfl, F3, fr3, q3_0⟩ := q3
      have fr4 : mh_fr [75] h h3 := (mh_fr.tr mh_fr.rf fr3).mono (by simp)
      obtain ⟨c0x, ec0⟩ : ∃ z : Int → Int, z = sc_cp (h 75) (h (44 + (k).toNat)) := ⟨_, rfl⟩
      rw [← ec0] at q3_0
      have hokT : sc_ok c0x := by rw [ec0]; exact sc_cp_ok hco
      have hk1 : c0x 1 = s (41 + 9 * k + 0) + 3 := by rw [ec0]; exact d1
      have hk2 : c0x 2 = s (41 + 9 * k + 1) := by rw [ec0]; exact d2
      refine mh_iconst (pc := 47) F dX11_byWhom_47 ?_
      refine mh_istore5 (pc := 48) F dX11_byWhom_48 rfl (by decide) ?_
      refine mh_iconst (pc := 50) F dX11_byWhom_50 ?_
      refine mh_istore6 (pc := 51) F dX11_byWhom_51 rfl (by decide) ?_
      have L53 : ∀ (m : Nat) (bb : Int) (c : Int) (og : Int → Int) (hg : Nat → Int → Int) (t : Int → Int), (mh_FX hg) → (mh_fr [36, 75] h hg) → (hg 75 = t) → (0 ≤ c ∧ c ≤ 4) → (sc_ok t) → (t 1 = s (41 + 9 * k + 0) + 3) → (t 2 = s (41 + 9 * k + 1)) → ((og, bb) = sp_bw s o k q x c.toNat) → (-2147483648 ≤ bb ∧ bb < 2147483648) → (4 - c).toNat = m → mh_V g f 9 96 0 0 53 [some (.ref 0), some (.int (Int32.ofInt (k))), some (.int (Int32.ofInt (q))), some (.int (Int32.ofInt (x))), some (.ref 75), some (.int (Int32.ofInt (bb))), some (.int (Int32.ofInt (c))), none, none] [] hg := by
        intro m
        induction m using Nat.strongRecOn with
        | _ m ihL53 =>
        intro bb c og hg t Fhg frhg q75hg hc_ hokT hk1 hk2 hbw hbr hmz
        refine mh_iload6 (pc := 53) F dX11_byWhom_53 ?_
        refine mh_iconst (pc := 55) F dX11_byWhom_55 ?_
        refine mh_icmp_ge (pc := 56) (tgt := 125) F dX11_byWhom_56 rfl (by omega) (by omega) (fun c_56 => ?_) (fun c_56 => ?_)
        · refine mh_iload5 (pc := 125) F dX11_byWhom_125 ?_
          exact mh_ireturn F Z dX11_byWhom_127 ⟨_, _, _, (by unfold sp_byWhom; (repeat' split) <;> first | (exfalso; omega) | (rw [show (4 : Nat) = c.toNat by omega, ← hbw])), rfl, Fhg, (frhg.mono (by simp)), (sc_V_fr hV (fun a a1 a2 a3 a4 => frhg a (by simp; omega))), (hE.of (frhg 24 (by simp)))⟩
        · refine mh_aload4 (pc := 59) F dX11_byWhom_59 ?_
          refine mh_callV0 (pc := 61) (As := []) (st := []) F (by omega) (k0_renew (by omega) Fhg q75hg zA75 hokT) wv_RX11_136_yX0_renew dX11_byWhom_61 sh_75 rfl (by decide) rfl rfl (Nat.le_of_ble_eq_true rfl) ⟨Nat.zero_le _, Nat.zero_le _⟩ (fun r5 h5 q5 => ?_)
          obtain ⟨rfl, F5, fr5, qA5⟩ := q5
          have fr6 : mh_fr [36, 75] h h5 := (mh_fr.tr frhg fr5).mono (by simp)
          obtain ⟨c1x, ec1x⟩ : ∃ z : Int → Int, z = sc_new t := ⟨_, rfl⟩
          rw [← ec1x] at qA5
          obtain ⟨ob, eob⟩ : ∃ z : Int → Int, z = sp_bg og 0 q 0 0 := ⟨_, rfl⟩
          obtain ⟨b17, b18, b19, b20⟩ : ob 17 = 0 ∧ ob 18 = q ∧ ob 19 = 0 ∧ ob 20 = 0 := by rw [eob]; exact sp_bg_at
          have hob : sp_ook ob := by unfold sp_ook; rw [b17, b18, b19, b20]; omega
          have hok1 : sc_ok c1x := by rw [ec1x]; exact sc_new_ok hokT
          have ht1 : sc_t0 s k ob c1x := by rw [ec1x]; exact ⟨hk1, hk2, rfl, b19.symm, b20.symm⟩
          have h13 : c1x 3 = 0 := by rw [ec1x]; rfl
          have hpc := (hh.2 c (by omega) (by omega)).1
          refine mh_iload2 (pc := 64) F dX11_byWhom_64 ?_
          refine mh_istore7 (pc := 65) F dX11_byWhom_65 rfl (by decide) ?_
          refine mh_iconst (pc := 67) F dX11_byWhom_67 ?_
          refine mh_istore8 (pc := 68) F dX11_byWhom_68 rfl (by decide) ?_
          have L70 : ∀ (m : Nat) (qx : Int) (a : Int) (o2 : Int → Int) (hq : Nat → Int → Int) (u : Int → Int), (mh_FX hq) → (mh_fr [36, 75] h hq) → (hq 75 = u) → (0 ≤ a ∧ a ≤ 9) → (sp_ook o2) → (o2 17 = a ∧ o2 18 = qx) → (0 ≤ qx ∧ qx ≤ 9999 + 9 * a) → (sc_t0 s k o2 u) → (u 3 = a) → (sc_ok u) → (sp_ons s k c 9 ob = sp_ons s k c (9 - a).toNat o2) → (9 - a).toNat = m → mh_V g f 9 96 0 0 70 [some (.ref 0), some (.int (Int32.ofInt (k))), some (.int (Int32.ofInt (q))), some (.int (Int32.ofInt (x))), some (.ref 75), some (.int (Int32.ofInt (bb))), some (.int (Int32.ofInt (c))), some (.int (Int32.ofInt (qx))), some (.int (Int32.ofInt (a)))] [] hq := by
            intro m
            induction m using Nat.strongRecOn with
            | _ m ihL70 =>
            intro qx a o2 hq u Fhq frhq q75hq ha hog hoa hqx ht0 hta hokT hval hmz
            refine mh_iload8 (pc := 70) F dX11_byWhom_70 ?_
            refine mh_bipush (pc := 72) F dX11_byWhom_72 rfl ?_
            refine mh_icmp_ge (pc := 74) (tgt := 101) F dX11_byWhom_74 rfl (by omega) (by omega) (fun c_74 => ?_) (fun c_74 => ?_)
            · rw [show (9 - a).toNat = 0 by omega] at hval
              have hval : sp_ons s k c 9 ob = o2 := hval
              have hu7 : u 7 = o2 19 := ht0.2.2.2.1
              have hu7r := hog.2.2.1
              have hkt : u 1 = s (41 + 9 * k + 0) + 3 ∧ u 2 = s (41 + 9 * k + 1) := ⟨ht0.1, ht0.2.1⟩
              refine mh_aload4 (pc := 101) F dX11_byWhom_101 ?_
              refine mh_getir (pc := 103) F sh_75 (by decide) fw_RX11_256_0 dX11_byWhom_103 rfl q75hq ?_
              refine mh_iload3 (pc := 106) F dX11_byWhom_106 ?_
              refine mh_icmp_ne (pc := 107) (tgt := 119) F dX11_byWhom_107 rfl (by omega) (by omega) (fun c_107 => ?_) (fun c_107 => ?_)
              · refine mh_iinc6 (pc := 119) F dX11_byWhom_119 rfl (by decide) ?_
                refine mh_goto (pc := 122) (tgt := 53) F dX11_byWhom_122 rfl ?_
                refine mh_drop7 ?_
                refine mh_drop8 ?_
                exact ihL53 _ (by omega) bb (c + 1) o2 hq u Fhq (frhq.mono (by simp)) q75hq (by omega) hokT hkt.1 hkt.2 (by rw [sp_bw_at s o k q x hc_.1, ← hbw]; unfold sp_bw1; simp only []; rw [← eob, hval]; first | (rw [if_pos (by omega)]; done) | (rw [if_neg (by omega), mh_or_0 hbr]; done)) (by first | exact mh_orR _ _ | exact hbr) rfl
              · refine mh_iload5 (pc := 110) F dX11_byWhom_110 ?_
                refine mh_iconst (pc := 112) F dX11_byWhom_112 ?_
                refine mh_iload6 (pc := 113) F dX11_byWhom_113 ?_
                refine mh_ishl (pc := 115) F dX11_byWhom_115 ?_
                refine mh_ior (pc := 116) F dX11_byWhom_116 ?_
                refine mh_istore5 (pc := 117) F dX11_byWhom_117 rfl (by decide) ?_
                refine mh_iinc6 (pc := 119) F dX11_byWhom_119 rfl (by decide) ?_
                refine mh_goto (pc := 122) (tgt := 53) F dX11_byWhom_122 rfl ?_
                refine mh_drop7 ?_
                refine mh_drop8 ?_
                exact ihL53 _ (by omega) (mh_or bb (mh_shl 1 c)) (c + 1) o2 hq u Fhq (frhq.mono (by simp)) q75hq (by omega) hokT hkt.1 hkt.2 (by rw [sp_bw_at s o k q x hc_.1, ← hbw]; unfold sp_bw1; simp only []; rw [← eob, hval]; first | (rw [if_pos (by omega)]; done) | (rw [if_neg (by omega), mh_or_0 hbr]; done)) (by first | exact mh_orR _ _ | exact hbr) rfl
            · refine mh_iload7 (pc := 77) F dX11_byWhom_77 ?_
              refine mh_aload0 (pc := 79) F dX11_byWhom_79 ?_
              refine mh_getr (b := 25) (pc := 80) F sh_0 (by decide) fw_RX11_72_11 dX11_byWhom_80 rfl (fx_0_0 Fhq) ?_
              refine mh_aload4 (pc := 83) F dX11_byWhom_83 ?_
              refine mh_iload6 (pc := 85) F dX11_byWhom_85 ?_
              refine mh_iload7 (pc := 87) F dX11_byWhom_87 ?_
              refine mh_callV0 (pc := 89) (As := [.ref 75, .int (Int32.ofInt (c)), .int (Int32.ofInt (qx))]) (st := [.int (Int32.ofInt (qx))]) F (by omega) (k12_ride (by omega) Fhq q75hq hokT (by omega) (hV.1.of (fun x hx => frhq x (by simp; omega))) hh (by omega) (by omega)) wv_RX11_241_yX10_ride dX11_byWhom_89 sh_25 rfl (by decide) rfl rfl (Nat.le_of_ble_eq_true rfl) ⟨Nat.zero_le _, Nat.zero_le _⟩ (fun r7 h7 q7 => ?_)
              obtain ⟨rfl, F7, fr7, qA7⟩ := q7
              have fr8 : mh_fr [36, 75] h h7 := (mh_fr.tr frhq fr7).mono (by simp)
              obtain ⟨u2, eu2⟩ : ∃ z : Int → Int, z = sc_ps s (sc_off u c (s (33 + 2 * c))) qx (s (33 + 2 * c)).toNat := ⟨_, rfl⟩
              rw [← eu2] at qA7
              have hend := sc_rd_end (b := c) (q := qx) (by omega) hog (hta.trans hoa.1.symm) hoa.2 ht0 (by omega)
              rw [← eu2] at hend
              have hond := sp_on_ok (s := s) (k := k) (c := c) hog (by omega) (by omega)
              have hokE : sc_ok u2 := by rw [eu2]; obtain ⟨z1, z2⟩ := sc_off_ok (b := c) (p := s (33 + 2 * c)) hokT (by omega) (by omega) (by omega); exact (sc_ps_ok z1 z2 _).1
              have hu3 : u2 3 = a + 1 := by have := hend.2; omega
              refine mh_iadd (pc := 92) F dX11_byWhom_92 ?_
              refine mh_istore7 (pc := 93) F dX11_byWhom_93 rfl (by decide) ?_
              refine mh_iinc8 (pc := 95) F dX11_byWhom_95 rfl (by decide) ?_
              refine mh_goto (pc := 98) (tgt := 70) F dX11_byWhom_98 rfl ?_
              exact ihL70 _ (by omega) (qx + (s (33 + 2 * c))) (a + 1) (sp_on s o2 k c) h7 u2 F7 (fr8.mono (by simp)) qA7 (by omega) hond.1 (by omega) (by omega) hend.1 hu3 hokE (by rw [hval, show (9 - a).toNat = (9 - (a + 1)).toNat + 1 by omega]; rfl) rfl
          exact L70 _ q 0 ob h5 c1x F5 (fr6.mono (by simp)) qA5 (by omega) hob (by omega) (by omega) ht1 h13 hok1 rfl rfl
      exact L53 _ 0 0 o h3 c0x F3 (fr4.mono (by simp)) q3_0 (by omega) hokT hk1 hk2 rfl (by decide) rfl
    · refine mh_aload0 (pc := 19) F dX11_byWhom_19 ?_
      refine mh_iconst (pc := 20) F dX11_byWhom_20 ?_
      refine mh_callV0 (pc := 21) (As := [.int (Int32.ofInt (1))]) (st := []) F (by omega) (k8_refuse (by omega) hF rfl (by decide)) wv_RX11_90_yX11_refuse dX11_byWhom_21 sh_0 rfl (by decide) rfl rfl (Nat.le_of_ble_eq_true rfl) ⟨Nat.zero_le _, Nat.zero_le _⟩ (fun r9 h9 q9 => ?_)
      obtain ⟨rfl, F9, fr9, q9_0⟩ := q9
      have fr10 : mh_fr [24] h h9 := (mh_fr.tr mh_fr.rf fr9).mono (by simp)
      have hVr : sc_V h9 s := sc_V_fr hV (fun a a1 a2 a3 a4 => fr9 a (by simp; omega))
      have hEr : sc_E h9 (mh_ur er 1 (er 1 + 1)) := hE.up (by decide) q9_0
      exact mh_ireturn F Z dX11_byWhom_24 ⟨_, _, _, (by unfold sp_byWhom; (repeat' split) <;> first | rfl | (exfalso; omega)), rfl, F9, (fr10.mono (by simp)), hVr, hEr⟩

