/-! the cellar, told -/
def sc_so (be lo : Int) : Int := if be < 0 then 1000000 else lo
def sc_cb (be lo : Int) : Prop := (be = -1 ∧ lo = -1) ∨ ((0 ≤ be ∧ be ≤ 8) ∧ (0 ≤ lo ∧ lo < 1000000))
theorem sc_relH_rg {s : Int → Int} {k n z : Int} (hk : 0 ≤ k ∧ k < 6) (hi : sp_inv s) (hn : 0 ≤ n ∧ n ≤ 60) (hs6 : s (41 + 9 * k + 6) < 60) (hz : 0 ≤ z ∧ z < 9) : 0 ≤ sp_relH s k n z ∧ sp_relH s k n z ≤ 1000000 := by
  unfold sp_relH
  obtain ⟨s2, es2⟩ : ∃ q : Int → Int, q = mh_ur s (6 + 3 * z + 0) 0 := ⟨_, rfl⟩
  rw [← es2]
  have zi2 : sp_inv s2 := by rw [es2]; exact sp_inv_hh hi (by omega) (by omega) (by decide)
  have e46 : s2 (41 + 9 * k + 6) = s (41 + 9 * k + 6) := by rw [es2]; exact mh_ur_ne (by omega)
  have c1 := (zi2.2.2.2.2.1 k hk.1 hk.2).2.1
  unfold sp_row at c1
  exact sp_rel_rg hk zi2 hn (by omega) (sp_wmr_of c1 (sp_wmc_ok s2 k))
theorem sc_relH_out {s : Int → Int} {k n z : Int} (hz : 0 ≤ z ∧ z < s (41 + 9 * k + 2)) (h9 : s (41 + 9 * k + 2) ≤ 9) (hk : 0 ≤ k ∧ k < 6) (hi : sp_inv s) (hn : n ≤ 60) : sp_relH s k n z = sp_rel s (sp_wmc s k) k n := sc_rel_out hz h9 hk hi hn (fun i q => mh_ur_ne q)
theorem sc_cels1 {s : Int → Int} {k n z be lo be2 lo2 : Int} (hz : 0 ≤ z) (hb : (be, sc_so be lo) = sp_cels s k n z.toNat) (h : (sp_relH s k n z < sc_so be lo ∧ be2 = z ∧ lo2 = sp_relH s k n z) ∨ (¬ sp_relH s k n z < sc_so be lo ∧ be2 = be ∧ lo2 = lo)) : (be2, sc_so be2 lo2) = sp_cels s k n (z + 1).toNat := by
  rw [sp_cels_at s k n hz, ← hb]
  unfold sp_cel1
  rcases h with ⟨a, b, c⟩ | ⟨a, b, c⟩
  · rw [if_pos a, b, c]
    unfold sc_so
    rw [if_neg (by omega)]
  · rw [if_neg a, b, c]
theorem sc_MI_eq {u s wm : Int → Int} {k n f f2 : Int} (H : sc_MI u s wm k n f) (e : f2 = f) : sc_MI u s wm k n f2 := by rw [e]; exact H
set_option maxRecDepth 100000 in
set_option maxHeartbeats 2000000 in
theorem q_cellar {g : mh_G} {d : Nat} (hd : 20 ≤ d) {h : Nat → Int → Int} (hF : mh_FX h) {s er : Int → Int} {k n w : Int} (hk : -2147483648 ≤ k ∧ k < 2147483648) (hn : -2147483648 ≤ n ∧ n < 2147483648) (hw : -2147483648 ≤ w ∧ w < 2147483648) (hi : sp_inv s) (hV : sc_V h s) (hE : sc_E h er) (hKN : sc_KN h) : mh_M g d yX11_cellar cX11_cellar 9 (some .int) 96 0 0 [.ref 0, .int (Int32.ofInt (k)), .int (Int32.ofInt (n)), .int (Int32.ofInt (w))] h (fun r h2 => ∃ (vv : Int) (ee : Int → Int), (vv, ee) = sp_cellar k n w s er ∧ r = some (.int (Int32.ofInt vv)) ∧ mh_FX h2 ∧ mh_fr [10, 11, 12, 13, 14, 15, 36, 24] h h2 ∧ sc_E h2 ee) := by
  refine mh_M_of RX11 rfl (by decide +kernel) [some (.ref 0), some (.int (Int32.ofInt (k))), some (.int (Int32.ofInt (n))), some (.int (Int32.ofInt (w))), none, none, none, none, none] rfl (Nat.le_of_ble_eq_true rfl) (fun f F Z hn0 hR => ?_)
  have hm := hi.1
  have hq0 := hi.2.1
  have hh := hi.2.2.2.1
  obtain ⟨n6, n7, n8, n10, n14, n15⟩ := hV.2.2
  refine mh_aload0 (pc := 0) F dX11_cellar_0 ?_
  refine mh_iload1 (pc := 1) F dX11_cellar_1 ?_
  refine mh_callVp (pc := 2) (As := [.int (Int32.ofInt (k))]) (st := []) F (by omega) (k8_isChurn (by omega) hF (by omega) hV.2.2 (by omega)) wv_RX11_139_yX11_isChurn dX11_cellar_2 sh_0 rfl (by decide) rfl rfl (Nat.le_of_ble_eq_true rfl) ⟨Nat.zero_le _, Nat.zero_le _⟩ ?_
  refine mh_ifb_eq (pc := 5) (tgt := 27) F dX11_cellar_5 rfl (fun c_5 => ?_) (fun c_5 => ?_)
  · refine mh_aload0 (pc := 27) F dX11_cellar_27 ?_
    refine mh_iconst (pc := 28) F dX11_cellar_28 ?_
    refine mh_callV0 (pc := 29) (As := [.int (Int32.ofInt (1))]) (st := []) F (by omega) (k8_refuse (by omega) hF rfl (by decide)) wv_RX11_90_yX11_refuse dX11_cellar_29 sh_0 rfl (by decide) rfl rfl (Nat.le_of_ble_eq_true rfl) ⟨Nat.zero_le _, Nat.zero_le _⟩ (fun r1 h1 q1 => ?_)
    obtain ⟨rfl, F1, fr1, q1_0⟩ := q1
    have fr2 : mh_fr [24] h h1 := (mh_fr.tr mh_fr.rf fr1).mono (by simp)
    have hVr : sc_V h1 s := sc_V_fr hV (fun a a1 a2 a3 a4 => fr1 a (by simp; omega))
    have hEr : sc_E h1 (mh_ur er 1 (er 1 + 1)) := hE.up (by decide) q1_0
    exact mh_ireturn F Z dX11_cellar_32 ⟨_, _, (by unfold sp_cellar; (repeat' split) <;> first | rfl | (exfalso; omega)), rfl, F1, (fr2.mono (by simp)), hEr⟩
  · refine mh_iload2 (pc := 8) F dX11_cellar_8 ?_
    refine mh_iconst (pc := 9) F dX11_cellar_9 ?_
    refine mh_bipush (pc := 10) F dX11_cellar_10 rfl ?_
    refine mh_callSp (pc := 12) (As := [.int (Int32.ofInt (n)), .int (Int32.ofInt (0)), .int (Int32.ofInt (60))]) (st := []) F (by omega) (k4_within (by omega) (by omega) (by omega) (by omega)) ws_RX11_82 dX11_cellar_12 rfl rfl (Nat.le_of_ble_eq_true rfl) ⟨Nat.zero_le _, Nat.zero_le _⟩ ?_
    refine mh_ifb_eq (pc := 15) (tgt := 27) F dX11_cellar_15 rfl (fun c_15 => ?_) (fun c_15 => ?_)
    · refine mh_aload0 (pc := 27) F dX11_cellar_27 ?_
      refine mh_iconst (pc := 28) F dX11_cellar_28 ?_
      refine mh_callV0 (pc := 29) (As := [.int (Int32.ofInt (1))]) (st := []) F (by omega) (k8_refuse (by omega) hF rfl (by decide)) wv_RX11_90_yX11_refuse dX11_cellar_29 sh_0 rfl (by decide) rfl rfl (Nat.le_of_ble_eq_true rfl) ⟨Nat.zero_le _, Nat.zero_le _⟩ (fun r3 h3 q3 => ?_)
      obtain ⟨rfl, F3, fr3, q3_0⟩ := q3
      have fr4 : mh_fr [24] h h3 := (mh_fr.tr mh_fr.rf fr3).mono (by simp)
      have hVr : sc_V h3 s := sc_V_fr hV (fun a a1 a2 a3 a4 => fr3 a (by simp; omega))
      have hEr : sc_E h3 (mh_ur er 1 (er 1 + 1)) := hE.up (by decide) q3_0
      exact mh_ireturn F Z dX11_cellar_32 ⟨_, _, (by unfold sp_cellar; (repeat' split) <;> first | rfl | (exfalso; omega)), rfl, F3, (fr4.mono (by simp)), hEr⟩
    · refine mh_iload3 (pc := 18) F dX11_cellar_18 ?_
      refine mh_iconst (pc := 19) F dX11_cellar_19 ?_
      refine mh_iconst (pc := 20) F dX11_cellar_20 ?_
      refine mh_callSp (pc := 21) (As := [.int (Int32.ofInt (w)), .int (Int32.ofInt (0)), .int (Int32.ofInt (1))]) (st := []) F (by omega) (k4_within (by omega) (by omega) (by omega) (by omega)) ws_RX11_82 dX11_cellar_21 rfl rfl (Nat.le_of_ble_eq_true rfl) ⟨Nat.zero_le _, Nat.zero_le _⟩ ?_
      refine mh_ifb_ne (pc := 24) (tgt := 33) F dX11_cellar_24 rfl (fun c_24 => ?_) (fun c_24 => ?_)
      · refine mh_aload0 (pc := 33) F dX11_cellar_33 ?_
        refine mh_getr (b := 25) (pc := 34) F sh_0 (by decide) fw_RX11_72_11 dX11_cellar_34 rfl (fx_0_0 hF) ?_
        refine mh_getr (b := 31) (pc := 37) F sh_25 (by decide) fw_RX11_126_10 dX11_cellar_37 rfl (fx_25_5 hF) ?_
        refine mh_iload1 (pc := 40) F dX11_cellar_40 ?_
        have hkk : 0 ≤ k ∧ k < 6 := by omega
        have zAk := sc_Aj hkk
        have hcs : sc_is (h (44 + k.toNat)) (sp_row s k) k := hV.2.1 k hkk.1 hkk.2
        have hcr := hi.2.2.2.2.1 k hkk.1 hkk.2
        have hco := hcs.ok hcr
        obtain ⟨d0, d1, d2, d3, d4, d5, d6, d7, d8, d9⟩ := id hcs
        unfold sp_row at d1 d2 d3 d4 d5 d6 d7 d8 d9
        obtain ⟨c0, c1, c2, c3, c4, c5, c6, c7, c8, c9, c10, c11, c12, c13⟩ := id hcr
        unfold sp_row at c0 c1 c2 c3 c4 c5 c6 c7 c8 c9 c10 c11 c12 c13
        have hcA := zAk.rg
        have hstm := hcs.st
        have hs0 := sc_stm0 (s := s) (k := k)
        have hsr := sc_st_rg (h (44 + k.toNat))
        have hk6 : 0 ≤ k ∧ k < 6 := hkk
        have hn60 : 0 ≤ n ∧ n ≤ 60 := by omega
        refine mh_aaload (b := 44 + k.toNat) (pc := 41) F sh_31 (by decide) (by decide) (by omega) dX11_cellar_41 (fx_31 hF (by omega)) ?_
        refine mh_astore4 (pc := 42) F dX11_cellar_42 rfl (by decide) ?_
        refine mh_aload4 (pc := 44) F dX11_cellar_44 ?_
        refine mh_callVp (pc := 46) (As := []) (st := []) F (by omega) (k0_standsSweet (by omega) hF rfl zAk hco) wv_RX11_224_yX0_standsSweet dX11_cellar_46 zAk.sh rfl zAk.lt rfl rfl (Nat.le_of_ble_eq_true rfl) ⟨Nat.zero_le _, Nat.zero_le _⟩ ?_
        refine mh_ifb_ne (pc := 49) (tgt := 58) F dX11_cellar_49 rfl (fun c_49 => ?_) (fun c_49 => ?_)
        · refine mh_aload0 (pc := 58) F dX11_cellar_58 ?_
          refine mh_getr (b := 10) (pc := 59) F sh_0 (by decide) fw_RX11_45_11 dX11_cellar_59 rfl (fx_0_5 hF) ?_
          refine mh_aload0 (pc := 62) F dX11_cellar_62 ?_
          refine mh_getr (b := 25) (pc := 63) F sh_0 (by decide) fw_RX11_72_11 dX11_cellar_63 rfl (fx_0_0 hF) ?_
          refine mh_aload4 (pc := 66) F dX11_cellar_66 ?_
          refine mh_iload2 (pc := 68) F dX11_cellar_68 ?_
          have zmay := sp_mayb hcr (by omega)
          have hwm := sp_wmr_of c1 (sp_wmc_ok s k)
          refine mh_callV0 (pc := 69) (As := [.ref 25, .ref (44 + k.toNat), .int (Int32.ofInt (n))]) (st := []) F (by omega) (k_prepare (by omega) hF rfl rfl rfl rfl rfl hkk hco (by omega) hV.1 hV.2.2 hh hq0 hn60) wv_RX11_227_yX6_prepare dX11_cellar_69 sh_10 rfl (by decide) rfl rfl (Nat.le_of_ble_eq_true rfl) ⟨Nat.zero_le _, Nat.zero_le _⟩ (fun r5 h5 q5 => ?_)
          obtain ⟨rfl, F5, frp5, P1, P2, P3, P4, P5⟩ := q5
          have r44ktoNat_6 : h5 (44 + k.toNat) = h (44 + k.toNat) := (frp5 _ (by simp; omega)).trans rfl
          have fr6 : mh_fr [10, 11, 12, 13, 14, 15, 36] h h5 := (mh_fr.tr mh_fr.rf frp5).mono (by simp)
          obtain ⟨hRl, hRm, hMI⟩ := sc_prep hn60 (by omega) (by omega) (by omega) (by omega) (by omega) (by omega) P1 P2 P3 P4 P5
          refine mh_iconst (pc := 72) F dX11_cellar_72 ?_
          refine mh_istore5 (pc := 73) F dX11_cellar_73 rfl (by decide) ?_
          refine mh_iconst (pc := 75) F dX11_cellar_75 ?_
          refine mh_istore6 (pc := 76) F dX11_cellar_76 rfl (by decide) ?_
          refine mh_iconst (pc := 78) F dX11_cellar_78 ?_
          refine mh_istore7 (pc := 79) F dX11_cellar_79 rfl (by decide) ?_
          have L81 : ∀ (m : Nat) (lo : Int) (be : Int) (z : Int) (hg : Nat → Int → Int), (mh_FX hg) → (mh_fr [10, 11, 12, 13, 14, 15, 36] h hg) → (hg (44 + k.toNat) = h (44 + k.toNat)) → (0 ≤ z ∧ z ≤ 9) → ((be, sc_so be lo) = sp_cels s k n z.toNat) → (sc_cb be lo) → (sc_Rl hg s (sp_wmc s k) k n (s (41 + 9 * k + 2))) → (sc_Rm hg s k) → (sc_MI (hg 11) s (sp_wmc s k) k n (max (s (41 + 9 * k + 2)) z)) → (9 - z).toNat = m → mh_V g f 9 96 0 0 81 [some (.ref 0), some (.int (Int32.ofInt (k))), some (.int (Int32.ofInt (n))), some (.int (Int32.ofInt (w))), some (.ref (44 + k.toNat)), some (.int (Int32.ofInt (lo))), some (.int (Int32.ofInt (be))), some (.int (Int32.ofInt (z))), none] [] hg := by
            intro m
            induction m using Nat.strongRecOn with
            | _ m ihL81 =>
            intro lo be z hg Fhg frhg q44ktoNathg hz hbs hcb hRl hRm hMI hmz
            refine mh_iload7 (pc := 81) F dX11_cellar_81 ?_
            have hcb0 : (be = -1 ∧ lo = -1) ∨ ((0 ≤ be ∧ be ≤ 8) ∧ (0 ≤ lo ∧ lo < 1000000)) := hcb
            refine mh_bipush (pc := 83) F dX11_cellar_83 rfl ?_
            refine mh_icmp_ge (pc := 85) (tgt := 156) F dX11_cellar_85 rfl (by omega) (by omega) (fun c_85 => ?_) (fun c_85 => ?_)
            · have hc9 : sp_cels s k n 9 = (be, sc_so be lo) := by rw [hbs, show z = 9 by omega]; rfl
              have hso : 0 ≤ be → sc_so be lo = lo := fun q => if_neg (by omega)
              have hVx : sc_V hg s := sc_V_fr hV (fun a a1 a2 a3 a4 => frhg a (by simp; omega))
              have hEx : sc_E hg er := hE.of (frhg 24 (by simp))
              refine mh_iload6 (pc := 156) F dX11_cellar_156 ?_
              refine mh_if_ge (pc := 158) (tgt := 167) F dX11_cellar_158 rfl (by omega) (fun c_158 => ?_) (fun c_158 => ?_)
              · refine mh_iload3 (pc := 167) F dX11_cellar_167 ?_
                refine mh_if_ne (pc := 168) (tgt := 176) F dX11_cellar_168 rfl (by omega) (fun c_168 => ?_) (fun c_168 => ?_)
                · refine mh_iload5 (pc := 176) F dX11_cellar_176 ?_
                  exact mh_ireturn F Z dX11_cellar_178 ⟨_, _, (by unfold sp_cellar; rw [hc9]; (repeat' split) <;> first | rfl | (exfalso; omega) | (exfalso; simp only [] at *; omega) | (rw [hso (by omega)]; done)), rfl, Fhg, (frhg.mono (by simp)), hEx⟩
                · refine mh_iload6 (pc := 171) F dX11_cellar_171 ?_
                  refine mh_goto (pc := 173) (tgt := 178) F dX11_cellar_173 rfl ?_
                  exact mh_ireturn F Z dX11_cellar_178 ⟨_, _, (by unfold sp_cellar; rw [hc9]; (repeat' split) <;> first | rfl | (exfalso; omega) | (exfalso; simp only [] at *; omega) | (rw [hso (by omega)]; done)), rfl, Fhg, (frhg.mono (by simp)), hEx⟩
              · refine mh_aload0 (pc := 161) F dX11_cellar_161 ?_
                refine mh_iconst (pc := 162) F dX11_cellar_162 ?_
                refine mh_callV0 (pc := 163) (As := [.int (Int32.ofInt (2))]) (st := []) F (by omega) (k8_refuse (by omega) Fhg rfl (by decide)) wv_RX11_90_yX11_refuse dX11_cellar_163 sh_0 rfl (by decide) rfl rfl (Nat.le_of_ble_eq_true rfl) ⟨Nat.zero_le _, Nat.zero_le _⟩ (fun r7 h7 q7 => ?_)
                obtain ⟨rfl, F7, fr7, q7_0⟩ := q7
                have r44ktoNat_8 : h7 (44 + k.toNat) = h (44 + k.toNat) := (fr7 _ (by simp; omega)).trans q44ktoNathg
                have fr8 : mh_fr [24, 10, 11, 12, 13, 14, 15, 36] h h7 := (mh_fr.tr frhg fr7).mono (by simp)
                have hVr : sc_V h7 s := sc_V_fr hVx (fun a a1 a2 a3 a4 => fr7 a (by simp; omega))
                have hEr : sc_E h7 (mh_ur er 2 (er 2 + 1)) := hEx.up (by decide) q7_0
                exact mh_ireturn F Z dX11_cellar_166 ⟨_, _, (by unfold sp_cellar; rw [hc9]; (repeat' split) <;> first | rfl | (exfalso; omega) | (exfalso; simp only [] at *; omega) | (rw [hso (by omega)]; done)), rfl, F7, (fr8.mono (by simp)), hEr⟩
            · have hrr := sc_relH_rg hk6 hi hn60 zmay.1 (show 0 ≤ z ∧ z < 9 by omega)
              have htw := sc_tw_or (sp_relH s k n z)
              unfold sc_cb at hcb
              refine mh_iload7 (pc := 88) F dX11_cellar_88 ?_
              refine mh_aload4 (pc := 90) F dX11_cellar_90 ?_
              refine mh_getir (pc := 92) F zAk.sh zAk.lt fw_RX11_169_0 dX11_cellar_92 rfl q44ktoNathg ?_
              refine mh_top (y := s (41 + 9 * k + 2)) (mh_eqI (by omega)) ?_
              refine mh_icmp_ge (pc := 95) (tgt := 108) F dX11_cellar_95 rfl (by omega) (by omega) (fun c_95 => ?_) (fun c_95 => ?_)
              · refine mh_aload0 (pc := 108) F dX11_cellar_108 ?_
                refine mh_getr (b := 10) (pc := 109) F sh_0 (by decide) fw_RX11_45_11 dX11_cellar_109 rfl (fx_0_5 Fhg) ?_
                refine mh_aload0 (pc := 112) F dX11_cellar_112 ?_
                refine mh_getr (b := 25) (pc := 113) F sh_0 (by decide) fw_RX11_72_11 dX11_cellar_113 rfl (fx_0_0 Fhg) ?_
                refine mh_aload4 (pc := 116) F dX11_cellar_116 ?_
                refine mh_iload7 (pc := 118) F dX11_cellar_118 ?_
                have hMIt : sc_MI (hg 11) s (sp_wmc s k) k n z := sc_MI_eq hMI (by omega)
                refine mh_callV0 (pc := 120) (As := [.ref 25, .ref (44 + k.toNat), .int (Int32.ofInt (z))]) (st := []) F (by omega) (k_cell (by omega) Fhg q44ktoNathg hk6 hi hn60 hcs (hV.1.of (fun x hx => frhg x (by simp; omega))) (by unfold sc_N; rw [frhg 25 (by simp)]; exact hV.2.2) (by omega) zmay.1 hRl hRm hMIt) wv_RX11_248_yX6_sourWithCellar dX11_cellar_120 sh_10 rfl (by decide) rfl rfl (Nat.le_of_ble_eq_true rfl) ⟨Nat.zero_le _, Nat.zero_le _⟩ (fun r9 h9 q9 => ?_)
                obtain ⟨rfl, F9, frt9, zMI, hRlN⟩ := q9
                have r44ktoNat_10 : h9 (44 + k.toNat) = h (44 + k.toNat) := (frt9 _ (by simp; omega)).trans q44ktoNathg
                have fr10 : mh_fr [10, 11, 12, 13, 14, 15, 36] h h9 := (mh_fr.tr frhg frt9).mono (by simp)
                have hRmN := hRm.fr (frt9 10 (by simp))
                have hMIN : sc_MI (h9 11) s (sp_wmc s k) k n (max (s (41 + 9 * k + 2)) (z + 1)) := sc_MI_eq zMI (by omega)
                refine mh_istore8 (pc := 123) F dX11_cellar_123 rfl (by decide) ?_
                refine mh_iload8 (pc := 125) F dX11_cellar_125 ?_
                refine mh_if_lt (pc := 127) (tgt := 150) F dX11_cellar_127 rfl (by omega) (fun c_127 => ?_) (fun c_127 => ?_)
                · refine mh_iinc7 (pc := 150) F dX11_cellar_150 rfl (by decide) ?_
                  refine mh_goto (pc := 153) (tgt := 81) F dX11_cellar_153 rfl ?_
                  refine mh_drop8 ?_
                  exact ihL81 _ (by omega) lo be (z + 1) h9 F9 (fr10.mono (by simp)) r44ktoNat_10 (by omega) (sc_cels1 hz.1 hbs (by unfold sc_so; split <;> omega)) (by unfold sc_cb; omega) hRlN hRmN hMIN rfl
                · refine mh_iload6 (pc := 130) F dX11_cellar_130 ?_
                  refine mh_if_lt (pc := 132) (tgt := 142) F dX11_cellar_132 rfl (by omega) (fun c_132 => ?_) (fun c_132 => ?_)
                  · refine mh_iload8 (pc := 142) F dX11_cellar_142 ?_
                    refine mh_istore5 (pc := 144) F dX11_cellar_144 rfl (by decide) ?_
                    refine mh_iload7 (pc := 146) F dX11_cellar_146 ?_
                    refine mh_istore6 (pc := 148) F dX11_cellar_148 rfl (by decide) ?_
                    refine mh_iinc7 (pc := 150) F dX11_cellar_150 rfl (by decide) ?_
                    refine mh_goto (pc := 153) (tgt := 81) F dX11_cellar_153 rfl ?_
                    refine mh_drop8 ?_
                    exact ihL81 _ (by omega) (sc_tw (sp_relH s k n z)) z (z + 1) h9 F9 (fr10.mono (by simp)) r44ktoNat_10 (by omega) (sc_cels1 hz.1 hbs (by unfold sc_so; split <;> omega)) (by unfold sc_cb; omega) hRlN hRmN hMIN rfl
                  · refine mh_iload8 (pc := 135) F dX11_cellar_135 ?_
                    refine mh_iload5 (pc := 137) F dX11_cellar_137 ?_
                    refine mh_icmp_ge (pc := 139) (tgt := 150) F dX11_cellar_139 rfl (by omega) (by omega) (fun c_139 => ?_) (fun c_139 => ?_)
                    · refine mh_iinc7 (pc := 150) F dX11_cellar_150 rfl (by decide) ?_
                      refine mh_goto (pc := 153) (tgt := 81) F dX11_cellar_153 rfl ?_
                      refine mh_drop8 ?_
                      exact ihL81 _ (by omega) lo be (z + 1) h9 F9 (fr10.mono (by simp)) r44ktoNat_10 (by omega) (sc_cels1 hz.1 hbs (by unfold sc_so; split <;> omega)) (by unfold sc_cb; omega) hRlN hRmN hMIN rfl
                    · refine mh_iload8 (pc := 142) F dX11_cellar_142 ?_
                      refine mh_istore5 (pc := 144) F dX11_cellar_144 rfl (by decide) ?_
                      refine mh_iload7 (pc := 146) F dX11_cellar_146 ?_
                      refine mh_istore6 (pc := 148) F dX11_cellar_148 rfl (by decide) ?_
                      refine mh_iinc7 (pc := 150) F dX11_cellar_150 rfl (by decide) ?_
                      refine mh_goto (pc := 153) (tgt := 81) F dX11_cellar_153 rfl ?_
                      refine mh_drop8 ?_
                      exact ihL81 _ (by omega) (sc_tw (sp_relH s k n z)) z (z + 1) h9 F9 (fr10.mono (by simp)) r44ktoNat_10 (by omega) (sc_cels1 hz.1 hbs (by unfold sc_so; split <;> omega)) (by unfold sc_cb; omega) hRlN hRmN hMIN rfl
              · refine mh_aload0 (pc := 98) F dX11_cellar_98 ?_
                refine mh_getr (b := 10) (pc := 99) F sh_0 (by decide) fw_RX11_45_11 dX11_cellar_99 rfl (fx_0_5 Fhg) ?_
                have hMIt : sc_MI (hg 11) s (sp_wmc s k) k n (s (41 + 9 * k + 2)) := sc_MI_eq hMI (by omega)
                refine mh_callV0 (pc := 102) (As := []) (st := []) F (by omega) (k_town (s := s) (wm := sp_wmc s k) (by omega) Fhg hk6 hi hn60 hwm zmay.2 zmay.1 hRl hRm hMIt) wv_RX11_231_yX6_sourInTown dX11_cellar_102 sh_10 rfl (by decide) rfl rfl (Nat.le_of_ble_eq_true rfl) ⟨Nat.zero_le _, Nat.zero_le _⟩ (fun r11 h11 q11 => ?_)
                obtain ⟨rfl, F11, frt11, zMI, znz, zmo⟩ := q11
                have r44ktoNat_12 : h11 (44 + k.toNat) = h (44 + k.toNat) := (frt11 _ (by simp; omega)).trans q44ktoNathg
                have fr12 : mh_fr [10, 11, 12, 13, 14, 15, 36] h h11 := (mh_fr.tr frhg frt11).mono (by simp)
                have hRlN := hRl.fr (fun a q => frt11 a (by simp; omega))
                have hRmN := hRm.fr (frt11 10 (by simp))
                have hMIN : sc_MI (h11 11) s (sp_wmc s k) k n (max (s (41 + 9 * k + 2)) (z + 1)) := sc_MI_eq zMI (by omega)
                refine mh_top (y := sc_tw (sp_relH s k n z)) (mh_eqI (by rw [sc_relH_out (by omega) (by omega) hk6 hi hn60.2])) ?_
                refine mh_goto (pc := 105) (tgt := 123) F dX11_cellar_105 rfl ?_
                refine mh_istore8 (pc := 123) F dX11_cellar_123 rfl (by decide) ?_
                refine mh_iload8 (pc := 125) F dX11_cellar_125 ?_
                refine mh_if_lt (pc := 127) (tgt := 150) F dX11_cellar_127 rfl (by omega) (fun c_127 => ?_) (fun c_127 => ?_)
                · refine mh_iinc7 (pc := 150) F dX11_cellar_150 rfl (by decide) ?_
                  refine mh_goto (pc := 153) (tgt := 81) F dX11_cellar_153 rfl ?_
                  refine mh_drop8 ?_
                  exact ihL81 _ (by omega) lo be (z + 1) h11 F11 (fr12.mono (by simp)) r44ktoNat_12 (by omega) (sc_cels1 hz.1 hbs (by unfold sc_so; split <;> omega)) (by unfold sc_cb; omega) hRlN hRmN hMIN rfl
                · refine mh_iload6 (pc := 130) F dX11_cellar_130 ?_
                  refine mh_if_lt (pc := 132) (tgt := 142) F dX11_cellar_132 rfl (by omega) (fun c_132 => ?_) (fun c_132 => ?_)
                  · refine mh_iload8 (pc := 142) F dX11_cellar_142 ?_
                    refine mh_istore5 (pc := 144) F dX11_cellar_144 rfl (by decide) ?_
                    refine mh_iload7 (pc := 146) F dX11_cellar_146 ?_
                    refine mh_istore6 (pc := 148) F dX11_cellar_148 rfl (by decide) ?_
                    refine mh_iinc7 (pc := 150) F dX11_cellar_150 rfl (by decide) ?_
                    refine mh_goto (pc := 153) (tgt := 81) F dX11_cellar_153 rfl ?_
                    refine mh_drop8 ?_
                    exact ihL81 _ (by omega) (sc_tw (sp_relH s k n z)) z (z + 1) h11 F11 (fr12.mono (by simp)) r44ktoNat_12 (by omega) (sc_cels1 hz.1 hbs (by unfold sc_so; split <;> omega)) (by unfold sc_cb; omega) hRlN hRmN hMIN rfl
                  · refine mh_iload8 (pc := 135) F dX11_cellar_135 ?_
                    refine mh_iload5 (pc := 137) F dX11_cellar_137 ?_
                    refine mh_icmp_ge (pc := 139) (tgt := 150) F dX11_cellar_139 rfl (by omega) (by omega) (fun c_139 => ?_) (fun c_139 => ?_)
                    · refine mh_iinc7 (pc := 150) F dX11_cellar_150 rfl (by decide) ?_
                      refine mh_goto (pc := 153) (tgt := 81) F dX11_cellar_153 rfl ?_
                      refine mh_drop8 ?_
                      exact ihL81 _ (by omega) lo be (z + 1) h11 F11 (fr12.mono (by simp)) r44ktoNat_12 (by omega) (sc_cels1 hz.1 hbs (by unfold sc_so; split <;> omega)) (by unfold sc_cb; omega) hRlN hRmN hMIN rfl
                    · refine mh_iload8 (pc := 142) F dX11_cellar_142 ?_
                      refine mh_istore5 (pc := 144) F dX11_cellar_144 rfl (by decide) ?_
                      refine mh_iload7 (pc := 146) F dX11_cellar_146 ?_
                      refine mh_istore6 (pc := 148) F dX11_cellar_148 rfl (by decide) ?_
                      refine mh_iinc7 (pc := 150) F dX11_cellar_150 rfl (by decide) ?_
                      refine mh_goto (pc := 153) (tgt := 81) F dX11_cellar_153 rfl ?_
                      refine mh_drop8 ?_
                      exact ihL81 _ (by omega) (sc_tw (sp_relH s k n z)) z (z + 1) h11 F11 (fr12.mono (by simp)) r44ktoNat_12 (by omega) (sc_cels1 hz.1 hbs (by unfold sc_so; split <;> omega)) (by unfold sc_cb; omega) hRlN hRmN hMIN rfl
          exact L81 _ (-1) (-1) 0 h5 F5 (fr6.mono (by simp)) r44ktoNat_6 (by omega) rfl (Or.inl ⟨rfl, rfl⟩) hRl hRm (by rw [show max (s (41 + 9 * k + 2)) 0 = s (41 + 9 * k + 2) by omega]; exact hMI) rfl
        · refine mh_aload0 (pc := 52) F dX11_cellar_52 ?_
          refine mh_iconst (pc := 53) F dX11_cellar_53 ?_
          refine mh_callV0 (pc := 54) (As := [.int (Int32.ofInt (3))]) (st := []) F (by omega) (k8_refuse (by omega) hF rfl (by decide)) wv_RX11_90_yX11_refuse dX11_cellar_54 sh_0 rfl (by decide) rfl rfl (Nat.le_of_ble_eq_true rfl) ⟨Nat.zero_le _, Nat.zero_le _⟩ (fun r13 h13 q13 => ?_)
          obtain ⟨rfl, F13, fr13, q13_0⟩ := q13
          have r44ktoNat_14 : h13 (44 + k.toNat) = h (44 + k.toNat) := (fr13 _ (by simp; omega)).trans rfl
          have fr14 : mh_fr [24] h h13 := (mh_fr.tr mh_fr.rf fr13).mono (by simp)
          have hVr : sc_V h13 s := sc_V_fr hV (fun a a1 a2 a3 a4 => fr13 a (by simp; omega))
          have hEr : sc_E h13 (mh_ur er 3 (er 3 + 1)) := hE.up (by decide) q13_0
          exact mh_ireturn F Z dX11_cellar_57 ⟨_, _, (by unfold sp_cellar; (repeat' split) <;> first | rfl | (exfalso; omega)), rfl, F13, (fr14.mono (by simp)), hEr⟩
      · refine mh_aload0 (pc := 27) F dX11_cellar_27 ?_
        refine mh_iconst (pc := 28) F dX11_cellar_28 ?_
        refine mh_callV0 (pc := 29) (As := [.int (Int32.ofInt (1))]) (st := []) F (by omega) (k8_refuse (by omega) hF rfl (by decide)) wv_RX11_90_yX11_refuse dX11_cellar_29 sh_0 rfl (by decide) rfl rfl (Nat.le_of_ble_eq_true rfl) ⟨Nat.zero_le _, Nat.zero_le _⟩ (fun r15 h15 q15 => ?_)
        obtain ⟨rfl, F15, fr15, q15_0⟩ := q15
        have fr16 : mh_fr [24] h h15 := (mh_fr.tr mh_fr.rf fr15).mono (by simp)
        have hVr : sc_V h15 s := sc_V_fr hV (fun a a1 a2 a3 a4 => fr15 a (by simp; omega))
        have hEr : sc_E h15 (mh_ur er 1 (er 1 + 1)) := hE.up (by decide) q15_0
        exact mh_ireturn F Z dX11_cellar_32 ⟨_, _, (by unfold sp_cellar; (repeat' split) <;> first | rfl | (exfalso; omega)), rfl, F15, (fr16.mono (by simp)), hEr⟩

