/-! sheets moved, heats, judged; the trace -/
theorem sc_S_move {h h2 : Nat → Int → Int} {b z u : Int → Int} {k l i j n : Int} (H : sc_S h b z u) (hk : 0 ≤ k ∧ k ≤ 3) (hl : 0 ≤ l ∧ l ≤ 3) (hb : b k = b l) (hb0 : b k ≠ 0) (h0 : 0 ≤ n ∧ 0 ≤ i ∧ 0 ≤ j ∧ i + n ≤ 40 ∧ j + n ≤ 40) (e : h2 = mh_cpH h (18 + k.toNat) (18 + l.toNat) i j n) : sc_S h2 b z (fun p => if 40 * l + j ≤ p ∧ p < 40 * l + j + n then u (40 * k + i + (p - (40 * l + j))) else u p) := fun jj j0 j1 => by
  have er : ∀ y, y ≠ 18 + l.toNat → h2 y = h y := fun y hy => by rw [e]; exact mh_cpH_row hy
  obtain ⟨a1, a2, a3, a4⟩ := H jj j0 j1
  obtain ⟨b1, b2, b3, b4⟩ := H k (by omega) (by omega)
  rw [er 22 (by omega), er 23 (by omega)]
  refine ⟨a1, a2, a3, fun q => ⟨(a4 q).1, fun p p0 p1 => ?_⟩⟩
  by_cases y : jj = l
  · subst y
    rw [show h2 (18 + jj.toNat) = mh_cpR (h (18 + k.toNat)) (h (18 + jj.toNat)) i j n by rw [e, mh_cpH_rs]]
    by_cases w : j ≤ p ∧ p < j + n
    · rw [mh_cpR_at w]
      show sc_nm _ _ (if _ ∧ _ then _ else _)
      rw [if_pos (by omega), ← hb, show 40 * k + i + (40 * jj + p - (40 * jj + j)) = 40 * k + (i + (p - j)) by omega]
      exact (b4 hb0).2 _ (by omega) (by omega)
    · rw [mh_cpR_no w]
      show sc_nm _ _ (if _ ∧ _ then _ else _)
      rw [if_neg (by omega)]; exact (a4 q).2 p p0 p1
  · rw [er _ (by omega)]
    show sc_nm _ _ (if _ ∧ _ then _ else _)
    rw [if_neg (by omega)]; exact (a4 q).2 p p0 p1
def sc_Tr (h : Nat → Int → Int) (o v : Int → Int) : Prop := h 16 0 = o 22 ∧ ∀ i, 0 ≤ i → i < o 22 → h 16 (1 + i) = v i
theorem sc_Sfx {k : Int} (hk : 0 ≤ k ∧ k ≤ 3) : mh_fx.all (fun q => q.1 != 18 + k.toNat) = true := by
  have q : ∀ x : Fin 96, (18 ≤ x.val ∧ x.val < 22) → mh_fx.all (fun q => q.1 != x.val) = true := by decide +kernel
  exact q ⟨18 + k.toNat, by omega⟩ (by show 18 ≤ 18 + k.toNat ∧ 18 + k.toNat < 22; omega)
set_option maxRecDepth 100000 in
set_option maxHeartbeats 2000000 in
theorem k_stand {g : mh_G} {d : Nat} (hd : 1 ≤ d) {h : Nat → Int → Int} (hF : mh_FX h) {k i n : Int} (hk : 0 ≤ k ∧ k ≤ 3) (hi : -2147483648 ≤ i ∧ i < 2147483648) (hn : -2147483648 ≤ n ∧ n < 2147483648) (hz : 0 ≤ h 23 k ∧ h 23 k ≤ 40) : mh_MP g d yX11_stand cX11_stand 4 (some .boolean) 96 [.ref 0, .int (Int32.ofInt (k)), .int (Int32.ofInt (i)), .int (Int32.ofInt (n))] h (some (.int (Int32.ofInt (mh_B (0 ≤ n ∧ 0 ≤ i ∧ i + n ≤ h 23 k))))) := by
  refine mh_M_of RX11 rfl (by decide +kernel) [some (.ref 0), some (.int (Int32.ofInt (k))), some (.int (Int32.ofInt (i))), some (.int (Int32.ofInt (n)))] rfl (Nat.le_of_ble_eq_true rfl) (fun f F Z hn0 hR => ?_)
  refine mh_iload3 (pc := 0) F dX11_stand_0 ?_
  refine mh_if_lt (pc := 1) (tgt := 34) F dX11_stand_1 rfl (by omega) (fun c_1 => ?_) (fun c_1 => ?_)
  · refine mh_iconst (pc := 34) F dX11_stand_34 ?_
    exact mh_zreturnp F Z dX11_stand_35 (Or.inr ⟨rfl, (by omega)⟩) rfl
  · refine mh_iload2 (pc := 4) F dX11_stand_4 ?_
    refine mh_if_lt (pc := 5) (tgt := 34) F dX11_stand_5 rfl (by omega) (fun c_5 => ?_) (fun c_5 => ?_)
    · refine mh_iconst (pc := 34) F dX11_stand_34 ?_
      exact mh_zreturnp F Z dX11_stand_35 (Or.inr ⟨rfl, (by omega)⟩) rfl
    · refine mh_iload3 (pc := 8) F dX11_stand_8 ?_
      refine mh_aload0 (pc := 9) F dX11_stand_9 ?_
      refine mh_getr (b := 23) (pc := 10) F sh_0 (by decide) fw_RX11_61_11 dX11_stand_10 rfl (fx_0_9 hF) ?_
      refine mh_iload1 (pc := 13) F dX11_stand_13 ?_
      refine mh_iaload (pc := 14) F sh_23 (by decide) (by omega) dX11_stand_14 ?_
      refine mh_icmp_gt (pc := 15) (tgt := 34) F dX11_stand_15 rfl (by omega) (by omega) (fun c_15 => ?_) (fun c_15 => ?_)
      · refine mh_iconst (pc := 34) F dX11_stand_34 ?_
        exact mh_zreturnp F Z dX11_stand_35 (Or.inr ⟨rfl, (by omega)⟩) rfl
      · refine mh_iload2 (pc := 18) F dX11_stand_18 ?_
        refine mh_aload0 (pc := 19) F dX11_stand_19 ?_
        refine mh_getr (b := 23) (pc := 20) F sh_0 (by decide) fw_RX11_61_11 dX11_stand_20 rfl (fx_0_9 hF) ?_
        refine mh_iload1 (pc := 23) F dX11_stand_23 ?_
        refine mh_iaload (pc := 24) F sh_23 (by decide) (by omega) dX11_stand_24 ?_
        refine mh_iload3 (pc := 25) F dX11_stand_25 ?_
        refine mh_isub (pc := 26) F dX11_stand_26 ?_
        refine mh_icmp_gt (pc := 27) (tgt := 34) F dX11_stand_27 rfl (by omega) (by omega) (fun c_27 => ?_) (fun c_27 => ?_)
        · refine mh_iconst (pc := 34) F dX11_stand_34 ?_
          exact mh_zreturnp F Z dX11_stand_35 (Or.inr ⟨rfl, (by omega)⟩) rfl
        · refine mh_iconst (pc := 30) F dX11_stand_30 ?_
          refine mh_goto (pc := 31) (tgt := 35) F dX11_stand_31 rfl ?_
          exact mh_zreturnp F Z dX11_stand_35 (Or.inl ⟨rfl, (by omega)⟩) rfl

set_option maxRecDepth 100000 in
set_option maxHeartbeats 2000000 in
theorem q_move {g : mh_G} {d : Nat} (hd : 8 ≤ d) {h : Nat → Int → Int} (hF : mh_FX h) {s er b z u : Int → Int} {k i l j n : Int} (hk : -2147483648 ≤ k ∧ k < 2147483648) (hi : -2147483648 ≤ i ∧ i < 2147483648) (hl : -2147483648 ≤ l ∧ l < 2147483648) (hj : -2147483648 ≤ j ∧ j < 2147483648) (hn : -2147483648 ≤ n ∧ n < 2147483648) (hV : sc_V h s) (hE : sc_E h er) (hS : sc_S h b z u) : mh_M g d yX11_move cX11_move 6 (some .int) 96 0 0 [.ref 0, .int (Int32.ofInt (k)), .int (Int32.ofInt (i)), .int (Int32.ofInt (l)), .int (Int32.ofInt (j)), .int (Int32.ofInt (n))] h (fun r h2 => ∃ (vv : Int) (ee uu : Int → Int), (vv, ee, uu) = sp_move k i l j n er b z u ∧ r = some (.int (Int32.ofInt vv)) ∧ mh_FX h2 ∧ mh_fr [18, 19, 20, 21, 24] h h2 ∧ sc_E h2 ee ∧ sc_S h2 b z uu) := by
  refine mh_M_of RX11 rfl (by decide +kernel) [some (.ref 0), some (.int (Int32.ofInt (k))), some (.int (Int32.ofInt (i))), some (.int (Int32.ofInt (l))), some (.int (Int32.ofInt (j))), some (.int (Int32.ofInt (n)))] rfl (Nat.le_of_ble_eq_true rfl) (fun f F Z hn0 hR => ?_)
  refine mh_iload1 (pc := 0) F dX11_move_0 ?_
  refine mh_callSp (pc := 1) (As := [.int (Int32.ofInt (k))]) (st := []) F (by omega) (k4_isSheet (by omega) (by omega)) ws_RX11_274 dX11_move_1 rfl rfl (Nat.le_of_ble_eq_true rfl) ⟨Nat.zero_le _, Nat.zero_le _⟩ ?_
  refine mh_ifb_eq (pc := 4) (tgt := 14) F dX11_move_4 rfl (fun c_4 => ?_) (fun c_4 => ?_)
  · refine mh_aload0 (pc := 14) F dX11_move_14 ?_
    refine mh_iconst (pc := 15) F dX11_move_15 ?_
    refine mh_callV0 (pc := 16) (As := [.int (Int32.ofInt (1))]) (st := []) F (by omega) (k8_refuse (by omega) hF rfl (by decide)) wv_RX11_90_yX11_refuse dX11_move_16 sh_0 rfl (by decide) rfl rfl (Nat.le_of_ble_eq_true rfl) ⟨Nat.zero_le _, Nat.zero_le _⟩ (fun r1 h1 q1 => ?_)
    obtain ⟨rfl, F1, fr1, q1_0⟩ := q1
    have fr2 : mh_fr [24] h h1 := (mh_fr.tr mh_fr.rf fr1).mono (by simp)
    have hVr : sc_V h1 s := sc_V_fr hV (fun a a1 a2 a3 a4 => fr1 a (by simp; omega))
    have hEr : sc_E h1 (mh_ur er 1 (er 1 + 1)) := hE.up (by decide) q1_0
    exact mh_ireturn F Z dX11_move_19 ⟨_, _, _, (by unfold sp_move; (repeat' split) <;> first | rfl | (exfalso; omega)), rfl, F1, (fr2.mono (by intro a ha; simp at ha ⊢; omega)), hEr, (hS.fr (fun a a1 a2 => fr2 a (by simp; omega)))⟩
  · refine mh_iload3 (pc := 7) F dX11_move_7 ?_
    refine mh_callSp (pc := 8) (As := [.int (Int32.ofInt (l))]) (st := []) F (by omega) (k4_isSheet (by omega) (by omega)) ws_RX11_274 dX11_move_8 rfl rfl (Nat.le_of_ble_eq_true rfl) ⟨Nat.zero_le _, Nat.zero_le _⟩ ?_
    refine mh_ifb_ne (pc := 11) (tgt := 20) F dX11_move_11 rfl (fun c_11 => ?_) (fun c_11 => ?_)
    · obtain ⟨s1, s2, s3, s4⟩ := hS k (by omega) (by omega)
      obtain ⟨t1, t2, t3, t4⟩ := hS l (by omega) (by omega)
      refine mh_aload0 (pc := 20) F dX11_move_20 ?_
      refine mh_getr (b := 22) (pc := 21) F sh_0 (by decide) fw_RX11_58_11 dX11_move_21 rfl (fx_0_8 hF) ?_
      refine mh_iload1 (pc := 24) F dX11_move_24 ?_
      refine mh_iaload (pc := 25) F sh_22 (by decide) (by omega) dX11_move_25 ?_
      refine mh_if_eq (pc := 26) (tgt := 38) F dX11_move_26 rfl (by omega) (fun c_26 => ?_) (fun c_26 => ?_)
      · refine mh_aload0 (pc := 38) F dX11_move_38 ?_
        refine mh_iconst (pc := 39) F dX11_move_39 ?_
        refine mh_callV0 (pc := 40) (As := [.int (Int32.ofInt (2))]) (st := []) F (by omega) (k8_refuse (by omega) hF rfl (by decide)) wv_RX11_90_yX11_refuse dX11_move_40 sh_0 rfl (by decide) rfl rfl (Nat.le_of_ble_eq_true rfl) ⟨Nat.zero_le _, Nat.zero_le _⟩ (fun r3 h3 q3 => ?_)
        obtain ⟨rfl, F3, fr3, q3_0⟩ := q3
        have fr4 : mh_fr [24] h h3 := (mh_fr.tr mh_fr.rf fr3).mono (by simp)
        have hVr : sc_V h3 s := sc_V_fr hV (fun a a1 a2 a3 a4 => fr3 a (by simp; omega))
        have hEr : sc_E h3 (mh_ur er 2 (er 2 + 1)) := hE.up (by decide) q3_0
        exact mh_ireturn F Z dX11_move_43 ⟨_, _, _, (by unfold sp_move; (repeat' split) <;> first | rfl | (exfalso; omega)), rfl, F3, (fr4.mono (by intro a ha; simp at ha ⊢; omega)), hEr, (hS.fr (fun a a1 a2 => fr4 a (by simp; omega)))⟩
      · refine mh_aload0 (pc := 29) F dX11_move_29 ?_
        refine mh_getr (b := 22) (pc := 30) F sh_0 (by decide) fw_RX11_58_11 dX11_move_30 rfl (fx_0_8 hF) ?_
        refine mh_iload3 (pc := 33) F dX11_move_33 ?_
        refine mh_iaload (pc := 34) F sh_22 (by decide) (by omega) dX11_move_34 ?_
        refine mh_if_ne (pc := 35) (tgt := 44) F dX11_move_35 rfl (by omega) (fun c_35 => ?_) (fun c_35 => ?_)
        · refine mh_aload0 (pc := 44) F dX11_move_44 ?_
          refine mh_getr (b := 22) (pc := 45) F sh_0 (by decide) fw_RX11_58_11 dX11_move_45 rfl (fx_0_8 hF) ?_
          refine mh_iload1 (pc := 48) F dX11_move_48 ?_
          refine mh_iaload (pc := 49) F sh_22 (by decide) (by omega) dX11_move_49 ?_
          refine mh_aload0 (pc := 50) F dX11_move_50 ?_
          refine mh_getr (b := 22) (pc := 51) F sh_0 (by decide) fw_RX11_58_11 dX11_move_51 rfl (fx_0_8 hF) ?_
          refine mh_iload3 (pc := 54) F dX11_move_54 ?_
          refine mh_iaload (pc := 55) F sh_22 (by decide) (by omega) dX11_move_55 ?_
          refine mh_icmp_eq (pc := 56) (tgt := 65) F dX11_move_56 rfl (by omega) (by omega) (fun c_56 => ?_) (fun c_56 => ?_)
          · obtain ⟨z1, z1b⟩ := s4 (by omega)
            obtain ⟨z2, z2b⟩ := t4 (by omega)
            have zs1 : 0 ≤ h 23 k ∧ h 23 k ≤ 40 := by omega
            have zs2 : 0 ≤ h 23 l ∧ h 23 l ≤ 40 := by omega
            refine mh_aload0 (pc := 65) F dX11_move_65 ?_
            refine mh_iload1 (pc := 66) F dX11_move_66 ?_
            refine mh_iload2 (pc := 67) F dX11_move_67 ?_
            refine mh_iload5 (pc := 68) F dX11_move_68 ?_
            refine mh_callVp (pc := 70) (As := [.int (Int32.ofInt (k)), .int (Int32.ofInt (i)), .int (Int32.ofInt (n))]) (st := []) F (by omega) (k_stand (by omega) hF (by omega) (by omega) (by omega) zs1) wv_RX11_283_yX11_stand dX11_move_70 sh_0 rfl (by decide) rfl rfl (Nat.le_of_ble_eq_true rfl) ⟨Nat.zero_le _, Nat.zero_le _⟩ ?_
            refine mh_ifb_eq (pc := 73) (tgt := 88) F dX11_move_73 rfl (fun c_73 => ?_) (fun c_73 => ?_)
            · refine mh_aload0 (pc := 88) F dX11_move_88 ?_
              refine mh_iconst (pc := 89) F dX11_move_89 ?_
              refine mh_callV0 (pc := 90) (As := [.int (Int32.ofInt (1))]) (st := []) F (by omega) (k8_refuse (by omega) hF rfl (by decide)) wv_RX11_90_yX11_refuse dX11_move_90 sh_0 rfl (by decide) rfl rfl (Nat.le_of_ble_eq_true rfl) ⟨Nat.zero_le _, Nat.zero_le _⟩ (fun r5 h5 q5 => ?_)
              obtain ⟨rfl, F5, fr5, q5_0⟩ := q5
              have fr6 : mh_fr [24] h h5 := (mh_fr.tr mh_fr.rf fr5).mono (by simp)
              have hVr : sc_V h5 s := sc_V_fr hV (fun a a1 a2 a3 a4 => fr5 a (by simp; omega))
              have hEr : sc_E h5 (mh_ur er 1 (er 1 + 1)) := hE.up (by decide) q5_0
              exact mh_ireturn F Z dX11_move_93 ⟨_, _, _, (by unfold sp_move; (repeat' split) <;> first | rfl | (exfalso; omega)), rfl, F5, (fr6.mono (by intro a ha; simp at ha ⊢; omega)), hEr, (hS.fr (fun a a1 a2 => fr6 a (by simp; omega)))⟩
            · refine mh_aload0 (pc := 76) F dX11_move_76 ?_
              refine mh_iload3 (pc := 77) F dX11_move_77 ?_
              refine mh_iload4 (pc := 78) F dX11_move_78 ?_
              refine mh_iload5 (pc := 80) F dX11_move_80 ?_
              refine mh_callVp (pc := 82) (As := [.int (Int32.ofInt (l)), .int (Int32.ofInt (j)), .int (Int32.ofInt (n))]) (st := []) F (by omega) (k_stand (by omega) hF (by omega) (by omega) (by omega) zs2) wv_RX11_283_yX11_stand dX11_move_82 sh_0 rfl (by decide) rfl rfl (Nat.le_of_ble_eq_true rfl) ⟨Nat.zero_le _, Nat.zero_le _⟩ ?_
              refine mh_ifb_ne (pc := 85) (tgt := 94) F dX11_move_85 rfl (fun c_85 => ?_) (fun c_85 => ?_)
              · refine mh_aload0 (pc := 94) F dX11_move_94 ?_
                refine mh_getr (b := 17) (pc := 95) F sh_0 (by decide) fw_RX11_55_11 dX11_move_95 rfl (fx_0_7 hF) ?_
                refine mh_iload1 (pc := 98) F dX11_move_98 ?_
                refine mh_aaload (b := 18 + k.toNat) (pc := 99) F sh_17 (by decide) (by decide) (by omega) dX11_move_99 (fx_17 hF (by omega)) ?_
                refine mh_iload2 (pc := 100) F dX11_move_100 ?_
                refine mh_aload0 (pc := 101) F dX11_move_101 ?_
                refine mh_getr (b := 17) (pc := 102) F sh_0 (by decide) fw_RX11_55_11 dX11_move_102 rfl (fx_0_7 hF) ?_
                refine mh_iload3 (pc := 105) F dX11_move_105 ?_
                refine mh_aaload (b := 18 + l.toNat) (pc := 106) F sh_17 (by decide) (by decide) (by omega) dX11_move_106 (fx_17 hF (by omega)) ?_
                refine mh_iload4 (pc := 107) F dX11_move_107 ?_
                refine mh_iload5 (pc := 109) F dX11_move_109 ?_
                refine mh_copy (pc := 111) F (by omega) (sc_Rk (k := k) (by omega)).sh (sc_Rk (k := l) (by omega)).sh (by omega) (by omega) (by decide) cw_RX11 cw_nat cw_stat cw_ini (by omega) (by omega) (by omega) (by omega) (by omega) (fun _ _ _ => rfl) dX11_move_111 (Nat.le_of_ble_eq_true rfl) ?_
                refine mh_nmh (fun h7 e7 => ?_)
                have F7 : mh_FX h7 := by rw [e7]; exact hF.cp (sc_Sfx (by omega))
                have frc7 : mh_fr [18 + l.toNat] h h7 := mh_fr.cp e7
                have fr8 : mh_fr [18 + l.toNat] h h7 := (mh_fr.tr mh_fr.rf frc7).mono (by simp)
                have hSn := sc_S_move hS (by omega) (by omega) (by omega) (by omega) (by omega) e7
                refine mh_iload5 (pc := 114) F dX11_move_114 ?_
                exact mh_ireturn F Z dX11_move_116 ⟨_, _, _, (by unfold sp_move; (repeat' split) <;> first | rfl | (exfalso; omega)), rfl, F7, (fr8.mono (by intro a ha; simp at ha ⊢; omega)), (hE.of (fr8 24 (by simp; try omega))), hSn⟩
              · refine mh_aload0 (pc := 88) F dX11_move_88 ?_
                refine mh_iconst (pc := 89) F dX11_move_89 ?_
                refine mh_callV0 (pc := 90) (As := [.int (Int32.ofInt (1))]) (st := []) F (by omega) (k8_refuse (by omega) hF rfl (by decide)) wv_RX11_90_yX11_refuse dX11_move_90 sh_0 rfl (by decide) rfl rfl (Nat.le_of_ble_eq_true rfl) ⟨Nat.zero_le _, Nat.zero_le _⟩ (fun r9 h9 q9 => ?_)
                obtain ⟨rfl, F9, fr9, q9_0⟩ := q9
                have fr10 : mh_fr [24] h h9 := (mh_fr.tr mh_fr.rf fr9).mono (by simp)
                have hVr : sc_V h9 s := sc_V_fr hV (fun a a1 a2 a3 a4 => fr9 a (by simp; omega))
                have hEr : sc_E h9 (mh_ur er 1 (er 1 + 1)) := hE.up (by decide) q9_0
                exact mh_ireturn F Z dX11_move_93 ⟨_, _, _, (by unfold sp_move; (repeat' split) <;> first | rfl | (exfalso; omega)), rfl, F9, (fr10.mono (by intro a ha; simp at ha ⊢; omega)), hEr, (hS.fr (fun a a1 a2 => fr10 a (by simp; omega)))⟩
          · refine mh_aload0 (pc := 59) F dX11_move_59 ?_
            refine mh_iconst (pc := 60) F dX11_move_60 ?_
            refine mh_callV0 (pc := 61) (As := [.int (Int32.ofInt (5))]) (st := []) F (by omega) (k8_refuse (by omega) hF rfl (by decide)) wv_RX11_90_yX11_refuse dX11_move_61 sh_0 rfl (by decide) rfl rfl (Nat.le_of_ble_eq_true rfl) ⟨Nat.zero_le _, Nat.zero_le _⟩ (fun r11 h11 q11 => ?_)
            obtain ⟨rfl, F11, fr11, q11_0⟩ := q11
            have fr12 : mh_fr [24] h h11 := (mh_fr.tr mh_fr.rf fr11).mono (by simp)
            have hVr : sc_V h11 s := sc_V_fr hV (fun a a1 a2 a3 a4 => fr11 a (by simp; omega))
            have hEr : sc_E h11 (mh_ur er 5 (er 5 + 1)) := hE.up (by decide) q11_0
            exact mh_ireturn F Z dX11_move_64 ⟨_, _, _, (by unfold sp_move; (repeat' split) <;> first | rfl | (exfalso; omega)), rfl, F11, (fr12.mono (by intro a ha; simp at ha ⊢; omega)), hEr, (hS.fr (fun a a1 a2 => fr12 a (by simp; omega)))⟩
        · refine mh_aload0 (pc := 38) F dX11_move_38 ?_
          refine mh_iconst (pc := 39) F dX11_move_39 ?_
          refine mh_callV0 (pc := 40) (As := [.int (Int32.ofInt (2))]) (st := []) F (by omega) (k8_refuse (by omega) hF rfl (by decide)) wv_RX11_90_yX11_refuse dX11_move_40 sh_0 rfl (by decide) rfl rfl (Nat.le_of_ble_eq_true rfl) ⟨Nat.zero_le _, Nat.zero_le _⟩ (fun r13 h13 q13 => ?_)
          obtain ⟨rfl, F13, fr13, q13_0⟩ := q13
          have fr14 : mh_fr [24] h h13 := (mh_fr.tr mh_fr.rf fr13).mono (by simp)
          have hVr : sc_V h13 s := sc_V_fr hV (fun a a1 a2 a3 a4 => fr13 a (by simp; omega))
          have hEr : sc_E h13 (mh_ur er 2 (er 2 + 1)) := hE.up (by decide) q13_0
          exact mh_ireturn F Z dX11_move_43 ⟨_, _, _, (by unfold sp_move; (repeat' split) <;> first | rfl | (exfalso; omega)), rfl, F13, (fr14.mono (by intro a ha; simp at ha ⊢; omega)), hEr, (hS.fr (fun a a1 a2 => fr14 a (by simp; omega)))⟩
    · refine mh_aload0 (pc := 14) F dX11_move_14 ?_
      refine mh_iconst (pc := 15) F dX11_move_15 ?_
      refine mh_callV0 (pc := 16) (As := [.int (Int32.ofInt (1))]) (st := []) F (by omega) (k8_refuse (by omega) hF rfl (by decide)) wv_RX11_90_yX11_refuse dX11_move_16 sh_0 rfl (by decide) rfl rfl (Nat.le_of_ble_eq_true rfl) ⟨Nat.zero_le _, Nat.zero_le _⟩ (fun r15 h15 q15 => ?_)
      obtain ⟨rfl, F15, fr15, q15_0⟩ := q15
      have fr16 : mh_fr [24] h h15 := (mh_fr.tr mh_fr.rf fr15).mono (by simp)
      have hVr : sc_V h15 s := sc_V_fr hV (fun a a1 a2 a3 a4 => fr15 a (by simp; omega))
      have hEr : sc_E h15 (mh_ur er 1 (er 1 + 1)) := hE.up (by decide) q15_0
      exact mh_ireturn F Z dX11_move_19 ⟨_, _, _, (by unfold sp_move; (repeat' split) <;> first | rfl | (exfalso; omega)), rfl, F15, (fr16.mono (by intro a ha; simp at ha ⊢; omega)), hEr, (hS.fr (fun a a1 a2 => fr16 a (by simp; omega)))⟩

set_option maxRecDepth 100000 in
set_option maxHeartbeats 2000000 in
theorem q_trace {g : mh_G} {d : Nat} (hd : 8 ≤ d) {h : Nat → Int → Int} (hF : mh_FX h) {s er b z u o v : Int → Int} {i : Int} (hi : -2147483648 ≤ i ∧ i < 2147483648) (hT : sc_Tr h o v) (e22 : 0 ≤ o 22 ∧ o 22 ≤ 40) (hV : sc_V h s) (hE : sc_E h er) (hS : sc_S h b z u) : mh_M g d yX11_trace cX11_trace 2 (some .int) 96 0 0 [.ref 0, .int (Int32.ofInt (i))] h (fun r h2 => ∃ (vv : Int) (ee : Int → Int), (vv, ee) = sp_trace i er o v ∧ r = some (.int (Int32.ofInt vv)) ∧ mh_FX h2 ∧ mh_fr [24] h h2 ∧ sc_E h2 ee ∧ sc_S h2 b z u) := by
  refine mh_M_of RX11 rfl (by decide +kernel) [some (.ref 0), some (.int (Int32.ofInt (i)))] rfl (Nat.le_of_ble_eq_true rfl) (fun f F Z hn0 hR => ?_)
  obtain ⟨hT0, hT1⟩ := hT
  refine mh_iload1 (pc := 0) F dX11_trace_0 ?_
  refine mh_iconst (pc := 1) F dX11_trace_1 ?_
  refine mh_aload0 (pc := 2) F dX11_trace_2 ?_
  refine mh_getr (b := 16) (pc := 3) F sh_0 (by decide) fw_RX11_49_11 dX11_trace_3 rfl (fx_0_6 hF) ?_
  refine mh_iconst (pc := 6) F dX11_trace_6 ?_
  refine mh_iaload (pc := 7) F sh_16 (by decide) (by omega) dX11_trace_7 ?_
  refine mh_iconst (pc := 8) F dX11_trace_8 ?_
  refine mh_isub (pc := 9) F dX11_trace_9 ?_
  refine mh_callSp (pc := 10) (As := [.int (Int32.ofInt (i)), .int (Int32.ofInt (0)), .int (Int32.ofInt ((h 16 0) - 1))]) (st := []) F (by omega) (k4_within (by omega) (by omega) (by omega) (by omega)) ws_RX11_82 dX11_trace_10 rfl rfl (Nat.le_of_ble_eq_true rfl) ⟨Nat.zero_le _, Nat.zero_le _⟩ ?_
  refine mh_ifb_eq (pc := 13) (tgt := 22) F dX11_trace_13 rfl (fun c_13 => ?_) (fun c_13 => ?_)
  · refine mh_aload0 (pc := 22) F dX11_trace_22 ?_
    refine mh_iconst (pc := 23) F dX11_trace_23 ?_
    refine mh_callV0 (pc := 24) (As := [.int (Int32.ofInt (2))]) (st := []) F (by omega) (k8_refuse (by omega) hF rfl (by decide)) wv_RX11_90_yX11_refuse dX11_trace_24 sh_0 rfl (by decide) rfl rfl (Nat.le_of_ble_eq_true rfl) ⟨Nat.zero_le _, Nat.zero_le _⟩ (fun r1 h1 q1 => ?_)
    obtain ⟨rfl, F1, fr1, q1_0⟩ := q1
    have fr2 : mh_fr [24] h h1 := (mh_fr.tr mh_fr.rf fr1).mono (by simp)
    have hVr : sc_V h1 s := sc_V_fr hV (fun a a1 a2 a3 a4 => fr1 a (by simp; omega))
    have hEr : sc_E h1 (mh_ur er 2 (er 2 + 1)) := hE.up (by decide) q1_0
    exact mh_ireturn F Z dX11_trace_27 ⟨_, _, (by unfold sp_trace; (repeat' split) <;> first | rfl | (exfalso; omega)), rfl, F1, (fr2.mono (by intro a ha; simp at ha ⊢; omega)), hEr, (hS.fr (fun a a1 a2 => fr2 a (by simp; omega)))⟩
  · refine mh_iload1 (pc := 16) F dX11_trace_16 ?_
    refine mh_bipush (pc := 17) F dX11_trace_17 rfl ?_
    refine mh_icmp_lt (pc := 19) (tgt := 28) F dX11_trace_19 rfl (by omega) (by omega) (fun c_19 => ?_) (fun c_19 => ?_)
    · refine mh_aload0 (pc := 28) F dX11_trace_28 ?_
      refine mh_getr (b := 16) (pc := 29) F sh_0 (by decide) fw_RX11_49_11 dX11_trace_29 rfl (fx_0_6 hF) ?_
      refine mh_iconst (pc := 32) F dX11_trace_32 ?_
      refine mh_iload1 (pc := 33) F dX11_trace_33 ?_
      refine mh_iadd (pc := 34) F dX11_trace_34 ?_
      refine mh_iaload (pc := 35) F sh_16 (by decide) (by omega) dX11_trace_35 ?_
      refine mh_top (y := v i) (mh_eqI (hT1 i (by omega) (by omega))) ?_
      exact mh_ireturn F Z dX11_trace_36 ⟨_, _, (by unfold sp_trace; (repeat' split) <;> first | rfl | (exfalso; omega)), rfl, hF, (mh_fr.rf.mono (by simp)), hE, hS⟩
    · refine mh_aload0 (pc := 22) F dX11_trace_22 ?_
      refine mh_iconst (pc := 23) F dX11_trace_23 ?_
      refine mh_callV0 (pc := 24) (As := [.int (Int32.ofInt (2))]) (st := []) F (by omega) (k8_refuse (by omega) hF rfl (by decide)) wv_RX11_90_yX11_refuse dX11_trace_24 sh_0 rfl (by decide) rfl rfl (Nat.le_of_ble_eq_true rfl) ⟨Nat.zero_le _, Nat.zero_le _⟩ (fun r3 h3 q3 => ?_)
      obtain ⟨rfl, F3, fr3, q3_0⟩ := q3
      have fr4 : mh_fr [24] h h3 := (mh_fr.tr mh_fr.rf fr3).mono (by simp)
      have hVr : sc_V h3 s := sc_V_fr hV (fun a a1 a2 a3 a4 => fr3 a (by simp; omega))
      have hEr : sc_E h3 (mh_ur er 2 (er 2 + 1)) := hE.up (by decide) q3_0
      exact mh_ireturn F Z dX11_trace_27 ⟨_, _, (by unfold sp_trace; (repeat' split) <;> first | rfl | (exfalso; omega)), rfl, F3, (fr4.mono (by intro a ha; simp at ha ⊢; omega)), hEr, (hS.fr (fun a a1 a2 => fr4 a (by simp; omega)))⟩

set_option maxRecDepth 100000 in
set_option maxHeartbeats 2000000 in
theorem q_heats {g : mh_G} {d : Nat} (hd : 8 ≤ d) {h : Nat → Int → Int} (hF : mh_FX h) {s er b z u : Int → Int} {k : Int} (hk : -2147483648 ≤ k ∧ k < 2147483648) (hV : sc_V h s) (hE : sc_E h er) (hS : sc_S h b z u) : mh_M g d yX11_heats cX11_heats 5 (some .int) 96 0 0 [.ref 0, .int (Int32.ofInt (k))] h (fun r h2 => ∃ (vv : Int) (tt ee : Int → Int), (vv, tt, ee) = sp_heats k s er b z u ∧ r = some (.int (Int32.ofInt vv)) ∧ mh_FX h2 ∧ mh_fr [26, 24] h h2 ∧ sc_E h2 ee ∧ sc_S h2 b z u ∧ sc_V h2 tt) := by
  refine mh_M_of RX11 rfl (by decide +kernel) [some (.ref 0), some (.int (Int32.ofInt (k))), none, none, none] rfl (Nat.le_of_ble_eq_true rfl) (fun f F Z hn0 hR => ?_)
  have hmo0 : sp_most 0 = 40 := rfl
  refine mh_iload1 (pc := 0) F dX11_heats_0 ?_
  refine mh_callSp (pc := 1) (As := [.int (Int32.ofInt (k))]) (st := []) F (by omega) (k4_isSheet (by omega) (by omega)) ws_RX11_274 dX11_heats_1 rfl rfl (Nat.le_of_ble_eq_true rfl) ⟨Nat.zero_le _, Nat.zero_le _⟩ ?_
  refine mh_ifb_ne (pc := 4) (tgt := 13) F dX11_heats_4 rfl (fun c_4 => ?_) (fun c_4 => ?_)
  · obtain ⟨s1, s2, s3, s4⟩ := hS k (by omega) (by omega)
    refine mh_aload0 (pc := 13) F dX11_heats_13 ?_
    refine mh_getr (b := 22) (pc := 14) F sh_0 (by decide) fw_RX11_58_11 dX11_heats_14 rfl (fx_0_8 hF) ?_
    refine mh_iload1 (pc := 17) F dX11_heats_17 ?_
    refine mh_iaload (pc := 18) F sh_22 (by decide) (by omega) dX11_heats_18 ?_
    refine mh_if_ne (pc := 19) (tgt := 28) F dX11_heats_19 rfl (by omega) (fun c_19 => ?_) (fun c_19 => ?_)
    · obtain ⟨z1, s4b⟩ := s4 (by omega)
      refine mh_aload0 (pc := 28) F dX11_heats_28 ?_
      refine mh_getr (b := 23) (pc := 29) F sh_0 (by decide) fw_RX11_61_11 dX11_heats_29 rfl (fx_0_9 hF) ?_
      refine mh_iload1 (pc := 32) F dX11_heats_32 ?_
      refine mh_iaload (pc := 33) F sh_23 (by decide) (by omega) dX11_heats_33 ?_
      refine mh_top (y := z k) (mh_eqI z1) ?_
      refine mh_bipush (pc := 34) F dX11_heats_34 rfl ?_
      refine mh_callSp (pc := 36) (As := [.int (Int32.ofInt (z k)), .int (Int32.ofInt (9))]) (st := []) F (by omega) (k_min (by omega) (by omega) (by omega)) ws_RX11_292 dX11_heats_36 rfl rfl (Nat.le_of_ble_eq_true rfl) ⟨Nat.zero_le _, Nat.zero_le _⟩ ?_
      refine mh_istore2 (pc := 39) F dX11_heats_39 rfl (by decide) ?_
      refine mh_iconst (pc := 40) F dX11_heats_40 ?_
      refine mh_istore3 (pc := 41) F dX11_heats_41 rfl (by decide) ?_
      have L42 : ∀ (m : Nat) (x : Int) (hg : Nat → Int → Int), (mh_FX hg) → (mh_fr [26] h hg) → (0 ≤ x ∧ x ≤ min (z k) 9) → (sc_V hg (sp_hts s u k x.toNat)) → (sp_ld (sp_hp u k) x.toNat = x) → (9 - x).toNat = m → mh_V g f 5 96 0 0 42 [some (.ref 0), some (.int (Int32.ofInt (k))), some (.int (Int32.ofInt (min (z k) (9)))), some (.int (Int32.ofInt (x))), none] [] hg := by
        intro m
        induction m using Nat.strongRecOn with
        | _ m ihL42 =>
        intro x hg Fhg frhg hx hVl hl hmz
        refine mh_iload3 (pc := 42) F dX11_heats_42 ?_
        refine mh_iload2 (pc := 43) F dX11_heats_43 ?_
        refine mh_icmp_ge (pc := 44) (tgt := 89) F dX11_heats_44 rfl (by omega) (by omega) (fun c_44 => ?_) (fun c_44 => ?_)
        · refine mh_iload2 (pc := 89) F dX11_heats_89 ?_
          exact mh_ireturn F Z dX11_heats_90 ⟨_, _, _, (by have hlz : sp_lacks k b = 0 := (by unfold sp_lacks; rw [if_neg (by omega), if_neg (by omega)]); unfold sp_heats; rw [hlz]; have hz : sp_ld (sp_hp u k) (min (z k) 9).toNat = x := (by first | (rw [show (min (z k) 9) = x by omega]; exact hl) | (rw [show (min (z k) 9).toNat = x.toNat + ((min (z k) 9).toNat - x.toNat) by omega]; exact sp_ld_stop hx.1 hl (by unfold sp_hp; simp only [decide_eq_true_eq]; omega) _)); rw [hz]; exact (congrArg (fun q => (q, sp_hts s u k x.toNat, er)) (show _ = x by omega)).trans (if_neg (show ¬ (0 : Int) < 0 by decide)).symm), rfl, Fhg, (frhg.mono (by intro a ha; simp at ha ⊢; omega)), (hE.of (frhg 24 (by simp))), (hS.fr (fun a a1 a2 => frhg a (by simp; omega))), hVl⟩
        · refine mh_aload0 (pc := 47) F dX11_heats_47 ?_
          refine mh_getr (b := 17) (pc := 48) F sh_0 (by decide) fw_RX11_55_11 dX11_heats_48 rfl (fx_0_7 Fhg) ?_
          refine mh_iload1 (pc := 51) F dX11_heats_51 ?_
          refine mh_aaload (b := 18 + k.toNat) (pc := 52) F sh_17 (by decide) (by decide) (by omega) dX11_heats_52 (fx_17 Fhg (by omega)) ?_
          refine mh_iload3 (pc := 53) F dX11_heats_53 ?_
          refine mh_iaload (pc := 54) F (sc_Rk (k := k) (by omega)).sh (by omega) (by omega) dX11_heats_54 ?_
          have hnm := s4b x (by omega) (by omega)
          have hrow : hg (18 + k.toNat) x = h (18 + k.toNat) x := congrFun (frhg _ (by simp; omega)) x
          have hng : (0 ≤ hg (18 + k.toNat) x ∧ hg (18 + k.toNat) x ≤ 40 ↔ 0 ≤ u (40 * k + x) ∧ u (40 * k + x) ≤ 40) ∧ (-2147483648 ≤ hg (18 + k.toNat) x ∧ hg (18 + k.toNat) x < 2147483648) ∧ (0 ≤ hg (18 + k.toNat) x ∧ hg (18 + k.toNat) x ≤ 40 → hg (18 + k.toNat) x = u (40 * k + x)) := by
            rw [hrow]; unfold sc_nm at hnm; omega
          refine mh_istore4 (pc := 55) F dX11_heats_55 rfl (by decide) ?_
          refine mh_iload4 (pc := 57) F dX11_heats_57 ?_
          refine mh_iconst (pc := 59) F dX11_heats_59 ?_
          refine mh_iconst (pc := 60) F dX11_heats_60 ?_
          refine mh_callSp (pc := 61) (As := [.int (Int32.ofInt (0))]) (st := [.int (Int32.ofInt (0)), .int (Int32.ofInt (hg (18 + k.toNat) x))]) F (by omega) (k8_most (by omega) (by omega)) ws_RX11_86 dX11_heats_61 rfl rfl (Nat.le_of_ble_eq_true rfl) ⟨Nat.zero_le _, Nat.zero_le _⟩ ?_
          refine mh_callSp (pc := 64) (As := [.int (Int32.ofInt (hg (18 + k.toNat) x)), .int (Int32.ofInt (0)), .int (Int32.ofInt (sp_most 0))]) (st := []) F (by omega) (k4_within (by omega) (by omega) (by omega) (by omega)) ws_RX11_82 dX11_heats_64 rfl rfl (Nat.le_of_ble_eq_true rfl) ⟨Nat.zero_le _, Nat.zero_le _⟩ ?_
          refine mh_ifb_ne (pc := 67) (tgt := 72) F dX11_heats_67 rfl (fun c_67 => ?_) (fun c_67 => ?_)
          · refine mh_aload0 (pc := 72) F dX11_heats_72 ?_
            refine mh_getr (b := 25) (pc := 73) F sh_0 (by decide) fw_RX11_72_11 dX11_heats_73 rfl (fx_0_0 Fhg) ?_
            refine mh_getr (b := 26) (pc := 76) F sh_25 (by decide) fw_RX11_96_10 dX11_heats_76 rfl (fx_25_0 Fhg) ?_
            refine mh_iload3 (pc := 79) F dX11_heats_79 ?_
            refine mh_iload4 (pc := 80) F dX11_heats_80 ?_
            have hxu : hg (18 + k.toNat) x = u (40 * k + x) := hng.2.2 (by omega)
            refine mh_iastore (pc := 82) F sh_26 (by decide) (by omega) dX11_heats_82 ?_
            refine mh_nmh (fun h1 e1 => ?_)
            have F1 : mh_FX h1 := by rw [e1]; exact Fhg.upa rfl
            have fr1 : mh_fr [26] h h1 := mh_fr.upi frhg e1 (by simp)
            have hVn : sc_V h1 (mh_ur (sp_hts s u k x.toNat) (6 + 3 * x + 0) (u (40 * k + x))) := sc_V_hill hVl (by omega) (by decide) (by rw [e1]; rw [hxu]; rfl)
            refine mh_iinc3 (pc := 83) F dX11_heats_83 rfl (by decide) ?_
            refine mh_goto (pc := 86) (tgt := 42) F dX11_heats_86 rfl ?_
            refine mh_drop4 ?_
            exact ihL42 _ (by omega) (x + 1) h1 F1 (fr1.mono (by simp)) (by omega) (by rw [sp_hts_at s u k hx.1]; exact hVn) (sp_ld_at hx.1 hl (by unfold sp_hp; exact decide_eq_true (by omega))) rfl
          · refine mh_iload3 (pc := 70) F dX11_heats_70 ?_
            exact mh_ireturn F Z dX11_heats_71 ⟨_, _, _, (by have hlz : sp_lacks k b = 0 := (by unfold sp_lacks; rw [if_neg (by omega), if_neg (by omega)]); unfold sp_heats; rw [hlz]; have hz : sp_ld (sp_hp u k) (min (z k) 9).toNat = x := (by first | (rw [show (min (z k) 9) = x by omega]; exact hl) | (rw [show (min (z k) 9).toNat = x.toNat + ((min (z k) 9).toNat - x.toNat) by omega]; exact sp_ld_stop hx.1 hl (by unfold sp_hp; simp only [decide_eq_true_eq]; omega) _)); rw [hz]; exact (congrArg (fun q => (q, sp_hts s u k x.toNat, er)) (show _ = x by omega)).trans (if_neg (show ¬ (0 : Int) < 0 by decide)).symm), rfl, Fhg, (frhg.mono (by intro a ha; simp at ha ⊢; omega)), (hE.of (frhg 24 (by simp))), (hS.fr (fun a a1 a2 => frhg a (by simp; omega))), hVl⟩
      exact L42 _ 0 h hF (mh_fr.rf.mono (by simp)) (by omega) hV rfl rfl
    · refine mh_aload0 (pc := 22) F dX11_heats_22 ?_
      refine mh_iconst (pc := 23) F dX11_heats_23 ?_
      refine mh_callV0 (pc := 24) (As := [.int (Int32.ofInt (2))]) (st := []) F (by omega) (k8_refuse (by omega) hF rfl (by decide)) wv_RX11_90_yX11_refuse dX11_heats_24 sh_0 rfl (by decide) rfl rfl (Nat.le_of_ble_eq_true rfl) ⟨Nat.zero_le _, Nat.zero_le _⟩ (fun r2 h2 q2 => ?_)
      obtain ⟨rfl, F2, fr2, q2_0⟩ := q2
      have fr3 : mh_fr [24] h h2 := (mh_fr.tr mh_fr.rf fr2).mono (by simp)
      have hVr : sc_V h2 s := sc_V_fr hV (fun a a1 a2 a3 a4 => fr2 a (by simp; omega))
      have hEr : sc_E h2 (mh_ur er 2 (er 2 + 1)) := hE.up (by decide) q2_0
      exact mh_ireturn F Z dX11_heats_27 ⟨_, _, _, (by unfold sp_heats sp_lacks; (repeat' split) <;> first | rfl | (exfalso; omega)), rfl, F2, (fr3.mono (by intro a ha; simp at ha ⊢; omega)), hEr, (hS.fr (fun a a1 a2 => fr3 a (by simp; omega))), hVr⟩
  · refine mh_aload0 (pc := 7) F dX11_heats_7 ?_
    refine mh_iconst (pc := 8) F dX11_heats_8 ?_
    refine mh_callV0 (pc := 9) (As := [.int (Int32.ofInt (1))]) (st := []) F (by omega) (k8_refuse (by omega) hF rfl (by decide)) wv_RX11_90_yX11_refuse dX11_heats_9 sh_0 rfl (by decide) rfl rfl (Nat.le_of_ble_eq_true rfl) ⟨Nat.zero_le _, Nat.zero_le _⟩ (fun r4 h4 q4 => ?_)
    obtain ⟨rfl, F4, fr4, q4_0⟩ := q4
    have fr5 : mh_fr [24] h h4 := (mh_fr.tr mh_fr.rf fr4).mono (by simp)
    have hVr : sc_V h4 s := sc_V_fr hV (fun a a1 a2 a3 a4 => fr4 a (by simp; omega))
    have hEr : sc_E h4 (mh_ur er 1 (er 1 + 1)) := hE.up (by decide) q4_0
    exact mh_ireturn F Z dX11_heats_12 ⟨_, _, _, (by unfold sp_heats sp_lacks; (repeat' split) <;> first | rfl | (exfalso; omega)), rfl, F4, (fr5.mono (by intro a ha; simp at ha ⊢; omega)), hEr, (hS.fr (fun a a1 a2 => fr5 a (by simp; omega))), hVr⟩

set_option maxRecDepth 100000 in
set_option maxHeartbeats 2000000 in
theorem q_judge {g : mh_G} {d : Nat} (hd : 10 ≤ d) {h : Nat → Int → Int} (hF : mh_FX h) {s er b z u : Int → Int} {k : Int} (hk : -2147483648 ≤ k ∧ k < 2147483648) (hi : sp_inv s) (hV : sc_V h s) (hE : sc_E h er) (hS : sc_S h b z u) : mh_M g d yX11_judge cX11_judge 4 (some .int) 96 0 0 [.ref 0, .int (Int32.ofInt (k))] h (fun r h2 => ∃ (vv : Int) (ee : Int → Int), (vv, ee) = sp_judge k s er b z u ∧ r = some (.int (Int32.ofInt vv)) ∧ mh_FX h2 ∧ mh_fr [24] h h2 ∧ sc_E h2 ee ∧ sc_S h2 b z u) := by
  refine mh_M_of RX11 rfl (by decide +kernel) [some (.ref 0), some (.int (Int32.ofInt (k))), none, none] rfl (Nat.le_of_ble_eq_true rfl) (fun f F Z hn0 hR => ?_)
  have n6 := hV.2.2.1
  have hm := hi.1
  refine mh_iload1 (pc := 0) F dX11_judge_0 ?_
  refine mh_callSp (pc := 1) (As := [.int (Int32.ofInt (k))]) (st := []) F (by omega) (k4_isSheet (by omega) (by omega)) ws_RX11_274 dX11_judge_1 rfl rfl (Nat.le_of_ble_eq_true rfl) ⟨Nat.zero_le _, Nat.zero_le _⟩ ?_
  refine mh_ifb_ne (pc := 4) (tgt := 13) F dX11_judge_4 rfl (fun c_4 => ?_) (fun c_4 => ?_)
  · obtain ⟨s1, s2, s3, s4⟩ := hS k (by omega) (by omega)
    refine mh_aload0 (pc := 13) F dX11_judge_13 ?_
    refine mh_getr (b := 22) (pc := 14) F sh_0 (by decide) fw_RX11_58_11 dX11_judge_14 rfl (fx_0_8 hF) ?_
    refine mh_iload1 (pc := 17) F dX11_judge_17 ?_
    refine mh_iaload (pc := 18) F sh_22 (by decide) (by omega) dX11_judge_18 ?_
    refine mh_if_ne (pc := 19) (tgt := 28) F dX11_judge_19 rfl (by omega) (fun c_19 => ?_) (fun c_19 => ?_)
    · obtain ⟨z1, s4b⟩ := s4 (by omega)
      refine mh_aload0 (pc := 28) F dX11_judge_28 ?_
      refine mh_getr (b := 23) (pc := 29) F sh_0 (by decide) fw_RX11_61_11 dX11_judge_29 rfl (fx_0_9 hF) ?_
      refine mh_iload1 (pc := 32) F dX11_judge_32 ?_
      refine mh_iaload (pc := 33) F sh_23 (by decide) (by omega) dX11_judge_33 ?_
      refine mh_top (y := z k) (mh_eqI z1) ?_
      refine mh_aload0 (pc := 34) F dX11_judge_34 ?_
      refine mh_getr (b := 25) (pc := 35) F sh_0 (by decide) fw_RX11_72_11 dX11_judge_35 rfl (fx_0_0 hF) ?_
      refine mh_geti (pc := 38) F sh_25 (by decide) fw_RX11_123_10 dX11_judge_38 rfl ?_
      refine mh_top (y := s 3) (mh_eqI n6) ?_
      refine mh_callSp (pc := 41) (As := [.int (Int32.ofInt (z k)), .int (Int32.ofInt (s 3))]) (st := []) F (by omega) (k_min (by omega) (by omega) (by omega)) ws_RX11_292 dX11_judge_41 rfl rfl (Nat.le_of_ble_eq_true rfl) ⟨Nat.zero_le _, Nat.zero_le _⟩ ?_
      refine mh_istore2 (pc := 44) F dX11_judge_44 rfl (by decide) ?_
      refine mh_iconst (pc := 45) F dX11_judge_45 ?_
      refine mh_istore3 (pc := 46) F dX11_judge_46 rfl (by decide) ?_
      have L47 : ∀ (m : Nat) (x : Int), (0 ≤ x ∧ x ≤ min (z k) (s 3)) → (sp_ld (sp_jp s u k) x.toNat = x) → (6 - x).toNat = m → mh_V g f 4 96 0 0 47 [some (.ref 0), some (.int (Int32.ofInt (k))), some (.int (Int32.ofInt (min (z k) (s 3)))), some (.int (Int32.ofInt (x)))] [] h := by
        intro m
        induction m using Nat.strongRecOn with
        | _ m ihL47 =>
        intro x hx hl hmz
        refine mh_iload3 (pc := 47) F dX11_judge_47 ?_
        refine mh_iload2 (pc := 48) F dX11_judge_48 ?_
        refine mh_icmp_ge (pc := 49) (tgt := 83) F dX11_judge_49 rfl (by omega) (by omega) (fun c_49 => ?_) (fun c_49 => ?_)
        · refine mh_aload0 (pc := 83) F dX11_judge_83 ?_
          refine mh_getr (b := 23) (pc := 84) F sh_0 (by decide) fw_RX11_61_11 dX11_judge_84 rfl (fx_0_9 hF) ?_
          refine mh_iload1 (pc := 87) F dX11_judge_87 ?_
          refine mh_iaload (pc := 88) F sh_23 (by decide) (by omega) dX11_judge_88 ?_
          refine mh_top (y := z k) (mh_eqI z1) ?_
          refine mh_aload0 (pc := 89) F dX11_judge_89 ?_
          refine mh_getr (b := 25) (pc := 90) F sh_0 (by decide) fw_RX11_72_11 dX11_judge_90 rfl (fx_0_0 hF) ?_
          refine mh_geti (pc := 93) F sh_25 (by decide) fw_RX11_123_10 dX11_judge_93 rfl ?_
          refine mh_top (y := s 3) (mh_eqI n6) ?_
          refine mh_icmp_ne (pc := 96) (tgt := 103) F dX11_judge_96 rfl (by omega) (by omega) (fun c_96 => ?_) (fun c_96 => ?_)
          · refine mh_iload2 (pc := 103) F dX11_judge_103 ?_
            exact mh_ireturn F Z dX11_judge_104 ⟨_, _, (by have hlz : sp_lacks k b = 0 := (by unfold sp_lacks; rw [if_neg (by omega), if_neg (by omega)]); unfold sp_judge; rw [hlz]; have hz : sp_ld (sp_jp s u k) (min (s 3) (z k)).toNat = x := (by first | (rw [show (min (s 3) (z k)) = x by omega]; exact hl) | (rw [show (min (s 3) (z k)).toNat = x.toNat + ((min (s 3) (z k)).toNat - x.toNat) by omega]; exact sp_ld_stop hx.1 hl (by unfold sp_jp; simp only [decide_eq_true_eq]; omega) _)); rw [hz]; refine Eq.trans ?_ (if_neg (show ¬ (0 : Int) < 0 by decide)).symm; first | (rw [if_pos (by omega)]; done) | (rw [if_neg (by omega)]; done) | (rw [if_neg (by omega)]; exact congrArg (fun q => (q, er)) (show _ = x by omega))), rfl, hF, (mh_fr.rf.mono (by simp)), hE, hS⟩
          · refine mh_iconst (pc := 99) F dX11_judge_99 ?_
            refine mh_goto (pc := 100) (tgt := 104) F dX11_judge_100 rfl ?_
            exact mh_ireturn F Z dX11_judge_104 ⟨_, _, (by have hlz : sp_lacks k b = 0 := (by unfold sp_lacks; rw [if_neg (by omega), if_neg (by omega)]); unfold sp_judge; rw [hlz]; have hz : sp_ld (sp_jp s u k) (min (s 3) (z k)).toNat = x := (by first | (rw [show (min (s 3) (z k)) = x by omega]; exact hl) | (rw [show (min (s 3) (z k)).toNat = x.toNat + ((min (s 3) (z k)).toNat - x.toNat) by omega]; exact sp_ld_stop hx.1 hl (by unfold sp_jp; simp only [decide_eq_true_eq]; omega) _)); rw [hz]; refine Eq.trans ?_ (if_neg (show ¬ (0 : Int) < 0 by decide)).symm; first | (rw [if_pos (by omega)]; done) | (rw [if_neg (by omega)]; done) | (rw [if_neg (by omega)]; exact congrArg (fun q => (q, er)) (show _ = x by omega))), rfl, hF, (mh_fr.rf.mono (by simp)), hE, hS⟩
        · refine mh_aload0 (pc := 52) F dX11_judge_52 ?_
          refine mh_getr (b := 17) (pc := 53) F sh_0 (by decide) fw_RX11_55_11 dX11_judge_53 rfl (fx_0_7 hF) ?_
          refine mh_iload1 (pc := 56) F dX11_judge_56 ?_
          refine mh_aaload (b := 18 + k.toNat) (pc := 57) F sh_17 (by decide) (by decide) (by omega) dX11_judge_57 (fx_17 hF (by omega)) ?_
          refine mh_iload3 (pc := 58) F dX11_judge_58 ?_
          refine mh_iaload (pc := 59) F (sc_Rk (k := k) (by omega)).sh (by omega) (by omega) dX11_judge_59 ?_
          refine mh_aload0 (pc := 60) F dX11_judge_60 ?_
          refine mh_getr (b := 25) (pc := 61) F sh_0 (by decide) fw_RX11_72_11 dX11_judge_61 rfl (fx_0_0 hF) ?_
          refine mh_getr (b := 31) (pc := 64) F sh_25 (by decide) fw_RX11_126_10 dX11_judge_64 rfl (fx_25_5 hF) ?_
          refine mh_iload3 (pc := 67) F dX11_judge_67 ?_
          refine mh_aaload (b := 44 + x.toNat) (pc := 68) F sh_31 (by decide) (by decide) (by omega) dX11_judge_68 (fx_31 hF (by omega)) ?_
          refine mh_callVp (pc := 69) (As := []) (st := [.int (Int32.ofInt (h (18 + k.toNat) x))]) F (by omega) (k0_state (by omega) hF rfl (sc_Aj (j := x) (by omega)) ((hV.2.1 x (by omega) (by omega)).ok (hi.2.2.2.2.1 x (by omega) (by omega)))) wv_RX11_297_yX0_state dX11_judge_69 (sc_Aj (j := x) (by omega)).sh rfl (sc_Aj (j := x) (by omega)).lt rfl rfl (Nat.le_of_ble_eq_true rfl) ⟨Nat.zero_le _, Nat.zero_le _⟩ ?_
          refine mh_top (y := sp_stm s x) (mh_eqI (hV.2.1 x (by omega) (by omega)).st) ?_
          have hstr : 0 ≤ sp_stm s x ∧ sp_stm s x ≤ 3 := by rw [← (hV.2.1 x (by omega) (by omega)).st]; exact sc_st_rg _
          have hnm := s4b x (by omega) (by omega)
          have hng : (h (18 + k.toNat) x = sp_stm s x ↔ u (40 * k + x) = sp_stm s x) ∧ (-2147483648 ≤ h (18 + k.toNat) x ∧ h (18 + k.toNat) x < 2147483648) := by
            unfold sc_nm at hnm; omega
          refine mh_icmp_eq (pc := 72) (tgt := 77) F dX11_judge_72 rfl (by omega) (by omega) (fun c_72 => ?_) (fun c_72 => ?_)
          · refine mh_iinc3 (pc := 77) F dX11_judge_77 rfl (by decide) ?_
            refine mh_goto (pc := 80) (tgt := 47) F dX11_judge_80 rfl ?_
            exact ihL47 _ (by omega) (x + 1) (by omega) (sp_ld_at hx.1 hl (by unfold sp_jp; exact decide_eq_true (by omega))) rfl
          · refine mh_iload3 (pc := 75) F dX11_judge_75 ?_
            exact mh_ireturn F Z dX11_judge_76 ⟨_, _, (by have hlz : sp_lacks k b = 0 := (by unfold sp_lacks; rw [if_neg (by omega), if_neg (by omega)]); unfold sp_judge; rw [hlz]; have hz : sp_ld (sp_jp s u k) (min (s 3) (z k)).toNat = x := (by first | (rw [show (min (s 3) (z k)) = x by omega]; exact hl) | (rw [show (min (s 3) (z k)).toNat = x.toNat + ((min (s 3) (z k)).toNat - x.toNat) by omega]; exact sp_ld_stop hx.1 hl (by unfold sp_jp; simp only [decide_eq_true_eq]; omega) _)); rw [hz]; refine Eq.trans ?_ (if_neg (show ¬ (0 : Int) < 0 by decide)).symm; first | (rw [if_pos (by omega)]; done) | (rw [if_neg (by omega)]; done) | (rw [if_neg (by omega)]; exact congrArg (fun q => (q, er)) (show _ = x by omega))), rfl, hF, (mh_fr.rf.mono (by simp)), hE, hS⟩
      exact L47 _ 0 (by omega) rfl rfl
    · refine mh_aload0 (pc := 22) F dX11_judge_22 ?_
      refine mh_iconst (pc := 23) F dX11_judge_23 ?_
      refine mh_callV0 (pc := 24) (As := [.int (Int32.ofInt (2))]) (st := []) F (by omega) (k8_refuse (by omega) hF rfl (by decide)) wv_RX11_90_yX11_refuse dX11_judge_24 sh_0 rfl (by decide) rfl rfl (Nat.le_of_ble_eq_true rfl) ⟨Nat.zero_le _, Nat.zero_le _⟩ (fun r1 h1 q1 => ?_)
      obtain ⟨rfl, F1, fr1, q1_0⟩ := q1
      have fr2 : mh_fr [24] h h1 := (mh_fr.tr mh_fr.rf fr1).mono (by simp)
      have hVr : sc_V h1 s := sc_V_fr hV (fun a a1 a2 a3 a4 => fr1 a (by simp; omega))
      have hEr : sc_E h1 (mh_ur er 2 (er 2 + 1)) := hE.up (by decide) q1_0
      exact mh_ireturn F Z dX11_judge_27 ⟨_, _, (by unfold sp_judge sp_lacks; (repeat' split) <;> first | rfl | (exfalso; omega)), rfl, F1, (fr2.mono (by intro a ha; simp at ha ⊢; omega)), hEr, (hS.fr (fun a a1 a2 => fr2 a (by simp; omega)))⟩
  · refine mh_aload0 (pc := 7) F dX11_judge_7 ?_
    refine mh_iconst (pc := 8) F dX11_judge_8 ?_
    refine mh_callV0 (pc := 9) (As := [.int (Int32.ofInt (1))]) (st := []) F (by omega) (k8_refuse (by omega) hF rfl (by decide)) wv_RX11_90_yX11_refuse dX11_judge_9 sh_0 rfl (by decide) rfl rfl (Nat.le_of_ble_eq_true rfl) ⟨Nat.zero_le _, Nat.zero_le _⟩ (fun r3 h3 q3 => ?_)
    obtain ⟨rfl, F3, fr3, q3_0⟩ := q3
    have fr4 : mh_fr [24] h h3 := (mh_fr.tr mh_fr.rf fr3).mono (by simp)
    have hVr : sc_V h3 s := sc_V_fr hV (fun a a1 a2 a3 a4 => fr3 a (by simp; omega))
    have hEr : sc_E h3 (mh_ur er 1 (er 1 + 1)) := hE.up (by decide) q3_0
    exact mh_ireturn F Z dX11_judge_12 ⟨_, _, (by unfold sp_judge sp_lacks; (repeat' split) <;> first | rfl | (exfalso; omega)), rfl, F3, (fr4.mono (by intro a ha; simp at ha ⊢; omega)), hEr, (hS.fr (fun a a1 a2 => fr4 a (by simp; omega)))⟩

