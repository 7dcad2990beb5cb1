/-! relays, the cellar -/
theorem sp_rel_rg {s wm : Int → Int} {k n : Int} (hk : 0 ≤ k ∧ k < 6) (hi : sp_inv s) (hn : 0 ≤ n ∧ n ≤ 60) (hs6 : s (41 + 9 * k + 6) < 60) (hwm : sp_wmr wm) : 0 ≤ sp_rel s wm k n ∧ sp_rel s wm k n ≤ 1000000 := by
  obtain ⟨c0, c1, c2, c3, c4, c5, c6, c7⟩ := hi.2.2.2.2.1 k hk.1 hk.2
  unfold sp_row at c0 c1 c2 c3 c4 c5 c6
  have ht := sp_turns_rg (k := s (41 + 9 * k + 0)) c1
  have hlk := sp_tab_ok hk hi hn hwm (9 - s (41 + 9 * k + 2)).toNat (by omega) 0 (s (41 + 9 * k + 6)) (by omega) (by omega) (by omega) (by omega)
  rw [show 9 - (((9 - s (41 + 9 * k + 2)).toNat : Nat) : Int) = s (41 + 9 * k + 2) by omega] at hlk
  unfold sp_rel
  split <;> omega
theorem sp_mayb {s : Int → Int} {k : Int} (hc : sp_cok (sp_row s k)) (h : s (41 + 9 * k + 3) < 2 ∧ sp_stm s k = 0) : s (41 + 9 * k + 6) < 60 ∧ s (41 + 9 * k + 2) ≤ 8 := by
  obtain ⟨c0, c1, c2, c3, c4, c5, c6, c7, c8, c9, c10⟩ := hc
  unfold sp_row at c0 c1 c2 c3 c4 c5 c6 c7 c8 c9 c10
  have q := h.2
  unfold sp_stm sp_st at q
  refine ⟨?_, by omega⟩
  repeat' split at q
  all_goals omega
theorem sp_way_wsame {s wm wn : Int → Int} {k n z : Int} (hk : 0 ≤ k ∧ k < 6) (hi : sp_inv s) (hn : 0 ≤ n ∧ n ≤ 60) (hat : 0 ≤ s (41 + 9 * k + 2)) (hz : s (41 + 9 * k + 2) ≤ z ∧ z ≤ 8) (hm : sp_wmok s k wm 9) (hm2 : sp_wmok s k wn 9) (h0 : sp_won s wm k n (s (41 + 9 * k + 2)) 0 (s (41 + 9 * k + 6))) : sp_way s wm k n z = sp_way s wn k n z := by
  unfold sp_way
  rw [(sp_wys_wsame hk hi hn hat hm hm2 h0 (z + 1 - s (41 + 9 * k + 2)).toNat (by omega)).1]
theorem sp_inv_h {s : Int → Int} (h : sp_inv s) {i v : Int} (hi : 6 ≤ i ∧ i < 41) (hv : sp_hok (mh_ur s i v)) : sp_inv (mh_ur s i v) := by
  obtain ⟨a1, a2, a3, a4, a6, a7⟩ := h
  refine ⟨by rw [mh_ur_ne (by omega)]; exact a1, by rw [mh_ur_ne (by omega)]; exact a2, by rw [mh_ur_ne (by omega)]; exact a3, hv, fun j j0 j1 => ?_, sp_wfs_same (fun j hj => (mh_ur_ne (by omega)).symm) a7⟩
  have := a6 j j0 j1
  unfold sp_cok sp_row at *
  rw [mh_ur_ne (by omega), mh_ur_ne (by omega), mh_ur_ne (by omega), mh_ur_ne (by omega), mh_ur_ne (by omega), mh_ur_ne (by omega), mh_ur_ne (by omega), mh_ur_ne (by omega), mh_ur_ne (by omega)]
  exact this
theorem sp_inv_hh {s : Int → Int} (h : sp_inv s) {a w v : Int} (ha : 0 ≤ a ∧ a < 9) (hw : 0 ≤ w ∧ w < 3) (hv : 0 ≤ v ∧ v ≤ (if w = 0 then 40 else if w = 1 then 3 else 99)) : sp_inv (mh_ur s (6 + 3 * a + w) v) := by
  refine sp_inv_h h (by omega) ⟨fun j j0 j1 => ?_, fun j j0 j1 => ?_⟩
  · have q := h.2.2.2.1.1 j j0 j1
    unfold mh_ur
    split at hv
    · repeat' split
      all_goals omega
    · split at hv
      · repeat' split
        all_goals omega
      · repeat' split
        all_goals omega
  · have q := h.2.2.2.1.2 j j0 j1
    rw [mh_ur_ne (by omega), mh_ur_ne (by omega)]; exact q
def sp_relays (k n w : Int) (s er : Int → Int) : Int × (Int → Int) :=
  if ¬ ((0 ≤ k ∧ k ≤ s 3 - 1) ∧ (0 ≤ n ∧ n ≤ 60) ∧ (-1 ≤ w ∧ w ≤ 8)) then (-1000000001, mh_ur er 1 (er 1 + 1))
  else if ¬ (s (41 + 9 * k + 3) < 2 ∧ sp_stm s k = 0) then (-1000000003, mh_ur er 3 (er 3 + 1))
  else if sp_rel s (sp_wmc s k) k n = 1000000 ∨ (0 ≤ w ∧ w < s (41 + 9 * k + 2)) then (-1000000002, mh_ur er 2 (er 2 + 1))
  else (if w < 0 then sp_rel s (sp_wmc s k) k n else sp_way s (sp_wmc s k) k n w, er)
def sp_relH (s : Int → Int) (k n a : Int) : Int := sp_rel (mh_ur s (6 + 3 * a + 0) 0) (sp_wmc (mh_ur s (6 + 3 * a + 0) 0) k) k n
def sp_cel1 (s : Int → Int) (k n a : Int) (p : Int × Int) : Int × Int := if sp_relH s k n a < p.2 then (a, sp_relH s k n a) else p
def sp_cels (s : Int → Int) (k n : Int) : Nat → Int × Int
  | 0 => (-1, 1000000)
  | a + 1 => sp_cel1 s k n (a : Int) (sp_cels s k n a)
theorem sp_cels_at (s : Int → Int) (k n : Int) {a : Int} (ha : 0 ≤ a) : sp_cels s k n (a + 1).toNat = sp_cel1 s k n a (sp_cels s k n a.toNat) := by
  rw [show (a + 1).toNat = a.toNat + 1 by omega]
  show sp_cel1 s k n (a.toNat : Int) _ = _
  rw [Int.toNat_of_nonneg ha]
def sp_cellar (k n w : Int) (s er : Int → Int) : Int × (Int → Int) :=
  if ¬ ((0 ≤ k ∧ k ≤ s 3 - 1) ∧ (0 ≤ n ∧ n ≤ 60) ∧ (0 ≤ w ∧ w ≤ 1)) then (-1000000001, mh_ur er 1 (er 1 + 1))
  else if ¬ (s (41 + 9 * k + 3) < 2 ∧ sp_stm s k = 0) then (-1000000003, mh_ur er 3 (er 3 + 1))
  else if (sp_cels s k n 9).1 < 0 then (-1000000002, mh_ur er 2 (er 2 + 1))
  else (if w = 0 then (sp_cels s k n 9).1 else (sp_cels s k n 9).2, er)
set_option maxRecDepth 100000 in
set_option maxHeartbeats 4000000 in
theorem p_relays {g : mh_G} {d : Nat} (hd : 11 ≤ d) {h : Nat → Int → Int} (hF : mh_FX h) {s : Int → Int} (r82 : h 82 = s) {er : Int → Int} (r85 : h 85 = er) {o : Int → Int} (r81 : h 81 = o) {T : Int → Int} (r89 : h 89 = T) {w0 : Int → Int} (r90 : h 90 = w0) {k n w : Int} (hk : -2147483648 ≤ k ∧ k < 2147483648) (hn : -2147483648 ≤ n ∧ n < 2147483648) (hw : -2147483648 ≤ w ∧ w < 2147483648) (hq9 : s 0 ≤ 9999) (hi : sp_inv s) : mh_M g d yX12_relays cX12_relays 5 (some .int) 96 0 0 [.ref 81, .int (Int32.ofInt (k)), .int (Int32.ofInt (n)), .int (Int32.ofInt (w))] h (fun r h2 => ∃ (vv : Int) (t0 : Int → Int), (vv, t0) = sp_relays k n w s er ∧ r = some (.int (Int32.ofInt vv)) ∧ mh_FX h2 ∧ mh_fr [81, 85, 86, 87, 89, 90] h h2 ∧ h2 85 = t0 ∧ sp_o16 o (h2 81)) := by
  refine mh_M_of RX12 rfl (by decide +kernel) [some (.ref 81), some (.int (Int32.ofInt (k))), some (.int (Int32.ofInt (n))), some (.int (Int32.ofInt (w))), none] rfl (Nat.le_of_ble_eq_true rfl) (fun f F Z hn0 hR => ?_)
  have hib := sp_inv_b hi
  have hm := hi.1
  have hq0 := hi.2.1
  have hws := hi.2.2.2.2.2
  obtain ⟨hH, hC⟩ := hi.2.2.2.1
  have hs1 := hi.2.2.1
  refine mh_aload0 (pc := 0) F dX12_relays_0 ?_
  refine mh_iload1 (pc := 1) F dX12_relays_1 ?_
  refine mh_callVp (pc := 2) (As := [.int (Int32.ofInt (k))]) (st := []) F (by omega) (k_isChurn (by omega) hF r82 (by omega) (by omega)) wv_RX12_148_yX12_isChurn dX12_relays_2 sh_81 rfl (by decide) rfl rfl (Nat.le_of_ble_eq_true rfl) ⟨Nat.zero_le _, Nat.zero_le _⟩ ?_
  refine mh_ifb_eq (pc := 5) (tgt := 34) F dX12_relays_5 rfl (fun c_5 => ?_) (fun c_5 => ?_)
  · refine mh_aload0 (pc := 34) F dX12_relays_34 ?_
    refine mh_iconst (pc := 35) F dX12_relays_35 ?_
    refine mh_callV0 (pc := 36) (As := [.int (Int32.ofInt (1))]) (st := []) F (by omega) (k_error (by omega) hF r85 (by omega)) wv_RX12_114_yX12_error dX12_relays_36 sh_81 rfl (by decide) rfl rfl (Nat.le_of_ble_eq_true rfl) ⟨Nat.zero_le _, Nat.zero_le _⟩ (fun r1 h1 q1 => ?_)
    obtain ⟨rfl, F1, fr1, q1_0⟩ := q1
    have r82_2 : h1 82 = s := (fr1 _ (by decide)).trans r82
    have r81_2 : h1 81 = o := (fr1 _ (by decide)).trans r81
    have r89_2 : h1 89 = T := (fr1 _ (by decide)).trans r89
    have r90_2 : h1 90 = w0 := (fr1 _ (by decide)).trans r90
    have fr2 : mh_fr [85] h h1 := (mh_fr.tr mh_fr.rf fr1).mono (by simp)
    exact mh_ireturn F Z dX12_relays_39 ⟨_, _, (by unfold sp_relays; (repeat' split) <;> first | rfl | (exfalso; omega)), rfl, F1, (fr2.mono (by simp)), q1_0, (by rw [r81_2]; first | exact zo16 | exact fun _ _ => rfl)⟩
  · refine mh_iload2 (pc := 8) F dX12_relays_8 ?_
    refine mh_i2l (pc := 9) F dX12_relays_9 (by omega) ?_
    refine mh_lconst (x := 0) (pc := 10) F dX12_relays_10 rfl ?_
    refine mh_ldc2 (x := 60) (pc := 11) F dX12_relays_11 tw_7_37 ?_
    refine mh_callSp (pc := 14) (As := [.long (Int64.ofInt (n)), .long (Int64.ofInt (0)), .long (Int64.ofInt (60))]) (st := []) F (by omega) (k_in (by omega) (by omega) (by omega) (by omega)) ws_RX12_69 dX12_relays_14 rfl rfl (Nat.le_of_ble_eq_true rfl) ⟨Nat.zero_le _, Nat.zero_le _⟩ ?_
    refine mh_ifb_eq (pc := 17) (tgt := 34) F dX12_relays_17 rfl (fun c_17 => ?_) (fun c_17 => ?_)
    · refine mh_aload0 (pc := 34) F dX12_relays_34 ?_
      refine mh_iconst (pc := 35) F dX12_relays_35 ?_
      refine mh_callV0 (pc := 36) (As := [.int (Int32.ofInt (1))]) (st := []) F (by omega) (k_error (by omega) hF r85 (by omega)) wv_RX12_114_yX12_error dX12_relays_36 sh_81 rfl (by decide) rfl rfl (Nat.le_of_ble_eq_true rfl) ⟨Nat.zero_le _, Nat.zero_le _⟩ (fun r3 h3 q3 => ?_)
      obtain ⟨rfl, F3, fr3, q3_0⟩ := q3
      have r82_4 : h3 82 = s := (fr3 _ (by decide)).trans r82
      have r81_4 : h3 81 = o := (fr3 _ (by decide)).trans r81
      have r89_4 : h3 89 = T := (fr3 _ (by decide)).trans r89
      have r90_4 : h3 90 = w0 := (fr3 _ (by decide)).trans r90
      have fr4 : mh_fr [85] h h3 := (mh_fr.tr mh_fr.rf fr3).mono (by simp)
      exact mh_ireturn F Z dX12_relays_39 ⟨_, _, (by unfold sp_relays; (repeat' split) <;> first | rfl | (exfalso; omega)), rfl, F3, (fr4.mono (by simp)), q3_0, (by rw [r81_4]; first | exact zo16 | exact fun _ _ => rfl)⟩
    · refine mh_iload3 (pc := 20) F dX12_relays_20 ?_
      refine mh_i2l (pc := 21) F dX12_relays_21 (by omega) ?_
      refine mh_ldc2 (x := -1) (pc := 22) F dX12_relays_22 (by rw [show Int64.ofInt (-1) = (-1 : Int64) from by decide +kernel]; exact tw_7_38) ?_
      refine mh_ldc2 (x := 8) (pc := 25) F dX12_relays_25 tw_5_222 ?_
      refine mh_callSp (pc := 28) (As := [.long (Int64.ofInt (w)), .long (Int64.ofInt (-1)), .long (Int64.ofInt (8))]) (st := []) F (by omega) (k_in (by omega) (by omega) (by omega) (by omega)) ws_RX12_69 dX12_relays_28 rfl rfl (Nat.le_of_ble_eq_true rfl) ⟨Nat.zero_le _, Nat.zero_le _⟩ ?_
      refine mh_ifb_ne (pc := 31) (tgt := 40) F dX12_relays_31 rfl (fun c_31 => ?_) (fun c_31 => ?_)
      · have zHC := hi.2.2.2.2.1 k (by omega) (by omega)
        have zHC2 := zHC
        obtain ⟨c0, c1, c2, c3, c4, c5, c6, c7, c8, c9, c10, c11, c12, c13⟩ := zHC2
        unfold sp_row at c0 c1 c2 c3 c4 c5 c6 c7 c8 c9 c10 c11 c12 c13
        refine mh_aload0 (pc := 40) F dX12_relays_40 ?_
        refine mh_iload1 (pc := 41) F dX12_relays_41 ?_
        refine mh_callVp (pc := 42) (As := [.int (Int32.ofInt (k))]) (st := []) F (by omega) (k_mayRelay (by omega) hF r82 (by omega) zHC) wv_RX12_308_yX12_mayRelay dX12_relays_42 sh_81 rfl (by decide) rfl rfl (Nat.le_of_ble_eq_true rfl) ⟨Nat.zero_le _, Nat.zero_le _⟩ ?_
        refine mh_ifb_ne (pc := 45) (tgt := 54) F dX12_relays_45 rfl (fun c_45 => ?_) (fun c_45 => ?_)
        · have hk : 0 ≤ k ∧ k < 6 := by omega
          have hn : 0 ≤ n ∧ n ≤ 60 := by omega
          have zmay := sp_mayb zHC (by omega)
          have zat : 0 ≤ s (41 + 9 * k + 2) := c2.1
          refine mh_aload0 (pc := 54) F dX12_relays_54 ?_
          refine mh_iload1 (pc := 55) F dX12_relays_55 ?_
          refine mh_iload2 (pc := 56) F dX12_relays_56 ?_
          refine mh_callV0 (pc := 57) (As := [.int (Int32.ofInt (k)), .int (Int32.ofInt (n))]) (st := []) F (by omega) (k_relayed (by omega) hF r81 r82 r89 r90 hk hi hq9 hn (by omega) (by omega)) wv_RX12_311_yX12_relayed dX12_relays_57 sh_81 rfl (by decide) rfl rfl (Nat.le_of_ble_eq_true rfl) ⟨Nat.zero_le _, Nat.zero_le _⟩ (fun r5 h5 q5 => ?_)
          obtain ⟨rfl, F5, fr5, zwok, zo16, zHA⟩ := q5
          obtain ⟨w9, ew9⟩ : ∃ z : Int → Int, z = h5 90 := ⟨_, rfl⟩
          obtain ⟨o9, eo9⟩ : ∃ z : Int → Int, z = h5 81 := ⟨_, rfl⟩
          obtain ⟨T9, eT9⟩ : ∃ z : Int → Int, z = h5 89 := ⟨_, rfl⟩
          rw [← ew9] at zwok zHA
          rw [← eo9] at zo16
          rw [← eT9] at zHA
          rw [← ew9]
          have r82_6 : h5 82 = s := (fr5 _ (by decide)).trans r82
          have r85_6 : h5 85 = er := (fr5 _ (by decide)).trans r85
          have fr6 : mh_fr [81, 86, 87, 89, 90] h h5 := (mh_fr.tr mh_fr.rf fr5).mono (by simp)
          refine mh_top (y := sp_rel s (sp_wmc s k) k n) (mh_eqI (sp_rel_wsame hk hi hn.2 zat zwok (sp_wmc_ok s k))) ?_
          have hwm := sp_wmr_of c1 zwok
          have hrr := sp_rel_rg hk hi hn (by omega) (sp_wmr_of c1 (sp_wmc_ok s k))
          refine mh_istore4 (pc := 60) F dX12_relays_60 rfl (by decide) ?_
          refine mh_iload4 (pc := 62) F dX12_relays_62 ?_
          refine mh_ldcw (x := 1000000) (pc := 64) F dX12_relays_64 tw_7_58 ?_
          refine mh_icmp_eq (pc := 67) (tgt := 84) F dX12_relays_67 rfl (by omega) (by omega) (fun c_67 => ?_) (fun c_67 => ?_)
          · refine mh_aload0 (pc := 84) F dX12_relays_84 ?_
            refine mh_iconst (pc := 85) F dX12_relays_85 ?_
            refine mh_callV0 (pc := 86) (As := [.int (Int32.ofInt (2))]) (st := []) F (by omega) (k_error (by omega) F5 r85_6 (by omega)) wv_RX12_114_yX12_error dX12_relays_86 sh_81 rfl (by decide) rfl rfl (Nat.le_of_ble_eq_true rfl) ⟨Nat.zero_le _, Nat.zero_le _⟩ (fun r7 h7 q7 => ?_)
            obtain ⟨rfl, F7, fr7, q7_0⟩ := q7
            have r82_8 : h7 82 = s := (fr7 _ (by decide)).trans r82_6
            have r90_8 : h7 90 = w9 := (fr7 _ (by decide)).trans ew9.symm
            have r81_8 : h7 81 = o9 := (fr7 _ (by decide)).trans eo9.symm
            have r89_8 : h7 89 = T9 := (fr7 _ (by decide)).trans eT9.symm
            have fr8 : mh_fr [85, 81, 86, 87, 89, 90] h h7 := (mh_fr.tr fr6 fr7).mono (by simp)
            exact mh_ireturn F Z dX12_relays_89 ⟨_, _, (by unfold sp_relays; (repeat' split) <;> first | rfl | (exfalso; omega)), rfl, F7, (fr8.mono (by simp)), q7_0, (by rw [r81_8]; first | exact zo16 | exact fun _ _ => rfl)⟩
          · refine mh_iload3 (pc := 70) F dX12_relays_70 ?_
            refine mh_if_lt (pc := 71) (tgt := 90) F dX12_relays_71 rfl (by omega) (fun c_71 => ?_) (fun c_71 => ?_)
            · refine mh_iload3 (pc := 90) F dX12_relays_90 ?_
              refine mh_if_ge (pc := 91) (tgt := 99) F dX12_relays_91 rfl (by omega) (fun c_91 => ?_) (fun c_91 => ?_)
              · have zh0 : sp_won s w9 k n (s (41 + 9 * k + 2)) 0 (s (41 + 9 * k + 6)) := sp_won_0 c1 hn.1 c5.1 ⟨c6.1, by omega⟩ (by rw [sp_rel_wsame hk hi hn.2 zat zwok (sp_wmc_ok s k)]; omega)
                refine mh_aload0 (pc := 99) F dX12_relays_99 ?_
                refine mh_iload1 (pc := 100) F dX12_relays_100 ?_
                refine mh_iload2 (pc := 101) F dX12_relays_101 ?_
                refine mh_iload3 (pc := 102) F dX12_relays_102 ?_
                refine mh_callV0 (pc := 103) (As := [.int (Int32.ofInt (k)), .int (Int32.ofInt (n)), .int (Int32.ofInt (w))]) (st := []) F (by omega) (k_wayAt (by omega) F5 eo9.symm r82_6 eT9.symm ew9.symm hk hi hn (by omega) hwm zHA zh0) wv_RX12_314_yX12_wayAt dX12_relays_103 sh_81 rfl (by decide) rfl rfl (Nat.le_of_ble_eq_true rfl) ⟨Nat.zero_le _, Nat.zero_le _⟩ (fun r9 h9 q9 => ?_)
                obtain ⟨rfl, F9, fr9, zo17⟩ := q9
                obtain ⟨o8, eo8⟩ : ∃ z : Int → Int, z = h9 81 := ⟨_, rfl⟩
                rw [← eo8] at zo17
                have r82_10 : h9 82 = s := (fr9 _ (by decide)).trans r82_6
                have r85_10 : h9 85 = er := (fr9 _ (by decide)).trans r85_6
                have r90_10 : h9 90 = w9 := (fr9 _ (by decide)).trans ew9.symm
                have r89_10 : h9 89 = T9 := (fr9 _ (by decide)).trans eT9.symm
                have fr10 : mh_fr [81, 86, 87, 89, 90] h h9 := (mh_fr.tr fr6 fr9).mono (by simp)
                refine mh_top (y := sp_way s (sp_wmc s k) k n w) (mh_eqI (sp_way_wsame hk hi hn zat (by omega) zwok (sp_wmc_ok s k) zh0)) ?_
                have zo16 : sp_o16 o o8 := fun i q => (zo17 i q).trans (zo16 i q)
                exact mh_ireturn F Z dX12_relays_106 ⟨_, _, (by unfold sp_relays; (repeat' split) <;> first | rfl | (exfalso; omega)), rfl, F9, (fr10.mono (by simp)), r85_10, (by rw [eo8.symm]; first | exact zo16 | exact fun _ _ => rfl)⟩
              · refine mh_iload4 (pc := 94) F dX12_relays_94 ?_
                refine mh_goto (pc := 96) (tgt := 106) F dX12_relays_96 rfl ?_
                exact mh_ireturn F Z dX12_relays_106 ⟨_, _, (by unfold sp_relays; (repeat' split) <;> first | rfl | (exfalso; omega)), rfl, F5, (fr6.mono (by simp)), r85_6, (by rw [eo9.symm]; first | exact zo16 | exact fun _ _ => rfl)⟩
            · refine mh_iload3 (pc := 74) F dX12_relays_74 ?_
              refine mh_aload0 (pc := 75) F dX12_relays_75 ?_
              refine mh_iload1 (pc := 76) F dX12_relays_76 ?_
              refine mh_iconst (pc := 77) F dX12_relays_77 ?_
              refine mh_callVp (pc := 78) (As := [.int (Int32.ofInt (k)), .int (Int32.ofInt (2))]) (st := [.int (Int32.ofInt (w))]) F (by omega) (k_its (by omega) F5 r82_6 (by omega) (by omega)) wv_RX12_79_yX12_its dX12_relays_78 sh_81 rfl (by decide) rfl rfl (Nat.le_of_ble_eq_true rfl) ⟨Nat.zero_le _, Nat.zero_le _⟩ ?_
              refine mh_icmp_ge (pc := 81) (tgt := 90) F dX12_relays_81 rfl (by omega) (by omega) (fun c_81 => ?_) (fun c_81 => ?_)
              · refine mh_iload3 (pc := 90) F dX12_relays_90 ?_
                refine mh_if_ge (pc := 91) (tgt := 99) F dX12_relays_91 rfl (by omega) (fun c_91 => ?_) (fun c_91 => ?_)
                · have zh0 : sp_won s w9 k n (s (41 + 9 * k + 2)) 0 (s (41 + 9 * k + 6)) := sp_won_0 c1 hn.1 c5.1 ⟨c6.1, by omega⟩ (by rw [sp_rel_wsame hk hi hn.2 zat zwok (sp_wmc_ok s k)]; omega)
                  refine mh_aload0 (pc := 99) F dX12_relays_99 ?_
                  refine mh_iload1 (pc := 100) F dX12_relays_100 ?_
                  refine mh_iload2 (pc := 101) F dX12_relays_101 ?_
                  refine mh_iload3 (pc := 102) F dX12_relays_102 ?_
                  refine mh_callV0 (pc := 103) (As := [.int (Int32.ofInt (k)), .int (Int32.ofInt (n)), .int (Int32.ofInt (w))]) (st := []) F (by omega) (k_wayAt (by omega) F5 eo9.symm r82_6 eT9.symm ew9.symm hk hi hn (by omega) hwm zHA zh0) wv_RX12_314_yX12_wayAt dX12_relays_103 sh_81 rfl (by decide) rfl rfl (Nat.le_of_ble_eq_true rfl) ⟨Nat.zero_le _, Nat.zero_le _⟩ (fun r11 h11 q11 => ?_)
                  obtain ⟨rfl, F11, fr11, zo17⟩ := q11
                  obtain ⟨o8, eo8⟩ : ∃ z : Int → Int, z = h11 81 := ⟨_, rfl⟩
                  rw [← eo8] at zo17
                  have r82_12 : h11 82 = s := (fr11 _ (by decide)).trans r82_6
                  have r85_12 : h11 85 = er := (fr11 _ (by decide)).trans r85_6
                  have r90_12 : h11 90 = w9 := (fr11 _ (by decide)).trans ew9.symm
                  have r89_12 : h11 89 = T9 := (fr11 _ (by decide)).trans eT9.symm
                  have fr12 : mh_fr [81, 86, 87, 89, 90] h h11 := (mh_fr.tr fr6 fr11).mono (by simp)
                  refine mh_top (y := sp_way s (sp_wmc s k) k n w) (mh_eqI (sp_way_wsame hk hi hn zat (by omega) zwok (sp_wmc_ok s k) zh0)) ?_
                  have zo16 : sp_o16 o o8 := fun i q => (zo17 i q).trans (zo16 i q)
                  exact mh_ireturn F Z dX12_relays_106 ⟨_, _, (by unfold sp_relays; (repeat' split) <;> first | rfl | (exfalso; omega)), rfl, F11, (fr12.mono (by simp)), r85_12, (by rw [eo8.symm]; first | exact zo16 | exact fun _ _ => rfl)⟩
                · refine mh_iload4 (pc := 94) F dX12_relays_94 ?_
                  refine mh_goto (pc := 96) (tgt := 106) F dX12_relays_96 rfl ?_
                  exact mh_ireturn F Z dX12_relays_106 ⟨_, _, (by unfold sp_relays; (repeat' split) <;> first | rfl | (exfalso; omega)), rfl, F5, (fr6.mono (by simp)), r85_6, (by rw [eo9.symm]; first | exact zo16 | exact fun _ _ => rfl)⟩
              · refine mh_aload0 (pc := 84) F dX12_relays_84 ?_
                refine mh_iconst (pc := 85) F dX12_relays_85 ?_
                refine mh_callV0 (pc := 86) (As := [.int (Int32.ofInt (2))]) (st := []) F (by omega) (k_error (by omega) F5 r85_6 (by omega)) wv_RX12_114_yX12_error dX12_relays_86 sh_81 rfl (by decide) rfl rfl (Nat.le_of_ble_eq_true rfl) ⟨Nat.zero_le _, Nat.zero_le _⟩ (fun r13 h13 q13 => ?_)
                obtain ⟨rfl, F13, fr13, q13_0⟩ := q13
                have r82_14 : h13 82 = s := (fr13 _ (by decide)).trans r82_6
                have r90_14 : h13 90 = w9 := (fr13 _ (by decide)).trans ew9.symm
                have r81_14 : h13 81 = o9 := (fr13 _ (by decide)).trans eo9.symm
                have r89_14 : h13 89 = T9 := (fr13 _ (by decide)).trans eT9.symm
                have fr14 : mh_fr [85, 81, 86, 87, 89, 90] h h13 := (mh_fr.tr fr6 fr13).mono (by simp)
                exact mh_ireturn F Z dX12_relays_89 ⟨_, _, (by unfold sp_relays; (repeat' split) <;> first | rfl | (exfalso; omega)), rfl, F13, (fr14.mono (by simp)), q13_0, (by rw [r81_14]; first | exact zo16 | exact fun _ _ => rfl)⟩
        · refine mh_aload0 (pc := 48) F dX12_relays_48 ?_
          refine mh_iconst (pc := 49) F dX12_relays_49 ?_
          refine mh_callV0 (pc := 50) (As := [.int (Int32.ofInt (3))]) (st := []) F (by omega) (k_error (by omega) hF r85 (by omega)) wv_RX12_114_yX12_error dX12_relays_50 sh_81 rfl (by decide) rfl rfl (Nat.le_of_ble_eq_true rfl) ⟨Nat.zero_le _, Nat.zero_le _⟩ (fun r15 h15 q15 => ?_)
          obtain ⟨rfl, F15, fr15, q15_0⟩ := q15
          have r82_16 : h15 82 = s := (fr15 _ (by decide)).trans r82
          have r81_16 : h15 81 = o := (fr15 _ (by decide)).trans r81
          have r89_16 : h15 89 = T := (fr15 _ (by decide)).trans r89
          have r90_16 : h15 90 = w0 := (fr15 _ (by decide)).trans r90
          have fr16 : mh_fr [85] h h15 := (mh_fr.tr mh_fr.rf fr15).mono (by simp)
          exact mh_ireturn F Z dX12_relays_53 ⟨_, _, (by unfold sp_relays; (repeat' split) <;> first | rfl | (exfalso; omega)), rfl, F15, (fr16.mono (by simp)), q15_0, (by rw [r81_16]; first | exact zo16 | exact fun _ _ => rfl)⟩
      · refine mh_aload0 (pc := 34) F dX12_relays_34 ?_
        refine mh_iconst (pc := 35) F dX12_relays_35 ?_
        refine mh_callV0 (pc := 36) (As := [.int (Int32.ofInt (1))]) (st := []) F (by omega) (k_error (by omega) hF r85 (by omega)) wv_RX12_114_yX12_error dX12_relays_36 sh_81 rfl (by decide) rfl rfl (Nat.le_of_ble_eq_true rfl) ⟨Nat.zero_le _, Nat.zero_le _⟩ (fun r17 h17 q17 => ?_)
        obtain ⟨rfl, F17, fr17, q17_0⟩ := q17
        have r82_18 : h17 82 = s := (fr17 _ (by decide)).trans r82
        have r81_18 : h17 81 = o := (fr17 _ (by decide)).trans r81
        have r89_18 : h17 89 = T := (fr17 _ (by decide)).trans r89
        have r90_18 : h17 90 = w0 := (fr17 _ (by decide)).trans r90
        have fr18 : mh_fr [85] h h17 := (mh_fr.tr mh_fr.rf fr17).mono (by simp)
        exact mh_ireturn F Z dX12_relays_39 ⟨_, _, (by unfold sp_relays; (repeat' split) <;> first | rfl | (exfalso; omega)), rfl, F17, (fr18.mono (by simp)), q17_0, (by rw [r81_18]; first | exact zo16 | exact fun _ _ => rfl)⟩

set_option maxRecDepth 100000 in
set_option maxHeartbeats 4000000 in
theorem p_cellar {g : mh_G} {d : Nat} (hd : 11 ≤ d) {h : Nat → Int → Int} (hF : mh_FX h) {s : Int → Int} (r82 : h 82 = s) {er : Int → Int} (r85 : h 85 = er) {o : Int → Int} (r81 : h 81 = o) {T : Int → Int} (r89 : h 89 = T) {w0 : Int → Int} (r90 : h 90 = w0) {k n w : Int} (hk : -2147483648 ≤ k ∧ k < 2147483648) (hn : -2147483648 ≤ n ∧ n < 2147483648) (hw : -2147483648 ≤ w ∧ w < 2147483648) (hq9 : s 0 ≤ 9999) (hi : sp_inv s) : mh_M g d yX12_cellar cX12_cellar 9 (some .int) 96 0 0 [.ref 81, .int (Int32.ofInt (k)), .int (Int32.ofInt (n)), .int (Int32.ofInt (w))] h (fun r h2 => ∃ (vv : Int) (t0 : Int → Int), (vv, t0) = sp_cellar k n w s er ∧ r = some (.int (Int32.ofInt vv)) ∧ mh_FX h2 ∧ mh_fr [82, 81, 85, 86, 87, 89, 90] h h2 ∧ h2 85 = t0 ∧ h2 82 = s ∧ sp_o16 o (h2 81)) := by
  refine mh_M_of RX12 rfl (by decide +kernel) [some (.ref 81), some (.int (Int32.ofInt (k))), some (.int (Int32.ofInt (n))), some (.int (Int32.ofInt (w))), none, none, none, none, none] rfl (Nat.le_of_ble_eq_true rfl) (fun f F Z hn0 hR => ?_)
  have hib := sp_inv_b hi
  have hm := hi.1
  have hq0 := hi.2.1
  have hws := hi.2.2.2.2.2
  obtain ⟨hH, hC⟩ := hi.2.2.2.1
  have hs1 := hi.2.2.1
  refine mh_aload0 (pc := 0) F dX12_cellar_0 ?_
  refine mh_iload1 (pc := 1) F dX12_cellar_1 ?_
  refine mh_callVp (pc := 2) (As := [.int (Int32.ofInt (k))]) (st := []) F (by omega) (k_isChurn (by omega) hF r82 (by omega) (by omega)) wv_RX12_148_yX12_isChurn dX12_cellar_2 sh_81 rfl (by decide) rfl rfl (Nat.le_of_ble_eq_true rfl) ⟨Nat.zero_le _, Nat.zero_le _⟩ ?_
  refine mh_ifb_eq (pc := 5) (tgt := 30) F dX12_cellar_5 rfl (fun c_5 => ?_) (fun c_5 => ?_)
  · refine mh_aload0 (pc := 30) F dX12_cellar_30 ?_
    refine mh_iconst (pc := 31) F dX12_cellar_31 ?_
    refine mh_callV0 (pc := 32) (As := [.int (Int32.ofInt (1))]) (st := []) F (by omega) (k_error (by omega) hF r85 (by omega)) wv_RX12_114_yX12_error dX12_cellar_32 sh_81 rfl (by decide) rfl rfl (Nat.le_of_ble_eq_true rfl) ⟨Nat.zero_le _, Nat.zero_le _⟩ (fun r1 h1 q1 => ?_)
    obtain ⟨rfl, F1, fr1, q1_0⟩ := q1
    have r82_2 : h1 82 = s := (fr1 _ (by decide)).trans r82
    have r81_2 : h1 81 = o := (fr1 _ (by decide)).trans r81
    have r89_2 : h1 89 = T := (fr1 _ (by decide)).trans r89
    have r90_2 : h1 90 = w0 := (fr1 _ (by decide)).trans r90
    have fr2 : mh_fr [85] h h1 := (mh_fr.tr mh_fr.rf fr1).mono (by simp)
    exact mh_ireturn F Z dX12_cellar_35 ⟨_, _, (by unfold sp_cellar; (repeat' split) <;> first | rfl | (exfalso; omega)), rfl, F1, (fr2.mono (by simp)), q1_0, r82_2, (by rw [r81_2]; first | exact ho | exact fun _ _ => rfl)⟩
  · refine mh_iload2 (pc := 8) F dX12_cellar_8 ?_
    refine mh_i2l (pc := 9) F dX12_cellar_9 (by omega) ?_
    refine mh_lconst (x := 0) (pc := 10) F dX12_cellar_10 rfl ?_
    refine mh_ldc2 (x := 60) (pc := 11) F dX12_cellar_11 tw_7_37 ?_
    refine mh_callSp (pc := 14) (As := [.long (Int64.ofInt (n)), .long (Int64.ofInt (0)), .long (Int64.ofInt (60))]) (st := []) F (by omega) (k_in (by omega) (by omega) (by omega) (by omega)) ws_RX12_69 dX12_cellar_14 rfl rfl (Nat.le_of_ble_eq_true rfl) ⟨Nat.zero_le _, Nat.zero_le _⟩ ?_
    refine mh_ifb_eq (pc := 17) (tgt := 30) F dX12_cellar_17 rfl (fun c_17 => ?_) (fun c_17 => ?_)
    · refine mh_aload0 (pc := 30) F dX12_cellar_30 ?_
      refine mh_iconst (pc := 31) F dX12_cellar_31 ?_
      refine mh_callV0 (pc := 32) (As := [.int (Int32.ofInt (1))]) (st := []) F (by omega) (k_error (by omega) hF r85 (by omega)) wv_RX12_114_yX12_error dX12_cellar_32 sh_81 rfl (by decide) rfl rfl (Nat.le_of_ble_eq_true rfl) ⟨Nat.zero_le _, Nat.zero_le _⟩ (fun r3 h3 q3 => ?_)
      obtain ⟨rfl, F3, fr3, q3_0⟩ := q3
      have r82_4 : h3 82 = s := (fr3 _ (by decide)).trans r82
      have r81_4 : h3 81 = o := (fr3 _ (by decide)).trans r81
      have r89_4 : h3 89 = T := (fr3 _ (by decide)).trans r89
      have r90_4 : h3 90 = w0 := (fr3 _ (by decide)).trans r90
      have fr4 : mh_fr [85] h h3 := (mh_fr.tr mh_fr.rf fr3).mono (by simp)
      exact mh_ireturn F Z dX12_cellar_35 ⟨_, _, (by unfold sp_cellar; (repeat' split) <;> first | rfl | (exfalso; omega)), rfl, F3, (fr4.mono (by simp)), q3_0, r82_4, (by rw [r81_4]; first | exact ho | exact fun _ _ => rfl)⟩
    · refine mh_iload3 (pc := 20) F dX12_cellar_20 ?_
      refine mh_i2l (pc := 21) F dX12_cellar_21 (by omega) ?_
      refine mh_lconst (x := 0) (pc := 22) F dX12_cellar_22 rfl ?_
      refine mh_lconst (x := 1) (pc := 23) F dX12_cellar_23 rfl ?_
      refine mh_callSp (pc := 24) (As := [.long (Int64.ofInt (w)), .long (Int64.ofInt (0)), .long (Int64.ofInt (1))]) (st := []) F (by omega) (k_in (by omega) (by omega) (by omega) (by omega)) ws_RX12_69 dX12_cellar_24 rfl rfl (Nat.le_of_ble_eq_true rfl) ⟨Nat.zero_le _, Nat.zero_le _⟩ ?_
      refine mh_ifb_ne (pc := 27) (tgt := 36) F dX12_cellar_27 rfl (fun c_27 => ?_) (fun c_27 => ?_)
      · have zHC := hi.2.2.2.2.1 k (by omega) (by omega)
        have zHC2 := zHC
        obtain ⟨c0, c1, c2, c3, c4, c5, c6, c7, c8, c9, c10, c11, c12, c13⟩ := zHC2
        unfold sp_row at c0 c1 c2 c3 c4 c5 c6 c7 c8 c9 c10 c11 c12 c13
        refine mh_aload0 (pc := 36) F dX12_cellar_36 ?_
        refine mh_iload1 (pc := 37) F dX12_cellar_37 ?_
        refine mh_callVp (pc := 38) (As := [.int (Int32.ofInt (k))]) (st := []) F (by omega) (k_mayRelay (by omega) hF r82 (by omega) zHC) wv_RX12_308_yX12_mayRelay dX12_cellar_38 sh_81 rfl (by decide) rfl rfl (Nat.le_of_ble_eq_true rfl) ⟨Nat.zero_le _, Nat.zero_le _⟩ ?_
        refine mh_ifb_ne (pc := 41) (tgt := 50) F dX12_cellar_41 rfl (fun c_41 => ?_) (fun c_41 => ?_)
        · have hk : 0 ≤ k ∧ k < 6 := by omega
          have hn : 0 ≤ n ∧ n ≤ 60 := by omega
          have zmay := sp_mayb zHC (by omega)
          refine mh_iconst (pc := 50) F dX12_cellar_50 ?_
          refine mh_istore4 (pc := 51) F dX12_cellar_51 rfl (by decide) ?_
          refine mh_ldcw (x := 1000000) (pc := 53) F dX12_cellar_53 tw_7_58 ?_
          refine mh_istore5 (pc := 56) F dX12_cellar_56 rfl (by decide) ?_
          refine mh_iconst (pc := 58) F dX12_cellar_58 ?_
          refine mh_istore6 (pc := 59) F dX12_cellar_59 rfl (by decide) ?_
          have L61 : ∀ (m : Nat) (be : Int) (so : Int) (a : Int) (hh : Nat → Int → Int) (oc : Int → Int) (Tc : Int → Int) (wc : Int → Int), (mh_FX hh) → (mh_fr [81, 82, 86, 87, 89, 90] h hh) → (hh 82 = s) → (hh 85 = er) → (hh 81 = oc) → (hh 89 = Tc) → (hh 90 = wc) → (0 ≤ a ∧ a ≤ 9) → ((be, so) = sp_cels s k n a.toNat) → (0 ≤ so ∧ so ≤ 1000000) → (-1 ≤ be ∧ be ≤ 8) → (sp_o16 o oc) → (9 - a).toNat = m → mh_V g f 9 96 0 0 61 [some (.ref 81), some (.int (Int32.ofInt (k))), some (.int (Int32.ofInt (n))), some (.int (Int32.ofInt (w))), some (.int (Int32.ofInt (be))), some (.int (Int32.ofInt (so))), some (.int (Int32.ofInt (a))), none, none] [] hh := by
            intro m
            induction m using Nat.strongRecOn with
            | _ m ihL61 =>
            intro be so a hh oc Tc wc Fhh frhh q82hh q85hh q81hh q89hh q90hh ha hbs hso hbe ho hmz
            refine mh_iload6 (pc := 61) F dX12_cellar_61 ?_
            refine mh_bipush (pc := 63) F dX12_cellar_63 rfl ?_
            refine mh_icmp_ge (pc := 65) (tgt := 147) F dX12_cellar_65 rfl (by omega) (by omega) (fun c_65 => ?_) (fun c_65 => ?_)
            · refine mh_iload4 (pc := 147) F dX12_cellar_147 ?_
              refine mh_if_ge (pc := 149) (tgt := 158) F dX12_cellar_149 rfl (by omega) (fun c_149 => ?_) (fun c_149 => ?_)
              · refine mh_iload3 (pc := 158) F dX12_cellar_158 ?_
                refine mh_if_ne (pc := 159) (tgt := 167) F dX12_cellar_159 rfl (by omega) (fun c_159 => ?_) (fun c_159 => ?_)
                · refine mh_iload5 (pc := 167) F dX12_cellar_167 ?_
                  exact mh_ireturn F Z dX12_cellar_169 ⟨_, _, (by have hc9 : sp_cels s k n 9 = (be, so) := (by rw [hbs, show a = 9 by omega]; rfl); unfold sp_cellar; rw [hc9]; (repeat' split) <;> first | rfl | (exfalso; omega) | (exfalso; simp only [] at *; omega)), rfl, Fhh, (frhh.mono (by simp)), q85hh, q82hh, (by rw [q81hh]; first | exact ho | exact fun _ _ => rfl)⟩
                · refine mh_iload4 (pc := 162) F dX12_cellar_162 ?_
                  refine mh_goto (pc := 164) (tgt := 169) F dX12_cellar_164 rfl ?_
                  exact mh_ireturn F Z dX12_cellar_169 ⟨_, _, (by have hc9 : sp_cels s k n 9 = (be, so) := (by rw [hbs, show a = 9 by omega]; rfl); unfold sp_cellar; rw [hc9]; (repeat' split) <;> first | rfl | (exfalso; omega) | (exfalso; simp only [] at *; omega)), rfl, Fhh, (frhh.mono (by simp)), q85hh, q82hh, (by rw [q81hh]; first | exact ho | exact fun _ _ => rfl)⟩
              · refine mh_aload0 (pc := 152) F dX12_cellar_152 ?_
                refine mh_iconst (pc := 153) F dX12_cellar_153 ?_
                refine mh_callV0 (pc := 154) (As := [.int (Int32.ofInt (2))]) (st := []) F (by omega) (k_error (by omega) Fhh q85hh (by omega)) wv_RX12_114_yX12_error dX12_cellar_154 sh_81 rfl (by decide) rfl rfl (Nat.le_of_ble_eq_true rfl) ⟨Nat.zero_le _, Nat.zero_le _⟩ (fun r5 h5 q5 => ?_)
                obtain ⟨rfl, F5, fr5, q5_0⟩ := q5
                have r82_6 : h5 82 = s := (fr5 _ (by decide)).trans q82hh
                have r81_6 : h5 81 = oc := (fr5 _ (by decide)).trans q81hh
                have r89_6 : h5 89 = Tc := (fr5 _ (by decide)).trans q89hh
                have r90_6 : h5 90 = wc := (fr5 _ (by decide)).trans q90hh
                have fr6 : mh_fr [85, 81, 82, 86, 87, 89, 90] h h5 := (mh_fr.tr frhh fr5).mono (by simp)
                exact mh_ireturn F Z dX12_cellar_157 ⟨_, _, (by have hc9 : sp_cels s k n 9 = (be, so) := (by rw [hbs, show a = 9 by omega]; rfl); unfold sp_cellar; rw [hc9]; (repeat' split) <;> first | rfl | (exfalso; omega) | (exfalso; simp only [] at *; omega)), rfl, F5, (fr6.mono (by simp)), q5_0, r82_6, (by rw [r81_6]; first | exact ho | exact fun _ _ => rfl)⟩
            · refine mh_aload0 (pc := 68) F dX12_cellar_68 ?_
              refine mh_iload6 (pc := 69) F dX12_cellar_69 ?_
              refine mh_iconst (pc := 71) F dX12_cellar_71 ?_
              refine mh_callVp (pc := 72) (As := [.int (Int32.ofInt (a)), .int (Int32.ofInt (0))]) (st := []) F (by omega) (k_ofHillNow (by omega) Fhh q82hh (by omega) (by omega)) wv_RX12_98_yX12_ofHillNow dX12_cellar_72 sh_81 rfl (by decide) rfl rfl (Nat.le_of_ble_eq_true rfl) ⟨Nat.zero_le _, Nat.zero_le _⟩ ?_
              refine mh_istore7 (pc := 75) F dX12_cellar_75 rfl (by decide) ?_
              refine mh_aload0 (pc := 77) F dX12_cellar_77 ?_
              refine mh_getr (b := 82) (pc := 78) F sh_81 (by decide) fw_RX12_9_12 dX12_cellar_78 rfl (fx_81_0 Fhh) ?_
              refine mh_bipush (pc := 81) F dX12_cellar_81 rfl ?_
              refine mh_iconst (pc := 83) F dX12_cellar_83 ?_
              refine mh_iload6 (pc := 84) F dX12_cellar_84 ?_
              refine mh_imul (pc := 86) F dX12_cellar_86 ?_
              refine mh_iadd (pc := 87) F dX12_cellar_87 ?_
              refine mh_iconst (pc := 88) F dX12_cellar_88 ?_
              refine mh_iadd (pc := 89) F dX12_cellar_89 ?_
              refine mh_iconst (pc := 90) F dX12_cellar_90 ?_
              refine mh_iastore (pc := 91) F sh_82 (by decide) (by omega) dX12_cellar_91 ?_
              refine mh_nmh (fun h7 e7 => ?_)
              have F7 : mh_FX h7 := by rw [e7]; exact Fhh.upa rfl
              have r82_7 : h7 82 = mh_ur s ((6 + (3 * a)) + 0) 0 := by rw [e7, mh_up_rs, q82hh]
              obtain ⟨s1, es1⟩ : ∃ z : Int → Int, z = mh_ur s ((6 + (3 * a)) + 0) 0 := ⟨_, rfl⟩
              rw [← es1] at r82_7
              have r85_7 : h7 85 = er := by rw [e7, mh_up_row (by decide)]; exact q85hh
              have r81_7 : h7 81 = oc := by rw [e7, mh_up_row (by decide)]; exact q81hh
              have r89_7 : h7 89 = Tc := by rw [e7, mh_up_row (by decide)]; exact q89hh
              have r90_7 : h7 90 = wc := by rw [e7, mh_up_row (by decide)]; exact q90hh
              have fr7 : mh_fr [81, 82, 86, 87, 89, 90] h h7 := mh_fr.upi frhh e7 (by simp)
              have zi1 : sp_inv s1 := by rw [es1]; exact sp_inv_hh hi (by omega) (by omega) (by decide)
              have z00 : s1 0 = s 0 := by rw [es1]; exact mh_ur_ne (by omega)
              have z41 : s1 (41 + 9 * k + 1) = s (41 + 9 * k + 1) := by rw [es1]; exact mh_ur_ne (by omega)
              have z42 : s1 (41 + 9 * k + 2) = s (41 + 9 * k + 2) := by rw [es1]; exact mh_ur_ne (by omega)
              have z46 : s1 (41 + 9 * k + 6) = s (41 + 9 * k + 6) := by rw [es1]; exact mh_ur_ne (by omega)
              have zat : 0 ≤ s1 (41 + 9 * k + 2) := by omega
              have zc1 : 0 ≤ s1 (41 + 9 * k + 1) ∧ s1 (41 + 9 * k + 1) ≤ 9 := by omega
              refine mh_aload0 (pc := 92) F dX12_cellar_92 ?_
              refine mh_iload1 (pc := 93) F dX12_cellar_93 ?_
              refine mh_iload2 (pc := 94) F dX12_cellar_94 ?_
              refine mh_callV0 (pc := 95) (As := [.int (Int32.ofInt (k)), .int (Int32.ofInt (n))]) (st := []) F (by omega) (k_relayed (by omega) F7 r81_7 r82_7 r89_7 r90_7 hk zi1 (by rw [z00]; exact hq9) hn (by omega) (by omega)) wv_RX12_311_yX12_relayed dX12_cellar_95 sh_81 rfl (by decide) rfl rfl (Nat.le_of_ble_eq_true rfl) ⟨Nat.zero_le _, Nat.zero_le _⟩ (fun r8 h8 q8 => ?_)
              obtain ⟨rfl, F8, fr8, zwok, zo16, zHA⟩ := q8
              obtain ⟨w9, ew9⟩ : ∃ z : Int → Int, z = h8 90 := ⟨_, rfl⟩
              obtain ⟨o9, eo9⟩ : ∃ z : Int → Int, z = h8 81 := ⟨_, rfl⟩
              obtain ⟨T9, eT9⟩ : ∃ z : Int → Int, z = h8 89 := ⟨_, rfl⟩
              rw [← ew9] at zwok zHA
              rw [← eo9] at zo16
              rw [← eT9] at zHA
              rw [← ew9]
              have r82_9 : h8 82 = s1 := (fr8 _ (by decide)).trans r82_7
              have r85_9 : h8 85 = er := (fr8 _ (by decide)).trans r85_7
              have fr9 : mh_fr [81, 82, 86, 87, 89, 90] h h8 := (mh_fr.tr fr7 fr8).mono (by simp)
              refine mh_top (y := sp_rel s1 (sp_wmc s1 k) k n) (mh_eqI (sp_rel_wsame hk zi1 hn.2 zat zwok (sp_wmc_ok s1 k))) ?_
              have hwm := sp_wmr_of zc1 zwok
              have hrr := sp_rel_rg hk zi1 hn (by omega) (sp_wmr_of zc1 (sp_wmc_ok s1 k))
              refine mh_istore8 (pc := 98) F dX12_cellar_98 rfl (by decide) ?_
              refine mh_aload0 (pc := 100) F dX12_cellar_100 ?_
              refine mh_getr (b := 82) (pc := 101) F sh_81 (by decide) fw_RX12_9_12 dX12_cellar_101 rfl (fx_81_0 F8) ?_
              refine mh_bipush (pc := 104) F dX12_cellar_104 rfl ?_
              refine mh_iconst (pc := 106) F dX12_cellar_106 ?_
              refine mh_iload6 (pc := 107) F dX12_cellar_107 ?_
              refine mh_imul (pc := 109) F dX12_cellar_109 ?_
              refine mh_iadd (pc := 110) F dX12_cellar_110 ?_
              refine mh_iconst (pc := 111) F dX12_cellar_111 ?_
              refine mh_iadd (pc := 112) F dX12_cellar_112 ?_
              refine mh_iload7 (pc := 113) F dX12_cellar_113 ?_
              refine mh_iastore (pc := 115) F sh_82 (by decide) (by omega) dX12_cellar_115 ?_
              refine mh_nmh (fun h10 e10 => ?_)
              have F10 : mh_FX h10 := by rw [e10]; exact F8.upa rfl
              have r82_10 : h10 82 = mh_ur s1 ((6 + (3 * a)) + 0) (s (6 + 3 * a + 0)) := by rw [e10, mh_up_rs, r82_9]
              have r85_10 : h10 85 = er := by rw [e10, mh_up_row (by decide)]; exact r85_9
              have r90_10 : h10 90 = w9 := by rw [e10, mh_up_row (by decide)]; exact ew9.symm
              have r81_10 : h10 81 = o9 := by rw [e10, mh_up_row (by decide)]; exact eo9.symm
              have r89_10 : h10 89 = T9 := by rw [e10, mh_up_row (by decide)]; exact eT9.symm
              have fr10 : mh_fr [81, 82, 86, 87, 89, 90] h h10 := mh_fr.upi fr9 e10 (by simp)
              have zback : mh_ur s1 ((6 + (3 * a)) + 0) (s (6 + 3 * a + 0)) = s := by rw [es1]; funext i; unfold mh_ur; (repeat' split) <;> first | rfl | (congr 1; omega) | (rename_i q1; rw [q1])
              rw [zback] at r82_10
              refine mh_iload8 (pc := 116) F dX12_cellar_116 ?_
              refine mh_iload5 (pc := 118) F dX12_cellar_118 ?_
              refine mh_icmp_ge (pc := 120) (tgt := 128) F dX12_cellar_120 rfl (by omega) (by omega) (fun c_120 => ?_) (fun c_120 => ?_)
              · refine mh_iload4 (pc := 128) F dX12_cellar_128 ?_
                refine mh_istore4 (pc := 130) F dX12_cellar_130 rfl (by decide) ?_
                refine mh_iload5 (pc := 132) F dX12_cellar_132 ?_
                refine mh_iload8 (pc := 134) F dX12_cellar_134 ?_
                refine mh_callSp (pc := 136) (As := [.int (Int32.ofInt (so)), .int (Int32.ofInt (sp_rel s1 (sp_wmc s1 k) k n))]) (st := []) F (by omega) (k_min (by omega) (by omega) (by omega)) ws_RX12_54 dX12_cellar_136 rfl rfl (Nat.le_of_ble_eq_true rfl) ⟨Nat.zero_le _, Nat.zero_le _⟩ ?_
                refine mh_istore5 (pc := 139) F dX12_cellar_139 rfl (by decide) ?_
                refine mh_iinc6 (pc := 141) F dX12_cellar_141 rfl (by decide) ?_
                refine mh_goto (pc := 144) (tgt := 61) F dX12_cellar_144 rfl ?_
                refine mh_drop7 ?_
                refine mh_drop8 ?_
                exact ihL61 _ (by omega) be (min (so) (sp_rel s1 (sp_wmc s1 k) k n)) (a + 1) h10 o9 T9 w9 F10 (fr10.mono (by simp)) r82_10 r85_10 r81_10 r89_10 r90_10 (by omega) (by rw [sp_cels_at s k n ha.1, ← hbs]; unfold sp_cel1 sp_relH; rw [← es1]; first | (rw [if_pos (by omega), Int.min_eq_right (by omega)]; done) | (rw [if_neg (by omega), Int.min_eq_left (by omega)]; done)) (by omega) (by omega) (fun i q => (zo16 i q).trans (ho i q)) rfl
              · refine mh_iload6 (pc := 123) F dX12_cellar_123 ?_
                refine mh_goto (pc := 125) (tgt := 130) F dX12_cellar_125 rfl ?_
                refine mh_istore4 (pc := 130) F dX12_cellar_130 rfl (by decide) ?_
                refine mh_iload5 (pc := 132) F dX12_cellar_132 ?_
                refine mh_iload8 (pc := 134) F dX12_cellar_134 ?_
                refine mh_callSp (pc := 136) (As := [.int (Int32.ofInt (so)), .int (Int32.ofInt (sp_rel s1 (sp_wmc s1 k) k n))]) (st := []) F (by omega) (k_min (by omega) (by omega) (by omega)) ws_RX12_54 dX12_cellar_136 rfl rfl (Nat.le_of_ble_eq_true rfl) ⟨Nat.zero_le _, Nat.zero_le _⟩ ?_
                refine mh_istore5 (pc := 139) F dX12_cellar_139 rfl (by decide) ?_
                refine mh_iinc6 (pc := 141) F dX12_cellar_141 rfl (by decide) ?_
                refine mh_goto (pc := 144) (tgt := 61) F dX12_cellar_144 rfl ?_
                refine mh_drop7 ?_
                refine mh_drop8 ?_
                exact ihL61 _ (by omega) a (min (so) (sp_rel s1 (sp_wmc s1 k) k n)) (a + 1) h10 o9 T9 w9 F10 (fr10.mono (by simp)) r82_10 r85_10 r81_10 r89_10 r90_10 (by omega) (by rw [sp_cels_at s k n ha.1, ← hbs]; unfold sp_cel1 sp_relH; rw [← es1]; first | (rw [if_pos (by omega), Int.min_eq_right (by omega)]; done) | (rw [if_neg (by omega), Int.min_eq_left (by omega)]; done)) (by omega) (by omega) (fun i q => (zo16 i q).trans (ho i q)) rfl
          exact L61 _ (-1) 1000000 0 h o T w0 hF (mh_fr.rf.mono (by simp)) r82 r85 r81 r89 r90 (by omega) rfl (by omega) (by omega) (fun _ _ => rfl) rfl
        · refine mh_aload0 (pc := 44) F dX12_cellar_44 ?_
          refine mh_iconst (pc := 45) F dX12_cellar_45 ?_
          refine mh_callV0 (pc := 46) (As := [.int (Int32.ofInt (3))]) (st := []) F (by omega) (k_error (by omega) hF r85 (by omega)) wv_RX12_114_yX12_error dX12_cellar_46 sh_81 rfl (by decide) rfl rfl (Nat.le_of_ble_eq_true rfl) ⟨Nat.zero_le _, Nat.zero_le _⟩ (fun r11 h11 q11 => ?_)
          obtain ⟨rfl, F11, fr11, q11_0⟩ := q11
          have r82_12 : h11 82 = s := (fr11 _ (by decide)).trans r82
          have r81_12 : h11 81 = o := (fr11 _ (by decide)).trans r81
          have r89_12 : h11 89 = T := (fr11 _ (by decide)).trans r89
          have r90_12 : h11 90 = w0 := (fr11 _ (by decide)).trans r90
          have fr12 : mh_fr [85] h h11 := (mh_fr.tr mh_fr.rf fr11).mono (by simp)
          exact mh_ireturn F Z dX12_cellar_49 ⟨_, _, (by unfold sp_cellar; (repeat' split) <;> first | rfl | (exfalso; omega)), rfl, F11, (fr12.mono (by simp)), q11_0, r82_12, (by rw [r81_12]; first | exact ho | exact fun _ _ => rfl)⟩
      · refine mh_aload0 (pc := 30) F dX12_cellar_30 ?_
        refine mh_iconst (pc := 31) F dX12_cellar_31 ?_
        refine mh_callV0 (pc := 32) (As := [.int (Int32.ofInt (1))]) (st := []) F (by omega) (k_error (by omega) hF r85 (by omega)) wv_RX12_114_yX12_error dX12_cellar_32 sh_81 rfl (by decide) rfl rfl (Nat.le_of_ble_eq_true rfl) ⟨Nat.zero_le _, Nat.zero_le _⟩ (fun r13 h13 q13 => ?_)
        obtain ⟨rfl, F13, fr13, q13_0⟩ := q13
        have r82_14 : h13 82 = s := (fr13 _ (by decide)).trans r82
        have r81_14 : h13 81 = o := (fr13 _ (by decide)).trans r81
        have r89_14 : h13 89 = T := (fr13 _ (by decide)).trans r89
        have r90_14 : h13 90 = w0 := (fr13 _ (by decide)).trans r90
        have fr14 : mh_fr [85] h h13 := (mh_fr.tr mh_fr.rf fr13).mono (by simp)
        exact mh_ireturn F Z dX12_cellar_35 ⟨_, _, (by unfold sp_cellar; (repeat' split) <;> first | rfl | (exfalso; omega)), rfl, F13, (fr14.mono (by simp)), q13_0, r82_14, (by rw [r81_14]; first | exact ho | exact fun _ _ => rfl)⟩

