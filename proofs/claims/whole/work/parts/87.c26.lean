/-! relays of the class -/
def sc_su1 (s : Int → Int) (κ m e i : Int) : Int := sp_warms κ m (sp_law s 0 e ((s 0 + i).tmod 96) 0)
def sc_su (s : Int → Int) (κ m e : Int) : Nat → Int
  | 0 => 0
  | i + 1 => sc_su s κ m e i + sc_su1 s κ m e (i : Int)
theorem sc_su_at (s : Int → Int) (κ m e : Int) {i : Int} (h : 0 ≤ i) : sc_su s κ m e (i + 1).toNat = sc_su s κ m e i.toNat + sc_su1 s κ m e i := by
  rw [show (i + 1).toNat = i.toNat + 1 by omega]
  show _ + sc_su1 s κ m e (i.toNat : Int) = _
  rw [Int.toNat_of_nonneg h]
theorem sc_su_ws {s : Int → Int} {k a : Int} (t : Nat) : sc_su s (s (41 + 9 * k + 0)) (s (41 + 9 * k + 1)) (s (6 + 3 * a + 0)) t = sp_ws s k a t := by
  induction t with
  | zero => rfl
  | succ t ih =>
    show sc_su s _ _ _ t + sc_su1 s _ _ _ (t : Int) = sp_ws s k a t + sp_wq s k a (t : Int)
    rw [ih]; rfl
set_option maxRecDepth 100000 in
set_option maxHeartbeats 2000000 in
theorem k_place {g : mh_G} {d : Nat} (hd : 2 ≤ d) {h : Nat → Int → Int} {a t x : Int} (ha : -2147483648 ≤ a ∧ a < 2147483648) (ht : -2147483648 ≤ t ∧ t < 2147483648) (hx : -2147483648 ≤ x ∧ x < 2147483648) : mh_MP g d yX6_placeOf cX6_placeOf 3 (some .int) 96 [.int (Int32.ofInt (a)), .int (Int32.ofInt (t)), .int (Int32.ofInt (x))] h (some (.int (Int32.ofInt (if (0 ≤ a ∧ a ≤ 8) ∧ (0 ≤ t ∧ t ≤ 60) ∧ (0 ≤ x ∧ x ≤ 59) then a * 3660 + t * 60 + x else -1)))) := by
  refine mh_M_of RX6 rfl (by decide +kernel) [some (.int (Int32.ofInt (a))), some (.int (Int32.ofInt (t))), some (.int (Int32.ofInt (x)))] rfl (Nat.le_of_ble_eq_true rfl) (fun f F Z hn0 hR => ?_)
  refine mh_iload0 (pc := 0) F dX6_placeOf_0 ?_
  refine mh_iconst (pc := 1) F dX6_placeOf_1 ?_
  refine mh_bipush (pc := 2) F dX6_placeOf_2 rfl ?_
  refine mh_callNp (pc := 4) (As := [.int (Int32.ofInt (a)), .int (Int32.ofInt (0)), .int (Int32.ofInt (8))]) (st := []) F (by omega) (k4_within (by omega) (by omega) (by omega) (by omega)) wn_RX6_102 dX6_placeOf_4 rfl rfl (Nat.le_of_ble_eq_true rfl) ⟨Nat.zero_le _, Nat.zero_le _⟩ ?_
  refine mh_ifb_eq (pc := 7) (tgt := 30) F dX6_placeOf_7 rfl (fun c_7 => ?_) (fun c_7 => ?_)
  · refine mh_iconst (pc := 30) F dX6_placeOf_30 ?_
    exact mh_ireturnp F Z dX6_placeOf_31 (by first | (rw [if_pos (by omega)]) | (rw [if_neg (by omega)])) rfl
  · refine mh_iload1 (pc := 10) F dX6_placeOf_10 ?_
    refine mh_iconst (pc := 11) F dX6_placeOf_11 ?_
    refine mh_bipush (pc := 12) F dX6_placeOf_12 rfl ?_
    refine mh_callNp (pc := 14) (As := [.int (Int32.ofInt (t)), .int (Int32.ofInt (0)), .int (Int32.ofInt (60))]) (st := []) F (by omega) (k4_within (by omega) (by omega) (by omega) (by omega)) wn_RX6_102 dX6_placeOf_14 rfl rfl (Nat.le_of_ble_eq_true rfl) ⟨Nat.zero_le _, Nat.zero_le _⟩ ?_
    refine mh_ifb_eq (pc := 17) (tgt := 30) F dX6_placeOf_17 rfl (fun c_17 => ?_) (fun c_17 => ?_)
    · refine mh_iconst (pc := 30) F dX6_placeOf_30 ?_
      exact mh_ireturnp F Z dX6_placeOf_31 (by first | (rw [if_pos (by omega)]) | (rw [if_neg (by omega)])) rfl
    · refine mh_iload2 (pc := 20) F dX6_placeOf_20 ?_
      refine mh_iconst (pc := 21) F dX6_placeOf_21 ?_
      refine mh_bipush (pc := 22) F dX6_placeOf_22 rfl ?_
      refine mh_callNp (pc := 24) (As := [.int (Int32.ofInt (x)), .int (Int32.ofInt (0)), .int (Int32.ofInt (59))]) (st := []) F (by omega) (k4_within (by omega) (by omega) (by omega) (by omega)) wn_RX6_102 dX6_placeOf_24 rfl rfl (Nat.le_of_ble_eq_true rfl) ⟨Nat.zero_le _, Nat.zero_le _⟩ ?_
      refine mh_ifb_ne (pc := 27) (tgt := 32) F dX6_placeOf_27 rfl (fun c_27 => ?_) (fun c_27 => ?_)
      · refine mh_iload0 (pc := 32) F dX6_placeOf_32 ?_
        refine mh_sipush (pc := 33) F dX6_placeOf_33 rfl ?_
        refine mh_imul (pc := 36) F dX6_placeOf_36 ?_
        refine mh_iload1 (pc := 37) F dX6_placeOf_37 ?_
        refine mh_bipush (pc := 38) F dX6_placeOf_38 rfl ?_
        refine mh_imul (pc := 40) F dX6_placeOf_40 ?_
        refine mh_iadd (pc := 41) F dX6_placeOf_41 ?_
        refine mh_iload2 (pc := 42) F dX6_placeOf_42 ?_
        refine mh_iadd (pc := 43) F dX6_placeOf_43 ?_
        exact mh_ireturnp F Z dX6_placeOf_44 (by first | (rw [if_pos (by omega)]) | (rw [if_neg (by omega)])) rfl
      · refine mh_iconst (pc := 30) F dX6_placeOf_30 ?_
        exact mh_ireturnp F Z dX6_placeOf_31 (by first | (rw [if_pos (by omega)]) | (rw [if_neg (by omega)])) rfl

set_option maxRecDepth 100000 in
set_option maxHeartbeats 2000000 in
theorem k_between {g : mh_G} {d : Nat} (hd : 1 ≤ d) {h : Nat → Int → Int} (hF : mh_FX h) {a t x : Int} (ha : 0 ≤ a ∧ a < 9) (ht : 0 ≤ t ∧ t ≤ 60) (hx : 0 ≤ x ∧ x ≤ 60) : mh_MP g d yX6_between cX6_between 4 (some .int) 96 [.ref 10, .int (Int32.ofInt (a)), .int (Int32.ofInt (t)), .int (Int32.ofInt (x))] h (some (.int (Int32.ofInt (h 12 (a * 61 + x) - h 12 (a * 61 + t))))) := by
  refine mh_M_of RX6 rfl (by decide +kernel) [some (.ref 10), some (.int (Int32.ofInt (a))), some (.int (Int32.ofInt (t))), some (.int (Int32.ofInt (x)))] rfl (Nat.le_of_ble_eq_true rfl) (fun f F Z hn0 hR => ?_)
  refine mh_aload0 (pc := 0) F dX6_between_0 ?_
  refine mh_getr (b := 12) (pc := 1) F sh_10 (by decide) fw_RX6_15_6 dX6_between_1 rfl (fx_10_1 hF) ?_
  refine mh_iload1 (pc := 4) F dX6_between_4 ?_
  refine mh_bipush (pc := 5) F dX6_between_5 rfl ?_
  refine mh_imul (pc := 7) F dX6_between_7 ?_
  refine mh_iload3 (pc := 8) F dX6_between_8 ?_
  refine mh_iadd (pc := 9) F dX6_between_9 ?_
  refine mh_iaload (pc := 10) F sh_12 (by decide) (by omega) dX6_between_10 ?_
  refine mh_aload0 (pc := 11) F dX6_between_11 ?_
  refine mh_getr (b := 12) (pc := 12) F sh_10 (by decide) fw_RX6_15_6 dX6_between_12 rfl (fx_10_1 hF) ?_
  refine mh_iload1 (pc := 15) F dX6_between_15 ?_
  refine mh_bipush (pc := 16) F dX6_between_16 rfl ?_
  refine mh_imul (pc := 18) F dX6_between_18 ?_
  refine mh_iload2 (pc := 19) F dX6_between_19 ?_
  refine mh_iadd (pc := 20) F dX6_between_20 ?_
  refine mh_iaload (pc := 21) F sh_12 (by decide) (by omega) dX6_between_21 ?_
  refine mh_isub (pc := 22) F dX6_between_22 ?_
  exact mh_ireturnp F Z dX6_between_23 rfl rfl

set_option maxRecDepth 100000 in
set_option maxHeartbeats 2000000 in
theorem k_sumUp {g : mh_G} {d : Nat} (hd : 7 ≤ d) {h : Nat → Int → Int} (hF : mh_FX h) {s : Int → Int} {k a e n : Int} {w0 : Int → Int} (r12 : h 12 = w0) {c : Int → Int} (r44ktoNat : h (44 + k.toNat) = c) (hkk : 0 ≤ k ∧ k < 6) (hc : sc_ok c) (hL : sc_L h 25 s) (hN : sc_N h 25 s) (hq0 : 0 ≤ s 0 ∧ s 0 ≤ 20000) (ha : 0 ≤ a ∧ a < 9) (he : 0 ≤ e ∧ e ≤ 40) (hby : h 10 5 = n) (hn : 0 ≤ n ∧ n ≤ 60) : mh_M g d yX6_sumUp cX6_sumUp 8 none 96 0 0 [.ref 10, .ref 25, .ref (44 + k.toNat), .int (Int32.ofInt (a)), .int (Int32.ofInt (e))] h (fun r h2 => r = none ∧ mh_FX h2 ∧ mh_fr [12, 36] h h2 ∧ (∀ j, 0 ≤ j → j ≤ n → h2 12 (a * 61 + j) = sc_su s (c 1 - 3) (c 2) e j.toNat) ∧ (∀ j, (j < a * 61 ∨ a * 61 + n < j) → h2 12 j = h 12 j)) := by
  refine mh_M_of RX6 rfl (by decide +kernel) [some (.ref 10), some (.ref 25), some (.ref (44 + k.toNat)), some (.int (Int32.ofInt (a))), some (.int (Int32.ofInt (e))), none, none, none] rfl (Nat.le_of_ble_eq_true rfl) (fun f F Z hn0 hR => ?_)
  obtain ⟨c1, c2, c3, c4, c5, c6, c7, c8, c9⟩ := id hc
  refine mh_iload3 (pc := 0) F dX6_sumUp_0 ?_
  refine mh_bipush (pc := 1) F dX6_sumUp_1 rfl ?_
  refine mh_imul (pc := 3) F dX6_sumUp_3 ?_
  refine mh_istore5 (pc := 4) F dX6_sumUp_4 rfl (by decide) ?_
  refine mh_aload0 (pc := 6) F dX6_sumUp_6 ?_
  refine mh_getr (b := 12) (pc := 7) F sh_10 (by decide) fw_RX6_15_6 dX6_sumUp_7 rfl (fx_10_1 hF) ?_
  refine mh_iload5 (pc := 10) F dX6_sumUp_10 ?_
  refine mh_iconst (pc := 12) F dX6_sumUp_12 ?_
  refine mh_iastore (pc := 13) F sh_12 (by decide) (by omega) dX6_sumUp_13 ?_
  refine mh_nmh (fun h1 e1 => ?_)
  have F1 : mh_FX h1 := by rw [e1]; exact hF.upa rfl
  have r12_1 : h1 12 = mh_ur w0 (a * 61) 0 := by rw [e1, mh_up_rs, r12]
  have r44ktoNat_1 : h1 (44 + k.toNat) = c := by rw [e1, mh_up_row (by omega)]; exact r44ktoNat
  have fr1 : mh_fr [12] h h1 := mh_fr.up mh_fr.rf e1
  refine mh_iconst (pc := 14) F dX6_sumUp_14 ?_
  refine mh_istore6 (pc := 15) F dX6_sumUp_15 rfl (by decide) ?_
  have L17 : ∀ (m : Nat) (y : Int) (hg : Nat → Int → Int) (t : Int → Int), (mh_FX hg) → (mh_fr [12, 36] h hg) → (hg 12 = t) → (hg (44 + k.toNat) = c) → (0 ≤ y ∧ y ≤ n) → (∀ j, 0 ≤ j → j ≤ y → t (a * 61 + j) = sc_su s (c 1 - 3) (c 2) e j.toNat) → (∀ j, (j < a * 61 ∨ a * 61 + n < j) → t j = w0 j) → (n - y).toNat = m → mh_V g f 8 96 0 0 17 [some (.ref 10), some (.ref 25), some (.ref (44 + k.toNat)), some (.int (Int32.ofInt (a))), some (.int (Int32.ofInt (e))), some (.int (Int32.ofInt (a * 61))), some (.int (Int32.ofInt (y))), none] [] hg := by
    intro m
    induction m using Nat.strongRecOn with
    | _ m ihL17 =>
    intro y hg t Fhg frhg q12hg q44ktoNathg hy ht ho hmz
    refine mh_iload6 (pc := 17) F dX6_sumUp_17 ?_
    refine mh_aload0 (pc := 19) F dX6_sumUp_19 ?_
    refine mh_geti (pc := 20) F sh_10 (by decide) fw_RX6_38_6 dX6_sumUp_20 rfl ?_
    refine mh_top (y := n) (mh_eqI (by rw [frhg 10 (by simp)]; exact hby)) ?_
    refine mh_icmp_ge (pc := 23) (tgt := 90) F dX6_sumUp_23 rfl (by omega) (by omega) (fun c_23 => ?_) (fun c_23 => ?_)
    · exact mh_return F Z dX6_sumUp_90 ⟨rfl, Fhg, frhg, (fun j j0 j1 => by rw [q12hg]; exact ht j j0 (by omega)), (fun j hj => by rw [q12hg, r12]; exact ho j hj)⟩
    · have hL : sc_L hg 25 s := hL.of (fun x hx => frhg x (by simp; omega))
      have hq25 : hg 25 7 = s 0 := by rw [frhg 25 (by simp)]; exact hN.2.1
      have hqm := mh_tmod96 (q := s 0 + y) (by omega)
      have hwr : 0 ≤ sp_law s 0 e ((s 0 + y).tmod 96) 0 ∧ sp_law s 0 e ((s 0 + y).tmod 96) 0 ≤ 40 := sp_law_rg0
      refine mh_aload1 (pc := 26) F dX6_sumUp_26 ?_
      refine mh_getr (b := 33) (pc := 27) F sh_25 (by decide) fw_RX6_130_10 dX6_sumUp_27 rfl (fx_25_11 Fhg) ?_
      refine mh_iload4 (pc := 30) F dX6_sumUp_30 ?_
      refine mh_aload1 (pc := 32) F dX6_sumUp_32 ?_
      refine mh_geti (pc := 33) F sh_25 (by decide) fw_RX6_134_10 dX6_sumUp_33 rfl ?_
      refine mh_top (y := s 0) (mh_eqI hq25) ?_
      refine mh_iload6 (pc := 36) F dX6_sumUp_36 ?_
      refine mh_iadd (pc := 38) F dX6_sumUp_38 ?_
      refine mh_bipush (pc := 39) F dX6_sumUp_39 rfl ?_
      refine mh_irem (pc := 41) F dX6_sumUp_41 (by omega) (by omega) (by omega) ?_
      refine mh_iconst (pc := 42) F dX6_sumUp_42 ?_
      refine mh_callV0 (pc := 43) (As := [.int (Int32.ofInt (e)), .int (Int32.ofInt (((s 0) + y).tmod 96)), .int (Int32.ofInt (0))]) (st := []) F (by omega) (k3_value_33 (by omega) Fhg rfl rfl rfl (by omega) (by omega) (by omega) hL.2.2.1.2.1 hL.2.2.1.2.2.1 hL.2.2.1.2.2.2.1 (sc_T_mo hL.2.2.1)) wv_RX6_137_yX9_value dX6_sumUp_43 sh_33 rfl (by decide) rfl rfl (Nat.le_of_ble_eq_true rfl) ⟨Nat.zero_le _, Nat.zero_le _⟩ (fun r2 h2 q2 => ?_)
      obtain ⟨rfl, F2, fr2⟩ := q2
      have r12_3 : h2 12 = t := (fr2 _ (by decide)).trans q12hg
      have r44ktoNat_3 : h2 (44 + k.toNat) = c := (fr2 _ (by simp; omega)).trans q44ktoNathg
      have fr3 : mh_fr [12, 36] h h2 := (mh_fr.tr frhg fr2).mono (by simp)
      refine mh_top (y := sp_law s 0 e (((s 0) + y).tmod 96) 0) (mh_eqI (sc_T_law hL.2.2.1 (by decide) (by omega))) ?_
      refine mh_istore7 (pc := 46) F dX6_sumUp_46 rfl (by decide) ?_
      refine mh_aload0 (pc := 48) F dX6_sumUp_48 ?_
      refine mh_getr (b := 12) (pc := 49) F sh_10 (by decide) fw_RX6_15_6 dX6_sumUp_49 rfl (fx_10_1 F2) ?_
      refine mh_iload5 (pc := 52) F dX6_sumUp_52 ?_
      refine mh_iload6 (pc := 54) F dX6_sumUp_54 ?_
      refine mh_iadd (pc := 56) F dX6_sumUp_56 ?_
      refine mh_iconst (pc := 57) F dX6_sumUp_57 ?_
      refine mh_iadd (pc := 58) F dX6_sumUp_58 ?_
      refine mh_aload0 (pc := 59) F dX6_sumUp_59 ?_
      refine mh_getr (b := 12) (pc := 60) F sh_10 (by decide) fw_RX6_15_6 dX6_sumUp_60 rfl (fx_10_1 F2) ?_
      refine mh_iload5 (pc := 63) F dX6_sumUp_63 ?_
      refine mh_iload6 (pc := 65) F dX6_sumUp_65 ?_
      refine mh_iadd (pc := 67) F dX6_sumUp_67 ?_
      refine mh_ialoadr (pc := 68) F sh_12 (by decide) (by omega) dX6_sumUp_68 r12_3 ?_
      refine mh_aload2 (pc := 69) F dX6_sumUp_69 ?_
      refine mh_getr (b := 2 + (c 1 - 3).toNat) (pc := 70) F (sc_Aj hkk).sh (sc_Aj hkk).lt fw_RX6_58_0 dX6_sumUp_70 rfl (by rw [r44ktoNat_3]; omega) ?_
      refine mh_iload7 (pc := 73) F dX6_sumUp_73 ?_
      refine mh_aload2 (pc := 75) F dX6_sumUp_75 ?_
      refine mh_getir (pc := 76) F (sc_Aj hkk).sh (sc_Aj hkk).lt fw_RX6_62_0 dX6_sumUp_76 rfl r44ktoNat_3 ?_
      refine kd_warms_RX6_142 (pc := 79) F (by omega) (k := (c 1 - 3)) (by omega) (by omega) (by omega) dX6_sumUp_79 rfl (Nat.le_of_ble_eq_true rfl) ⟨Nat.zero_le _, Nat.zero_le _⟩ ?_
      refine mh_iadd (pc := 82) F dX6_sumUp_82 ?_
      refine mh_iastore (pc := 83) F sh_12 (by decide) (by omega) dX6_sumUp_83 ?_
      refine mh_nmh (fun h4 e4 => ?_)
      have F4 : mh_FX h4 := by rw [e4]; exact F2.upa rfl
      have r12_4 : h4 12 = mh_ur t (((a * 61) + y) + 1) ((t ((a * 61) + y)) + (sp_warms (c 1 - 3) (c 2) (sp_law s 0 e (((s 0) + y).tmod 96) 0))) := by rw [e4, mh_up_rs, r12_3]
      have r44ktoNat_4 : h4 (44 + k.toNat) = c := by rw [e4, mh_up_row (by omega)]; exact r44ktoNat_3
      have fr4 : mh_fr [12, 36] h h4 := mh_fr.upi fr3 e4 (by simp)
      refine mh_iinc6 (pc := 84) F dX6_sumUp_84 rfl (by decide) ?_
      refine mh_goto (pc := 87) (tgt := 17) F dX6_sumUp_87 rfl ?_
      refine mh_drop7 ?_
      exact ihL17 _ (by omega) (y + 1) h4 (mh_ur t (((a * 61) + y) + 1) ((t ((a * 61) + y)) + (sp_warms (c 1 - 3) (c 2) (sp_law s 0 e (((s 0) + y).tmod 96) 0)))) F4 (fr4.mono (by simp)) r12_4 r44ktoNat_4 (by omega) (fun j j0 j1 => by by_cases z : j = y + 1; rw [z, mh_ur_eq (by omega), sc_su_at _ _ _ _ hy.1, ← ht y hy.1 (Int.le_refl _)]; rfl; rw [mh_ur_ne (by omega)]; exact ht j j0 (by omega)) (fun j hj => by rw [mh_ur_ne (by omega)]; exact ho j hj) rfl
  exact L17 _ 0 h1 (mh_ur w0 (a * 61) 0) F1 (fr1.mono (by simp)) r12_1 r44ktoNat_1 (by omega) (fun j j0 j1 => by rw [mh_ur_eq (by omega), show j.toNat = 0 by omega]; rfl) (fun j hj => mh_ur_ne (by omega)) rfl

