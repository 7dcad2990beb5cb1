/-! the class's public acts -/
def sc_E (h : Nat → Int → Int) (er : Int → Int) : Prop := ∀ k, 0 ≤ k → k ≤ 5 → h 24 k = er k
theorem sc_E.of {h h2 : Nat → Int → Int} {er : Int → Int} (H : sc_E h er) (e : h2 24 = h 24) : sc_E h2 er := fun k k0 k1 => by rw [e]; exact H k k0 k1
theorem sc_E.up {h h2 : Nat → Int → Int} {er : Int → Int} {k : Int} (hk : 0 ≤ k ∧ k ≤ 5) (H : sc_E h er) (e : h2 24 = mh_ur (h 24) k (h 24 k + 1)) : sc_E h2 (mh_ur er k (er k + 1)) := fun j j0 j1 => by
  rw [e]
  by_cases z : j = k
  · rw [mh_ur_eq z, mh_ur_eq z, H k hk.1 hk.2]
  · rw [mh_ur_ne z, mh_ur_ne z, H j j0 j1]
theorem sc_V_hill {h h2 : Nat → Int → Int} {s : Int → Int} {a w v : Int} (hV : sc_V h s) (ha : 0 ≤ a ∧ a < 9) (hw : 0 ≤ w ∧ w < 3) (e : h2 = mh_up h (26 + w.toNat) a v) : sc_V h2 (mh_ur s (6 + 3 * a + w) v) := by
  obtain ⟨⟨l1, l2, l3, l4⟩, b, c⟩ := hV
  have er : ∀ x, x ≠ 26 + w.toNat → h2 x = h x := fun x hx => by rw [e]; exact mh_up_row hx
  have ee : h2 (26 + w.toNat) = mh_ur (h (26 + w.toNat)) a v := by rw [e, mh_up_rs]
  refine ⟨⟨fun k k0 k1 => ?_, fun k k0 k1 => ?_, ?_, ?_⟩, fun j j0 j1 => ?_, ?_⟩
  · have q := l1 k k0 k1
    change h 26 k = _ ∧ h 27 k = _ ∧ h 28 k = _ at q
    show h2 26 k = _ ∧ h2 27 k = _ ∧ h2 28 k = _
    rcases (show w = 0 ∨ w = 1 ∨ w = 2 by omega) with z | z | z
    · subst z
      rw [er 27 (by decide), er 28 (by decide), show h2 26 = mh_ur (h 26) a v from ee]
      by_cases y : k = a
      · subst y; refine ⟨?_, ?_, ?_⟩ <;> (repeat (first | rw [mh_ur_ne (by omega)] | rw [mh_ur_eq (by omega)])) <;> first | rfl | exact q.1 | exact q.2.1 | exact q.2.2
      · rw [mh_ur_ne y, mh_ur_ne (by omega), mh_ur_ne (by omega), mh_ur_ne (by omega)]; exact q
    · subst z
      rw [er 26 (by decide), er 28 (by decide), show h2 27 = mh_ur (h 27) a v from ee]
      by_cases y : k = a
      · subst y; refine ⟨?_, ?_, ?_⟩ <;> (repeat (first | rw [mh_ur_ne (by omega)] | rw [mh_ur_eq (by omega)])) <;> first | rfl | exact q.1 | exact q.2.1 | exact q.2.2
      · rw [mh_ur_ne y, mh_ur_ne (by omega), mh_ur_ne (by omega), mh_ur_ne (by omega)]; exact q
    · subst z
      rw [er 26 (by decide), er 27 (by decide), show h2 28 = mh_ur (h 28) a v from ee]
      by_cases y : k = a
      · subst y; refine ⟨?_, ?_, ?_⟩ <;> (repeat (first | rw [mh_ur_ne (by omega)] | rw [mh_ur_eq (by omega)])) <;> first | rfl | exact q.1 | exact q.2.1 | exact q.2.2
      · rw [mh_ur_ne y, mh_ur_ne (by omega), mh_ur_ne (by omega), mh_ur_ne (by omega)]; exact q
  · rw [er (25 + 4) (by omega), er (25 + 5) (by omega), mh_ur_ne (by omega), mh_ur_ne (by omega)]; exact l2 k k0 k1
  · rw [er (25 + 8) (by omega), er (25 + 9) (by omega)]; exact l3.to (by decide) (fun i i0 i1 => mh_ur_ne (by omega))
  · rw [er (25 + 13) (by omega), er (25 + 14) (by omega)]; exact l4.to (by decide) (fun i i0 i1 => mh_ur_ne (by omega))
  · have hb := b j j0 j1
    show sc_is (h2 (44 + j.toNat)) _ _
    rw [er (44 + j.toNat) (by omega)]
    unfold sc_is sp_row at hb ⊢
    rw [mh_ur_ne (by omega), mh_ur_ne (by omega), mh_ur_ne (by omega), mh_ur_ne (by omega), mh_ur_ne (by omega), mh_ur_ne (by omega), mh_ur_ne (by omega), mh_ur_ne (by omega), mh_ur_ne (by omega)]
    exact hb
  · unfold sc_N
    rw [er 25 (by omega), mh_ur_ne (by omega), mh_ur_ne (by omega), mh_ur_ne (by omega), mh_ur_ne (by omega), mh_ur_ne (by omega), mh_ur_ne (by omega)]
    exact c
theorem sc_V_car {h h2 : Nat → Int → Int} {s : Int → Int} {c p k : Int} (hV : sc_V h s) (hc : 0 ≤ c ∧ c < 4) (e1 : h2 29 = mh_ur (h 29) c p) (e2 : h2 30 = mh_ur (h 30) c k) (er : ∀ x, x ≠ 29 → x ≠ 30 → h2 x = h x) : sc_V h2 (mh_ur (mh_ur s (33 + 2 * c) p) (33 + 2 * c + 1) k) := by
  obtain ⟨⟨l1, l2, l3, l4⟩, b, d⟩ := hV
  refine ⟨⟨fun j k0 k1 => ?_, fun j k0 k1 => ?_, ?_, ?_⟩, fun j j0 j1 => ?_, ?_⟩
  · rw [er (25 + 1) (by omega) (by omega), er (25 + 2) (by omega) (by omega), er (25 + 3) (by omega) (by omega), mh_ur_ne (by omega), mh_ur_ne (by omega), mh_ur_ne (by omega), mh_ur_ne (by omega), mh_ur_ne (by omega), mh_ur_ne (by omega)]; exact l1 j k0 k1
  · have q := l2 j k0 k1
    change h 29 j = _ ∧ h 30 j = _ at q
    show h2 29 j = _ ∧ h2 30 j = _
    rw [e1, e2]
    by_cases y : j = c
    · subst y; rw [mh_ur_eq rfl, mh_ur_eq rfl, mh_ur_ne (by omega), mh_ur_eq rfl, mh_ur_eq rfl]; exact ⟨rfl, rfl⟩
    · rw [mh_ur_ne y, mh_ur_ne y, mh_ur_ne (by omega), mh_ur_ne (by omega), mh_ur_ne (by omega), mh_ur_ne (by omega)]; exact q
  · rw [er (25 + 8) (by omega) (by omega), er (25 + 9) (by omega) (by omega)]; exact l3.to (by decide) (fun i i0 i1 => by rw [mh_ur_ne (by omega), mh_ur_ne (by omega)])
  · rw [er (25 + 13) (by omega) (by omega), er (25 + 14) (by omega) (by omega)]; exact l4.to (by decide) (fun i i0 i1 => by rw [mh_ur_ne (by omega), mh_ur_ne (by omega)])
  · have hb := b j j0 j1
    show sc_is (h2 (44 + j.toNat)) _ _
    rw [er (44 + j.toNat) (by omega) (by omega)]
    have ho : ∀ i, 41 ≤ i → mh_ur (mh_ur s (33 + 2 * c) p) (33 + 2 * c + 1) k i = s i := fun i hi => by rw [mh_ur_ne (by omega), mh_ur_ne (by omega)]
    unfold sc_is sp_row at hb ⊢
    rw [ho _ (by omega), ho _ (by omega), ho _ (by omega), ho _ (by omega), ho _ (by omega), ho _ (by omega), ho _ (by omega), ho _ (by omega), ho _ (by omega)]
    exact hb
  · have ho : ∀ i, i < 33 → mh_ur (mh_ur s (33 + 2 * c) p) (33 + 2 * c + 1) k i = s i := fun i hi => by rw [mh_ur_ne (by omega), mh_ur_ne (by omega)]
    unfold sc_N
    rw [er 25 (by omega) (by omega), ho _ (by omega), ho _ (by omega), ho _ (by omega), ho _ (by omega), ho _ (by omega), ho _ (by omega)]
    exact d
theorem sc_is.an {c s : Int → Int} {k w i : Int} (h : sc_is c (sp_row s k) i) (hr : sp_cok (sp_row s k)) (hw : 0 ≤ w ∧ w ≤ 9) : sc_an c w = sp_told s k w := by
  have hst := h.st
  obtain ⟨a0, a1, a2, a3, a4, a5, a6, a7, a8, a9⟩ := h
  obtain ⟨b0, b1, b2, b3, b4, b5, b6, b7, b8, b9, b10, b11, b12, b13⟩ := hr
  unfold sp_row at *
  unfold sc_an sp_told
  rcases (show w = 0 ∨ w = 1 ∨ w = 2 ∨ w = 3 ∨ w = 4 ∨ w = 5 ∨ w = 6 ∨ w = 7 ∨ w = 8 ∨ w = 9 by omega) with z | z | z | z | z | z | z | z | z | z <;> subst z
  · (repeat (first | rw [if_pos rfl] | rw [if_neg (by decide)])); omega
  · (repeat (first | rw [if_pos rfl] | rw [if_neg (by decide)])); exact a2
  · (repeat (first | rw [if_pos rfl] | rw [if_neg (by decide)])); exact a3
  · (repeat (first | rw [if_pos rfl] | rw [if_neg (by decide)])); exact a4
  · (repeat (first | rw [if_pos rfl] | rw [if_neg (by decide)])); split <;> omega
  · (repeat (first | rw [if_pos rfl] | rw [if_neg (by decide)])); exact a7
  · (repeat (first | rw [if_pos rfl] | rw [if_neg (by decide)])); exact a8
  · (repeat (first | rw [if_pos rfl] | rw [if_neg (by decide)])); exact hst
  · (repeat (first | rw [if_pos rfl] | rw [if_neg (by decide)])); rw [a1, a2, show s (41 + 9 * k + 0) + 3 - 3 = s (41 + 9 * k + 0) by omega]
  · (repeat (first | rw [if_pos rfl] | rw [if_neg (by decide)])); exact a6
set_option maxRecDepth 100000 in
set_option maxHeartbeats 2000000 in
theorem k8_refuse {g : mh_G} {d : Nat} (hd : 1 ≤ d) {h : Nat → Int → Int} (hF : mh_FX h) {e : Int → Int} (r24 : h 24 = e) {k : Int} (hk : 1 ≤ k ∧ k ≤ 5) : mh_M g d yX11_refuse cX11_refuse 2 (some .int) 96 0 0 [.ref 0, .int (Int32.ofInt (k))] h (fun r h2 => r = some (.int (Int32.ofInt ((-1000000000) - k))) ∧ mh_FX h2 ∧ mh_fr [24] h h2 ∧ h2 24 = mh_ur e k (e k + 1)) := by
  refine mh_M_of RX11 rfl (by decide +kernel) [some (.ref 0), some (.int (Int32.ofInt (k)))] rfl (Nat.le_of_ble_eq_true rfl) (fun f F Z hn0 hR => ?_)
  refine mh_aload0 (pc := 0) F dX11_refuse_0 ?_
  refine mh_getr (b := 24) (pc := 1) F sh_0 (by decide) fw_RX11_64_11 dX11_refuse_1 rfl (fx_0_10 hF) ?_
  refine mh_iload1 (pc := 4) F dX11_refuse_4 ?_
  refine mh_dup2 (pc := 5) F dX11_refuse_5 rfl rfl ?_
  refine mh_ialoadr (pc := 6) F sh_24 (by decide) (by omega) dX11_refuse_6 r24 ?_
  refine mh_iconst (pc := 7) F dX11_refuse_7 ?_
  refine mh_iadd (pc := 8) F dX11_refuse_8 ?_
  refine mh_iastore (pc := 9) F sh_24 (by decide) (by omega) dX11_refuse_9 ?_
  refine mh_nmh (fun h1 e1 => ?_)
  have F1 : mh_FX h1 := by rw [e1]; exact hF.upa rfl
  have r24_1 : h1 24 = mh_ur e k ((e k) + 1) := by rw [e1, mh_up_rs, r24]
  have fr1 : mh_fr [24] h h1 := mh_fr.up mh_fr.rf e1
  refine mh_ldcw (x := -1000000000) (pc := 10) F dX11_refuse_10 (by rw [show Int32.ofInt (-1000000000) = (-1000000000 : Int32) from by decide +kernel]; exact tw_3_55) ?_
  refine mh_iload1 (pc := 13) F dX11_refuse_13 ?_
  refine mh_isub (pc := 14) F dX11_refuse_14 ?_
  exact mh_ireturn F Z dX11_refuse_15 ⟨rfl, F1, (fr1.mono (by simp)), r24_1⟩

set_option maxRecDepth 100000 in
set_option maxHeartbeats 2000000 in
theorem k8_isChurn {g : mh_G} {d : Nat} (hd : 2 ≤ d) {h : Nat → Int → Int} (hF : mh_FX h) {s : Int → Int} {x : Int} (hx : -2147483648 ≤ x ∧ x < 2147483648) (hN : sc_N h 25 s) (hm : 0 ≤ s 3 ∧ s 3 ≤ 6) : mh_MP g d yX11_isChurn cX11_isChurn 2 (some .boolean) 96 [.ref 0, .int (Int32.ofInt (x))] h (some (.int (Int32.ofInt (mh_B (0 ≤ x ∧ x ≤ s 3 - 1))))) := by
  refine mh_M_of RX11 rfl (by decide +kernel) [some (.ref 0), some (.int (Int32.ofInt (x)))] rfl (Nat.le_of_ble_eq_true rfl) (fun f F Z hn0 hR => ?_)
  have hN1 := hN.1
  refine mh_iload1 (pc := 0) F dX11_isChurn_0 ?_
  refine mh_iconst (pc := 1) F dX11_isChurn_1 ?_
  refine mh_aload0 (pc := 2) F dX11_isChurn_2 ?_
  refine mh_getr (b := 25) (pc := 3) F sh_0 (by decide) fw_RX11_72_11 dX11_isChurn_3 rfl (fx_0_0 hF) ?_
  refine mh_geti (pc := 6) F sh_25 (by decide) fw_RX11_123_10 dX11_isChurn_6 rfl ?_
  refine mh_iconst (pc := 9) F dX11_isChurn_9 ?_
  refine mh_isub (pc := 10) F dX11_isChurn_10 ?_
  refine mh_callSp (pc := 11) (As := [.int (Int32.ofInt (x)), .int (Int32.ofInt (0)), .int (Int32.ofInt ((h 25 6) - 1))]) (st := []) F (by omega) (k4_within (by omega) (by omega) (by omega) (by omega)) ws_RX11_82 dX11_isChurn_11 rfl rfl (Nat.le_of_ble_eq_true rfl) ⟨Nat.zero_le _, Nat.zero_le _⟩ ?_
  refine mh_ifb_eq (pc := 14) (tgt := 27) F dX11_isChurn_14 rfl (fun c_14 => ?_) (fun c_14 => ?_)
  · refine mh_iconst (pc := 27) F dX11_isChurn_27 ?_
    exact mh_zreturnp F Z dX11_isChurn_28 (Or.inr ⟨rfl, (by omega)⟩) rfl
  · refine mh_iload1 (pc := 17) F dX11_isChurn_17 ?_
    refine mh_bipush (pc := 18) F dX11_isChurn_18 rfl ?_
    refine mh_icmp_ge (pc := 20) (tgt := 27) F dX11_isChurn_20 rfl (by omega) (by omega) (fun c_20 => ?_) (fun c_20 => ?_)
    · refine mh_iconst (pc := 27) F dX11_isChurn_27 ?_
      exact mh_zreturnp F Z dX11_isChurn_28 (Or.inr ⟨rfl, (by omega)⟩) rfl
    · refine mh_iconst (pc := 23) F dX11_isChurn_23 ?_
      refine mh_goto (pc := 24) (tgt := 28) F dX11_isChurn_24 rfl ?_
      exact mh_zreturnp F Z dX11_isChurn_28 (Or.inl ⟨rfl, (by omega)⟩) rfl

set_option maxRecDepth 100000 in
set_option maxHeartbeats 2000000 in
theorem k8_most {g : mh_G} {d : Nat} (hd : 1 ≤ d) {h : Nat → Int → Int} {w : Int} (hw : -2147483648 ≤ w ∧ w < 2147483648) : mh_MP g d yX11_mostOfHill cX11_mostOfHill 1 (some .int) 96 [.int (Int32.ofInt (w))] h (some (.int (Int32.ofInt (sp_most w)))) := by
  refine mh_M_of RX11 rfl (by decide +kernel) [some (.int (Int32.ofInt (w)))] rfl (Nat.le_of_ble_eq_true rfl) (fun f F Z hn0 hR => ?_)
  refine mh_iload0 (pc := 0) F dX11_mostOfHill_0 ?_
  refine mh_if_ne (pc := 1) (tgt := 9) F dX11_mostOfHill_1 rfl (by omega) (fun c_1 => ?_) (fun c_1 => ?_)
  · refine mh_iload0 (pc := 9) F dX11_mostOfHill_9 ?_
    refine mh_iconst (pc := 10) F dX11_mostOfHill_10 ?_
    refine mh_icmp_ne (pc := 11) (tgt := 18) F dX11_mostOfHill_11 rfl (by omega) (by omega) (fun c_11 => ?_) (fun c_11 => ?_)
    · refine mh_bipush (pc := 18) F dX11_mostOfHill_18 rfl ?_
      exact mh_ireturnp F Z dX11_mostOfHill_20 (by unfold sp_most; (repeat' split) <;> first | rfl | (exfalso; omega)) rfl
    · refine mh_iconst (pc := 14) F dX11_mostOfHill_14 ?_
      refine mh_goto (pc := 15) (tgt := 20) F dX11_mostOfHill_15 rfl ?_
      exact mh_ireturnp F Z dX11_mostOfHill_20 (by unfold sp_most; (repeat' split) <;> first | rfl | (exfalso; omega)) rfl
  · refine mh_bipush (pc := 4) F dX11_mostOfHill_4 rfl ?_
    refine mh_goto (pc := 6) (tgt := 20) F dX11_mostOfHill_6 rfl ?_
    exact mh_ireturnp F Z dX11_mostOfHill_20 (by unfold sp_most; (repeat' split) <;> first | rfl | (exfalso; omega)) rfl

set_option maxRecDepth 100000 in
set_option maxHeartbeats 2000000 in
theorem q_hill {g : mh_G} {d : Nat} (hd : 16 ≤ d) {h : Nat → Int → Int} (hF : mh_FX h) {s er : Int → Int} {a w v : Int} (ha : -2147483648 ≤ a ∧ a < 2147483648) (hw : -2147483648 ≤ w ∧ w < 2147483648) (hv : -2147483648 ≤ v ∧ v < 2147483648) (hi : sp_inv s) (hV : sc_V h s) (hE : sc_E h er) (hKN : sc_KN h) : mh_M g d yX11_hill cX11_hill 6 (some .int) 96 0 0 [.ref 0, .int (Int32.ofInt (a)), .int (Int32.ofInt (w)), .int (Int32.ofInt (v))] h (fun r h2 => ∃ (vv : Int) (tt ee : Int → Int), (vv, tt, ee) = sp_hill a w v s er ∧ r = some (.int (Int32.ofInt vv)) ∧ mh_FX h2 ∧ mh_fr [25, 36, 41, 44, 45, 46, 47, 48, 49, 24, 26, 27, 28] h h2 ∧ sc_V h2 tt ∧ sc_E h2 ee) := by
  refine mh_M_of RX11 rfl (by decide +kernel) [some (.ref 0), some (.int (Int32.ofInt (a))), some (.int (Int32.ofInt (w))), some (.int (Int32.ofInt (v))), none, none] rfl (Nat.le_of_ble_eq_true rfl) (fun f F Z hn0 hR => ?_)
  have hm := hi.1
  have hq0 := hi.2.1
  have hs1 := hi.2.2.1
  have hh := hi.2.2.2.1
  obtain ⟨n6, n7, n8, n10, n14, n15⟩ := hV.2.2
  have hmo := sp_most_rg w
  have hbr := sp_inB_rg hm a
  refine mh_iload1 (pc := 0) F dX11_hill_0 ?_
  refine mh_iconst (pc := 1) F dX11_hill_1 ?_
  refine mh_bipush (pc := 2) F dX11_hill_2 rfl ?_
  refine mh_callSp (pc := 4) (As := [.int (Int32.ofInt (a)), .int (Int32.ofInt (0)), .int (Int32.ofInt (8))]) (st := []) F (by omega) (k4_within (by omega) (by omega) (by omega) (by omega)) ws_RX11_82 dX11_hill_4 rfl rfl (Nat.le_of_ble_eq_true rfl) ⟨Nat.zero_le _, Nat.zero_le _⟩ ?_
  refine mh_ifb_eq (pc := 7) (tgt := 31) F dX11_hill_7 rfl (fun c_7 => ?_) (fun c_7 => ?_)
  · refine mh_aload0 (pc := 31) F dX11_hill_31 ?_
    refine mh_iconst (pc := 32) F dX11_hill_32 ?_
    refine mh_callV0 (pc := 33) (As := [.int (Int32.ofInt (1))]) (st := []) F (by omega) (k8_refuse (by omega) hF rfl (by decide)) wv_RX11_90_yX11_refuse dX11_hill_33 sh_0 rfl (by decide) rfl rfl (Nat.le_of_ble_eq_true rfl) ⟨Nat.zero_le _, Nat.zero_le _⟩ (fun r1 h1 q1 => ?_)
    obtain ⟨rfl, F1, fr1, q1_0⟩ := q1
    have fr2 : mh_fr [24] h h1 := (mh_fr.tr mh_fr.rf fr1).mono (by simp)
    have hVr : sc_V h1 s := sc_V_fr hV (fun a a1 a2 a3 a4 => fr1 a (by simp; omega))
    have hEr : sc_E h1 (mh_ur er 1 (er 1 + 1)) := hE.up (by decide) q1_0
    exact mh_ireturn F Z dX11_hill_36 ⟨_, _, _, (by unfold sp_hill; (repeat' split) <;> first | rfl | (exfalso; omega)), rfl, F1, (fr2.mono (by simp)), hVr, hEr⟩
  · refine mh_iload2 (pc := 10) F dX11_hill_10 ?_
    refine mh_iconst (pc := 11) F dX11_hill_11 ?_
    refine mh_iconst (pc := 12) F dX11_hill_12 ?_
    refine mh_callSp (pc := 13) (As := [.int (Int32.ofInt (w)), .int (Int32.ofInt (0)), .int (Int32.ofInt (2))]) (st := []) F (by omega) (k4_within (by omega) (by omega) (by omega) (by omega)) ws_RX11_82 dX11_hill_13 rfl rfl (Nat.le_of_ble_eq_true rfl) ⟨Nat.zero_le _, Nat.zero_le _⟩ ?_
    refine mh_ifb_eq (pc := 16) (tgt := 31) F dX11_hill_16 rfl (fun c_16 => ?_) (fun c_16 => ?_)
    · refine mh_aload0 (pc := 31) F dX11_hill_31 ?_
      refine mh_iconst (pc := 32) F dX11_hill_32 ?_
      refine mh_callV0 (pc := 33) (As := [.int (Int32.ofInt (1))]) (st := []) F (by omega) (k8_refuse (by omega) hF rfl (by decide)) wv_RX11_90_yX11_refuse dX11_hill_33 sh_0 rfl (by decide) rfl rfl (Nat.le_of_ble_eq_true rfl) ⟨Nat.zero_le _, Nat.zero_le _⟩ (fun r3 h3 q3 => ?_)
      obtain ⟨rfl, F3, fr3, q3_0⟩ := q3
      have fr4 : mh_fr [24] h h3 := (mh_fr.tr mh_fr.rf fr3).mono (by simp)
      have hVr : sc_V h3 s := sc_V_fr hV (fun a a1 a2 a3 a4 => fr3 a (by simp; omega))
      have hEr : sc_E h3 (mh_ur er 1 (er 1 + 1)) := hE.up (by decide) q3_0
      exact mh_ireturn F Z dX11_hill_36 ⟨_, _, _, (by unfold sp_hill; (repeat' split) <;> first | rfl | (exfalso; omega)), rfl, F3, (fr4.mono (by simp)), hVr, hEr⟩
    · refine mh_iload3 (pc := 19) F dX11_hill_19 ?_
      refine mh_iconst (pc := 20) F dX11_hill_20 ?_
      refine mh_iload2 (pc := 21) F dX11_hill_21 ?_
      refine mh_callSp (pc := 22) (As := [.int (Int32.ofInt (w))]) (st := [.int (Int32.ofInt (0)), .int (Int32.ofInt (v))]) F (by omega) (k8_most (by omega) (by omega)) ws_RX11_86 dX11_hill_22 rfl rfl (Nat.le_of_ble_eq_true rfl) ⟨Nat.zero_le _, Nat.zero_le _⟩ ?_
      refine mh_callSp (pc := 25) (As := [.int (Int32.ofInt (v)), .int (Int32.ofInt (0)), .int (Int32.ofInt (sp_most w))]) (st := []) F (by omega) (k4_within (by omega) (by omega) (by omega) (by omega)) ws_RX11_82 dX11_hill_25 rfl rfl (Nat.le_of_ble_eq_true rfl) ⟨Nat.zero_le _, Nat.zero_le _⟩ ?_
      refine mh_ifb_ne (pc := 28) (tgt := 37) F dX11_hill_28 rfl (fun c_28 => ?_) (fun c_28 => ?_)
      · refine mh_iload2 (pc := 37) F dX11_hill_37 ?_
        refine mh_iconst (pc := 38) F dX11_hill_38 ?_
        refine mh_icmp_ne (pc := 39) (tgt := 60) F dX11_hill_39 rfl (by omega) (by omega) (fun c_39 => ?_) (fun c_39 => ?_)
        · have hLx : h 26 (a) = s (6 + 3 * (a) + 0) ∧ h 27 (a) = s (6 + 3 * (a) + 1) ∧ h 28 (a) = s (6 + 3 * (a) + 2) := hV.1.1 (a) (by omega) (by omega)
          refine mh_iload2 (pc := 60) F dX11_hill_60 ?_
          refine mh_if_ne (pc := 61) (tgt := 74) F dX11_hill_61 rfl (by omega) (fun c_61 => ?_) (fun c_61 => ?_)
          · refine mh_iload2 (pc := 74) F dX11_hill_74 ?_
            refine mh_iconst (pc := 75) F dX11_hill_75 ?_
            refine mh_icmp_ne (pc := 76) (tgt := 89) F dX11_hill_76 rfl (by omega) (by omega) (fun c_76 => ?_) (fun c_76 => ?_)
            · refine mh_aload0 (pc := 89) F dX11_hill_89 ?_
              refine mh_getr (b := 25) (pc := 90) F sh_0 (by decide) fw_RX11_72_11 dX11_hill_90 rfl (fx_0_0 hF) ?_
              refine mh_getr (b := 28) (pc := 93) F sh_25 (by decide) fw_RX11_102_10 dX11_hill_93 rfl (fx_25_2 hF) ?_
              refine mh_astore4 (pc := 96) F dX11_hill_96 rfl (by decide) ?_
              refine mh_aload4 (pc := 98) F dX11_hill_98 ?_
              refine mh_iload1 (pc := 100) F dX11_hill_100 ?_
              refine mh_iaload (pc := 101) F sh_28 (by decide) (by omega) dX11_hill_101 ?_
              refine mh_istore5 (pc := 102) F dX11_hill_102 rfl (by decide) ?_
              refine mh_aload4 (pc := 104) F dX11_hill_104 ?_
              refine mh_iload1 (pc := 106) F dX11_hill_106 ?_
              refine mh_iload3 (pc := 107) F dX11_hill_107 ?_
              refine mh_iastore (pc := 108) F sh_28 (by decide) (by omega) dX11_hill_108 ?_
              refine mh_nmh (fun h5 e5 => ?_)
              have F5 : mh_FX h5 := by rw [e5]; exact hF.upa rfl
              have fr5 : mh_fr [28] h h5 := mh_fr.up mh_fr.rf e5
              have hVn : sc_V h5 (mh_ur s (6 + 3 * a + w) v) := sc_V_hill hV (by omega) (by omega) (by rw [show (26 + w.toNat : Nat) = 28 by omega]; exact e5)
              refine mh_iload5 (pc := 109) F dX11_hill_109 ?_
              refine mh_top (y := s (6 + 3 * a + w)) (mh_eqI (by rcases (show w = 0 ∨ w = 1 ∨ w = 2 by omega) with z | z | z <;> subst z <;> first | exact hLx.1 | exact hLx.2.1 | exact hLx.2.2 | (exfalso; omega))) ?_
              exact mh_ireturn F Z dX11_hill_111 ⟨_, _, _, (by unfold sp_hill; (repeat' split) <;> first | rfl | (exfalso; omega)), rfl, F5, (fr5.mono (by simp)), hVn, (hE.of (fr5 24 (by simp)))⟩
            · refine mh_aload0 (pc := 79) F dX11_hill_79 ?_
              refine mh_getr (b := 25) (pc := 80) F sh_0 (by decide) fw_RX11_72_11 dX11_hill_80 rfl (fx_0_0 hF) ?_
              refine mh_getr (b := 27) (pc := 83) F sh_25 (by decide) fw_RX11_99_10 dX11_hill_83 rfl (fx_25_1 hF) ?_
              refine mh_goto (pc := 86) (tgt := 96) F dX11_hill_86 rfl ?_
              refine mh_astore4 (pc := 96) F dX11_hill_96 rfl (by decide) ?_
              refine mh_aload4 (pc := 98) F dX11_hill_98 ?_
              refine mh_iload1 (pc := 100) F dX11_hill_100 ?_
              refine mh_iaload (pc := 101) F sh_27 (by decide) (by omega) dX11_hill_101 ?_
              refine mh_istore5 (pc := 102) F dX11_hill_102 rfl (by decide) ?_
              refine mh_aload4 (pc := 104) F dX11_hill_104 ?_
              refine mh_iload1 (pc := 106) F dX11_hill_106 ?_
              refine mh_iload3 (pc := 107) F dX11_hill_107 ?_
              refine mh_iastore (pc := 108) F sh_27 (by decide) (by omega) dX11_hill_108 ?_
              refine mh_nmh (fun h6 e6 => ?_)
              have F6 : mh_FX h6 := by rw [e6]; exact hF.upa rfl
              have fr6 : mh_fr [27] h h6 := mh_fr.up mh_fr.rf e6
              have hVn : sc_V h6 (mh_ur s (6 + 3 * a + w) v) := sc_V_hill hV (by omega) (by omega) (by rw [show (26 + w.toNat : Nat) = 27 by omega]; exact e6)
              refine mh_iload5 (pc := 109) F dX11_hill_109 ?_
              refine mh_top (y := s (6 + 3 * a + w)) (mh_eqI (by rcases (show w = 0 ∨ w = 1 ∨ w = 2 by omega) with z | z | z <;> subst z <;> first | exact hLx.1 | exact hLx.2.1 | exact hLx.2.2 | (exfalso; omega))) ?_
              exact mh_ireturn F Z dX11_hill_111 ⟨_, _, _, (by unfold sp_hill; (repeat' split) <;> first | rfl | (exfalso; omega)), rfl, F6, (fr6.mono (by simp)), hVn, (hE.of (fr6 24 (by simp)))⟩
          · refine mh_aload0 (pc := 64) F dX11_hill_64 ?_
            refine mh_getr (b := 25) (pc := 65) F sh_0 (by decide) fw_RX11_72_11 dX11_hill_65 rfl (fx_0_0 hF) ?_
            refine mh_getr (b := 26) (pc := 68) F sh_25 (by decide) fw_RX11_96_10 dX11_hill_68 rfl (fx_25_0 hF) ?_
            refine mh_goto (pc := 71) (tgt := 96) F dX11_hill_71 rfl ?_
            refine mh_astore4 (pc := 96) F dX11_hill_96 rfl (by decide) ?_
            refine mh_aload4 (pc := 98) F dX11_hill_98 ?_
            refine mh_iload1 (pc := 100) F dX11_hill_100 ?_
            refine mh_iaload (pc := 101) F sh_26 (by decide) (by omega) dX11_hill_101 ?_
            refine mh_istore5 (pc := 102) F dX11_hill_102 rfl (by decide) ?_
            refine mh_aload4 (pc := 104) F dX11_hill_104 ?_
            refine mh_iload1 (pc := 106) F dX11_hill_106 ?_
            refine mh_iload3 (pc := 107) F dX11_hill_107 ?_
            refine mh_iastore (pc := 108) F sh_26 (by decide) (by omega) dX11_hill_108 ?_
            refine mh_nmh (fun h7 e7 => ?_)
            have F7 : mh_FX h7 := by rw [e7]; exact hF.upa rfl
            have fr7 : mh_fr [26] h h7 := mh_fr.up mh_fr.rf e7
            have hVn : sc_V h7 (mh_ur s (6 + 3 * a + w) v) := sc_V_hill hV (by omega) (by omega) (by rw [show (26 + w.toNat : Nat) = 26 by omega]; exact e7)
            refine mh_iload5 (pc := 109) F dX11_hill_109 ?_
            refine mh_top (y := s (6 + 3 * a + w)) (mh_eqI (by rcases (show w = 0 ∨ w = 1 ∨ w = 2 by omega) with z | z | z <;> subst z <;> first | exact hLx.1 | exact hLx.2.1 | exact hLx.2.2 | (exfalso; omega))) ?_
            exact mh_ireturn F Z dX11_hill_111 ⟨_, _, _, (by unfold sp_hill; (repeat' split) <;> first | rfl | (exfalso; omega)), rfl, F7, (fr7.mono (by simp)), hVn, (hE.of (fr7 24 (by simp)))⟩
        · refine mh_iload3 (pc := 42) F dX11_hill_42 ?_
          refine mh_aload0 (pc := 43) F dX11_hill_43 ?_
          refine mh_getr (b := 25) (pc := 44) F sh_0 (by decide) fw_RX11_72_11 dX11_hill_44 rfl (fx_0_0 hF) ?_
          refine mh_iload1 (pc := 47) F dX11_hill_47 ?_
          refine mh_callVp (pc := 48) (As := [.int (Int32.ofInt (a))]) (st := [.int (Int32.ofInt (v))]) F (by omega) (k4_inBrook (by omega) hF hV.2.1 hV.2.2 (by omega) hi.2.2.2.2.1 (by omega)) wv_RX11_93_yX10_inBrook dX11_hill_48 sh_25 rfl (by decide) rfl rfl (Nat.le_of_ble_eq_true rfl) ⟨Nat.zero_le _, Nat.zero_le _⟩ ?_
          refine mh_icmp_ge (pc := 51) (tgt := 60) F dX11_hill_51 rfl (by omega) (by omega) (fun c_51 => ?_) (fun c_51 => ?_)
          · have hLx : h 26 (a) = s (6 + 3 * (a) + 0) ∧ h 27 (a) = s (6 + 3 * (a) + 1) ∧ h 28 (a) = s (6 + 3 * (a) + 2) := hV.1.1 (a) (by omega) (by omega)
            refine mh_iload2 (pc := 60) F dX11_hill_60 ?_
            refine mh_if_ne (pc := 61) (tgt := 74) F dX11_hill_61 rfl (by omega) (fun c_61 => ?_) (fun c_61 => ?_)
            · refine mh_iload2 (pc := 74) F dX11_hill_74 ?_
              refine mh_iconst (pc := 75) F dX11_hill_75 ?_
              refine mh_icmp_ne (pc := 76) (tgt := 89) F dX11_hill_76 rfl (by omega) (by omega) (fun c_76 => ?_) (fun c_76 => ?_)
              · refine mh_aload0 (pc := 89) F dX11_hill_89 ?_
                refine mh_getr (b := 25) (pc := 90) F sh_0 (by decide) fw_RX11_72_11 dX11_hill_90 rfl (fx_0_0 hF) ?_
                refine mh_getr (b := 28) (pc := 93) F sh_25 (by decide) fw_RX11_102_10 dX11_hill_93 rfl (fx_25_2 hF) ?_
                refine mh_astore4 (pc := 96) F dX11_hill_96 rfl (by decide) ?_
                refine mh_aload4 (pc := 98) F dX11_hill_98 ?_
                refine mh_iload1 (pc := 100) F dX11_hill_100 ?_
                refine mh_iaload (pc := 101) F sh_28 (by decide) (by omega) dX11_hill_101 ?_
                refine mh_istore5 (pc := 102) F dX11_hill_102 rfl (by decide) ?_
                refine mh_aload4 (pc := 104) F dX11_hill_104 ?_
                refine mh_iload1 (pc := 106) F dX11_hill_106 ?_
                refine mh_iload3 (pc := 107) F dX11_hill_107 ?_
                refine mh_iastore (pc := 108) F sh_28 (by decide) (by omega) dX11_hill_108 ?_
                refine mh_nmh (fun h8 e8 => ?_)
                have F8 : mh_FX h8 := by rw [e8]; exact hF.upa rfl
                have fr8 : mh_fr [28] h h8 := mh_fr.up mh_fr.rf e8
                have hVn : sc_V h8 (mh_ur s (6 + 3 * a + w) v) := sc_V_hill hV (by omega) (by omega) (by rw [show (26 + w.toNat : Nat) = 28 by omega]; exact e8)
                refine mh_iload5 (pc := 109) F dX11_hill_109 ?_
                refine mh_top (y := s (6 + 3 * a + w)) (mh_eqI (by rcases (show w = 0 ∨ w = 1 ∨ w = 2 by omega) with z | z | z <;> subst z <;> first | exact hLx.1 | exact hLx.2.1 | exact hLx.2.2 | (exfalso; omega))) ?_
                exact mh_ireturn F Z dX11_hill_111 ⟨_, _, _, (by unfold sp_hill; (repeat' split) <;> first | rfl | (exfalso; omega)), rfl, F8, (fr8.mono (by simp)), hVn, (hE.of (fr8 24 (by simp)))⟩
              · refine mh_aload0 (pc := 79) F dX11_hill_79 ?_
                refine mh_getr (b := 25) (pc := 80) F sh_0 (by decide) fw_RX11_72_11 dX11_hill_80 rfl (fx_0_0 hF) ?_
                refine mh_getr (b := 27) (pc := 83) F sh_25 (by decide) fw_RX11_99_10 dX11_hill_83 rfl (fx_25_1 hF) ?_
                refine mh_goto (pc := 86) (tgt := 96) F dX11_hill_86 rfl ?_
                refine mh_astore4 (pc := 96) F dX11_hill_96 rfl (by decide) ?_
                refine mh_aload4 (pc := 98) F dX11_hill_98 ?_
                refine mh_iload1 (pc := 100) F dX11_hill_100 ?_
                refine mh_iaload (pc := 101) F sh_27 (by decide) (by omega) dX11_hill_101 ?_
                refine mh_istore5 (pc := 102) F dX11_hill_102 rfl (by decide) ?_
                refine mh_aload4 (pc := 104) F dX11_hill_104 ?_
                refine mh_iload1 (pc := 106) F dX11_hill_106 ?_
                refine mh_iload3 (pc := 107) F dX11_hill_107 ?_
                refine mh_iastore (pc := 108) F sh_27 (by decide) (by omega) dX11_hill_108 ?_
                refine mh_nmh (fun h9 e9 => ?_)
                have F9 : mh_FX h9 := by rw [e9]; exact hF.upa rfl
                have fr9 : mh_fr [27] h h9 := mh_fr.up mh_fr.rf e9
                have hVn : sc_V h9 (mh_ur s (6 + 3 * a + w) v) := sc_V_hill hV (by omega) (by omega) (by rw [show (26 + w.toNat : Nat) = 27 by omega]; exact e9)
                refine mh_iload5 (pc := 109) F dX11_hill_109 ?_
                refine mh_top (y := s (6 + 3 * a + w)) (mh_eqI (by rcases (show w = 0 ∨ w = 1 ∨ w = 2 by omega) with z | z | z <;> subst z <;> first | exact hLx.1 | exact hLx.2.1 | exact hLx.2.2 | (exfalso; omega))) ?_
                exact mh_ireturn F Z dX11_hill_111 ⟨_, _, _, (by unfold sp_hill; (repeat' split) <;> first | rfl | (exfalso; omega)), rfl, F9, (fr9.mono (by simp)), hVn, (hE.of (fr9 24 (by simp)))⟩
            · refine mh_aload0 (pc := 64) F dX11_hill_64 ?_
              refine mh_getr (b := 25) (pc := 65) F sh_0 (by decide) fw_RX11_72_11 dX11_hill_65 rfl (fx_0_0 hF) ?_
              refine mh_getr (b := 26) (pc := 68) F sh_25 (by decide) fw_RX11_96_10 dX11_hill_68 rfl (fx_25_0 hF) ?_
              refine mh_goto (pc := 71) (tgt := 96) F dX11_hill_71 rfl ?_
              refine mh_astore4 (pc := 96) F dX11_hill_96 rfl (by decide) ?_
              refine mh_aload4 (pc := 98) F dX11_hill_98 ?_
              refine mh_iload1 (pc := 100) F dX11_hill_100 ?_
              refine mh_iaload (pc := 101) F sh_26 (by decide) (by omega) dX11_hill_101 ?_
              refine mh_istore5 (pc := 102) F dX11_hill_102 rfl (by decide) ?_
              refine mh_aload4 (pc := 104) F dX11_hill_104 ?_
              refine mh_iload1 (pc := 106) F dX11_hill_106 ?_
              refine mh_iload3 (pc := 107) F dX11_hill_107 ?_
              refine mh_iastore (pc := 108) F sh_26 (by decide) (by omega) dX11_hill_108 ?_
              refine mh_nmh (fun h10 e10 => ?_)
              have F10 : mh_FX h10 := by rw [e10]; exact hF.upa rfl
              have fr10 : mh_fr [26] h h10 := mh_fr.up mh_fr.rf e10
              have hVn : sc_V h10 (mh_ur s (6 + 3 * a + w) v) := sc_V_hill hV (by omega) (by omega) (by rw [show (26 + w.toNat : Nat) = 26 by omega]; exact e10)
              refine mh_iload5 (pc := 109) F dX11_hill_109 ?_
              refine mh_top (y := s (6 + 3 * a + w)) (mh_eqI (by rcases (show w = 0 ∨ w = 1 ∨ w = 2 by omega) with z | z | z <;> subst z <;> first | exact hLx.1 | exact hLx.2.1 | exact hLx.2.2 | (exfalso; omega))) ?_
              exact mh_ireturn F Z dX11_hill_111 ⟨_, _, _, (by unfold sp_hill; (repeat' split) <;> first | rfl | (exfalso; omega)), rfl, F10, (fr10.mono (by simp)), hVn, (hE.of (fr10 24 (by simp)))⟩
          · refine mh_aload0 (pc := 54) F dX11_hill_54 ?_
            refine mh_iconst (pc := 55) F dX11_hill_55 ?_
            refine mh_callV0 (pc := 56) (As := [.int (Int32.ofInt (3))]) (st := []) F (by omega) (k8_refuse (by omega) hF rfl (by decide)) wv_RX11_90_yX11_refuse dX11_hill_56 sh_0 rfl (by decide) rfl rfl (Nat.le_of_ble_eq_true rfl) ⟨Nat.zero_le _, Nat.zero_le _⟩ (fun r11 h11 q11 => ?_)
            obtain ⟨rfl, F11, fr11, q11_0⟩ := q11
            have fr12 : mh_fr [24] h h11 := (mh_fr.tr mh_fr.rf fr11).mono (by simp)
            have hVr : sc_V h11 s := sc_V_fr hV (fun a a1 a2 a3 a4 => fr11 a (by simp; omega))
            have hEr : sc_E h11 (mh_ur er 3 (er 3 + 1)) := hE.up (by decide) q11_0
            exact mh_ireturn F Z dX11_hill_59 ⟨_, _, _, (by unfold sp_hill; (repeat' split) <;> first | rfl | (exfalso; omega)), rfl, F11, (fr12.mono (by simp)), hVr, hEr⟩
      · refine mh_aload0 (pc := 31) F dX11_hill_31 ?_
        refine mh_iconst (pc := 32) F dX11_hill_32 ?_
        refine mh_callV0 (pc := 33) (As := [.int (Int32.ofInt (1))]) (st := []) F (by omega) (k8_refuse (by omega) hF rfl (by decide)) wv_RX11_90_yX11_refuse dX11_hill_33 sh_0 rfl (by decide) rfl rfl (Nat.le_of_ble_eq_true rfl) ⟨Nat.zero_le _, Nat.zero_le _⟩ (fun r13 h13 q13 => ?_)
        obtain ⟨rfl, F13, fr13, q13_0⟩ := q13
        have fr14 : mh_fr [24] h h13 := (mh_fr.tr mh_fr.rf fr13).mono (by simp)
        have hVr : sc_V h13 s := sc_V_fr hV (fun a a1 a2 a3 a4 => fr13 a (by simp; omega))
        have hEr : sc_E h13 (mh_ur er 1 (er 1 + 1)) := hE.up (by decide) q13_0
        exact mh_ireturn F Z dX11_hill_36 ⟨_, _, _, (by unfold sp_hill; (repeat' split) <;> first | rfl | (exfalso; omega)), rfl, F13, (fr14.mono (by simp)), hVr, hEr⟩

set_option maxRecDepth 100000 in
set_option maxHeartbeats 2000000 in
theorem q_ofHill {g : mh_G} {d : Nat} (hd : 16 ≤ d) {h : Nat → Int → Int} (hF : mh_FX h) {s er : Int → Int} {a w : Int} (ha : -2147483648 ≤ a ∧ a < 2147483648) (hw : -2147483648 ≤ w ∧ w < 2147483648) (hi : sp_inv s) (hV : sc_V h s) (hE : sc_E h er) (hKN : sc_KN h) : mh_M g d yX11_ofHill cX11_ofHill 3 (some .int) 96 0 0 [.ref 0, .int (Int32.ofInt (a)), .int (Int32.ofInt (w))] h (fun r h2 => ∃ (vv : Int) (tt ee : Int → Int), (vv, tt, ee) = sp_ofHill a w s er ∧ r = some (.int (Int32.ofInt vv)) ∧ mh_FX h2 ∧ mh_fr [25, 36, 41, 44, 45, 46, 47, 48, 49, 24] h h2 ∧ sc_V h2 tt ∧ sc_E h2 ee) := by
  refine mh_M_of RX11 rfl (by decide +kernel) [some (.ref 0), some (.int (Int32.ofInt (a))), some (.int (Int32.ofInt (w)))] rfl (Nat.le_of_ble_eq_true rfl) (fun f F Z hn0 hR => ?_)
  have hm := hi.1
  have hq0 := hi.2.1
  have hs1 := hi.2.2.1
  have hh := hi.2.2.2.1
  obtain ⟨n6, n7, n8, n10, n14, n15⟩ := hV.2.2
  refine mh_iload1 (pc := 0) F dX11_ofHill_0 ?_
  refine mh_iconst (pc := 1) F dX11_ofHill_1 ?_
  refine mh_bipush (pc := 2) F dX11_ofHill_2 rfl ?_
  refine mh_callSp (pc := 4) (As := [.int (Int32.ofInt (a)), .int (Int32.ofInt (0)), .int (Int32.ofInt (8))]) (st := []) F (by omega) (k4_within (by omega) (by omega) (by omega) (by omega)) ws_RX11_82 dX11_ofHill_4 rfl rfl (Nat.le_of_ble_eq_true rfl) ⟨Nat.zero_le _, Nat.zero_le _⟩ ?_
  refine mh_ifb_ne (pc := 7) (tgt := 16) F dX11_ofHill_7 rfl (fun c_7 => ?_) (fun c_7 => ?_)
  · have hLx : h 26 (a) = s (6 + 3 * (a) + 0) ∧ h 27 (a) = s (6 + 3 * (a) + 1) ∧ h 28 (a) = s (6 + 3 * (a) + 2) := hV.1.1 (a) (by omega) (by omega)
    refine mh_iload2 (pc := 16) F dX11_ofHill_16 ?_
    by_cases c_17_0 : w = 0
    · refine mh_tabIn (pc := 17) (off := 35) (tgt := 52) F dX11_ofHill_17 (by omega) (by omega) (by omega) (by rw [c_17_0]; rfl) rfl ?_
      refine mh_aload0 (pc := 52) F dX11_ofHill_52 ?_
      refine mh_getr (b := 25) (pc := 53) F sh_0 (by decide) fw_RX11_72_11 dX11_ofHill_53 rfl (fx_0_0 hF) ?_
      refine mh_getr (b := 26) (pc := 56) F sh_25 (by decide) fw_RX11_96_10 dX11_ofHill_56 rfl (fx_25_0 hF) ?_
      refine mh_iload1 (pc := 59) F dX11_ofHill_59 ?_
      refine mh_iaload (pc := 60) F sh_26 (by decide) (by omega) dX11_ofHill_60 ?_
      refine mh_top (y := s (6 + 3 * a + w)) (mh_eqI (by subst c_17_0; exact hLx.1)) ?_
      exact mh_ireturn F Z dX11_ofHill_61 ⟨_, _, _, (by unfold sp_ofHill; (repeat' split) <;> first | rfl | (exfalso; omega)), rfl, hF, (mh_fr.rf.mono (by simp)), hV, hE⟩
    by_cases c_17_1 : w = 1
    · refine mh_tabIn (pc := 17) (off := 45) (tgt := 62) F dX11_ofHill_17 (by omega) (by omega) (by omega) (by rw [c_17_1]; rfl) rfl ?_
      refine mh_aload0 (pc := 62) F dX11_ofHill_62 ?_
      refine mh_getr (b := 25) (pc := 63) F sh_0 (by decide) fw_RX11_72_11 dX11_ofHill_63 rfl (fx_0_0 hF) ?_
      refine mh_getr (b := 27) (pc := 66) F sh_25 (by decide) fw_RX11_99_10 dX11_ofHill_66 rfl (fx_25_1 hF) ?_
      refine mh_iload1 (pc := 69) F dX11_ofHill_69 ?_
      refine mh_iaload (pc := 70) F sh_27 (by decide) (by omega) dX11_ofHill_70 ?_
      refine mh_top (y := s (6 + 3 * a + w)) (mh_eqI (by subst c_17_1; exact hLx.2.1)) ?_
      exact mh_ireturn F Z dX11_ofHill_71 ⟨_, _, _, (by unfold sp_ofHill; (repeat' split) <;> first | rfl | (exfalso; omega)), rfl, hF, (mh_fr.rf.mono (by simp)), hV, hE⟩
    by_cases c_17_2 : w = 2
    · refine mh_tabIn (pc := 17) (off := 55) (tgt := 72) F dX11_ofHill_17 (by omega) (by omega) (by omega) (by rw [c_17_2]; rfl) rfl ?_
      refine mh_aload0 (pc := 72) F dX11_ofHill_72 ?_
      refine mh_getr (b := 25) (pc := 73) F sh_0 (by decide) fw_RX11_72_11 dX11_ofHill_73 rfl (fx_0_0 hF) ?_
      refine mh_getr (b := 28) (pc := 76) F sh_25 (by decide) fw_RX11_102_10 dX11_ofHill_76 rfl (fx_25_2 hF) ?_
      refine mh_iload1 (pc := 79) F dX11_ofHill_79 ?_
      refine mh_iaload (pc := 80) F sh_28 (by decide) (by omega) dX11_ofHill_80 ?_
      refine mh_top (y := s (6 + 3 * a + w)) (mh_eqI (by subst c_17_2; exact hLx.2.2)) ?_
      exact mh_ireturn F Z dX11_ofHill_81 ⟨_, _, _, (by unfold sp_ofHill; (repeat' split) <;> first | rfl | (exfalso; omega)), rfl, hF, (mh_fr.rf.mono (by simp)), hV, hE⟩
    by_cases c_17_3 : w = 3
    · refine mh_tabIn (pc := 17) (off := 65) (tgt := 82) F dX11_ofHill_17 (by omega) (by omega) (by omega) (by rw [c_17_3]; rfl) rfl ?_
      refine mh_aload0 (pc := 82) F dX11_ofHill_82 ?_
      refine mh_getr (b := 25) (pc := 83) F sh_0 (by decide) fw_RX11_72_11 dX11_ofHill_83 rfl (fx_0_0 hF) ?_
      refine mh_iload1 (pc := 86) F dX11_ofHill_86 ?_
      refine mh_callVp (pc := 87) (As := [.int (Int32.ofInt (a))]) (st := []) F (by omega) (k4_inBrook (by omega) hF hV.2.1 hV.2.2 (by omega) hi.2.2.2.2.1 (by omega)) wv_RX11_93_yX10_inBrook dX11_ofHill_87 sh_25 rfl (by decide) rfl rfl (Nat.le_of_ble_eq_true rfl) ⟨Nat.zero_le _, Nat.zero_le _⟩ ?_
      exact mh_ireturn F Z dX11_ofHill_90 ⟨_, _, _, (by unfold sp_ofHill; (repeat' split) <;> first | rfl | (exfalso; omega)), rfl, hF, (mh_fr.rf.mono (by simp)), hV, hE⟩
    by_cases c_17_4 : w = 4
    · refine mh_tabIn (pc := 17) (off := 74) (tgt := 91) F dX11_ofHill_17 (by omega) (by omega) (by omega) (by rw [c_17_4]; rfl) rfl ?_
      refine mh_aload0 (pc := 91) F dX11_ofHill_91 ?_
      refine mh_getr (b := 25) (pc := 92) F sh_0 (by decide) fw_RX11_72_11 dX11_ofHill_92 rfl (fx_0_0 hF) ?_
      refine mh_iload1 (pc := 95) F dX11_ofHill_95 ?_
      refine mh_aload0 (pc := 96) F dX11_ofHill_96 ?_
      refine mh_getr (b := 25) (pc := 97) F sh_0 (by decide) fw_RX11_72_11 dX11_ofHill_97 rfl (fx_0_0 hF) ?_
      refine mh_geti (pc := 100) F sh_25 (by decide) fw_RX11_105_10 dX11_ofHill_100 rfl ?_
      refine mh_callV0 (pc := 103) (As := [.int (Int32.ofInt (a)), .int (Int32.ofInt (h 25 7))]) (st := []) F (by omega) (k4_warm (by omega) hF hV.1 (by omega) (by omega) hh) wv_RX11_109_yX10_warm dX11_ofHill_103 sh_25 rfl (by decide) rfl rfl (Nat.le_of_ble_eq_true rfl) ⟨Nat.zero_le _, Nat.zero_le _⟩ (fun r1 h1 q1 => ?_)
      obtain ⟨rfl, F1, fr1⟩ := q1
      have fr2 : mh_fr [36] h h1 := (mh_fr.tr mh_fr.rf fr1).mono (by simp)
      refine mh_top (y := sp_warm s a (h 25 7)) (mh_eqI (if_pos (by omega))) ?_
      have hwm : 0 ≤ sp_warm s a (h 25 7) ∧ sp_warm s a (h 25 7) ≤ 40 := sp_law_rg0
      refine mh_top (y := sp_warm s a (s 0)) (mh_eqI (by rw [n7])) ?_
      exact mh_ireturn F Z dX11_ofHill_106 ⟨_, _, _, (by unfold sp_ofHill; (repeat' split) <;> first | rfl | (exfalso; omega)), rfl, F1, (fr2.mono (by simp)), (sc_V_fr hV (fun a a1 a2 a3 a4 => fr2 a (by simp; omega))), (hE.of (fr2 24 (by simp)))⟩
    refine mh_tabOut (pc := 17) (tgt := 107) F dX11_ofHill_17 (by omega) (by omega) rfl ?_
    refine mh_aload0 (pc := 107) F dX11_ofHill_107 ?_
    refine mh_iconst (pc := 108) F dX11_ofHill_108 ?_
    refine mh_callV0 (pc := 109) (As := [.int (Int32.ofInt (1))]) (st := []) F (by omega) (k8_refuse (by omega) hF rfl (by decide)) wv_RX11_90_yX11_refuse dX11_ofHill_109 sh_0 rfl (by decide) rfl rfl (Nat.le_of_ble_eq_true rfl) ⟨Nat.zero_le _, Nat.zero_le _⟩ (fun r3 h3 q3 => ?_)
    obtain ⟨rfl, F3, fr3, q3_0⟩ := q3
    have fr4 : mh_fr [24] h h3 := (mh_fr.tr mh_fr.rf fr3).mono (by simp)
    have hVr : sc_V h3 s := sc_V_fr hV (fun a a1 a2 a3 a4 => fr3 a (by simp; omega))
    have hEr : sc_E h3 (mh_ur er 1 (er 1 + 1)) := hE.up (by decide) q3_0
    exact mh_ireturn F Z dX11_ofHill_112 ⟨_, _, _, (by unfold sp_ofHill; (repeat' split) <;> first | rfl | (exfalso; omega)), rfl, F3, (fr4.mono (by simp)), hVr, hEr⟩
  · refine mh_aload0 (pc := 10) F dX11_ofHill_10 ?_
    refine mh_iconst (pc := 11) F dX11_ofHill_11 ?_
    refine mh_callV0 (pc := 12) (As := [.int (Int32.ofInt (1))]) (st := []) F (by omega) (k8_refuse (by omega) hF rfl (by decide)) wv_RX11_90_yX11_refuse dX11_ofHill_12 sh_0 rfl (by decide) rfl rfl (Nat.le_of_ble_eq_true rfl) ⟨Nat.zero_le _, Nat.zero_le _⟩ (fun r5 h5 q5 => ?_)
    obtain ⟨rfl, F5, fr5, q5_0⟩ := q5
    have fr6 : mh_fr [24] h h5 := (mh_fr.tr mh_fr.rf fr5).mono (by simp)
    have hVr : sc_V h5 s := sc_V_fr hV (fun a a1 a2 a3 a4 => fr5 a (by simp; omega))
    have hEr : sc_E h5 (mh_ur er 1 (er 1 + 1)) := hE.up (by decide) q5_0
    exact mh_ireturn F Z dX11_ofHill_15 ⟨_, _, _, (by unfold sp_ofHill; (repeat' split) <;> first | rfl | (exfalso; omega)), rfl, F5, (fr6.mono (by simp)), hVr, hEr⟩

set_option maxRecDepth 100000 in
set_option maxHeartbeats 2000000 in
theorem q_carrier {g : mh_G} {d : Nat} (hd : 16 ≤ d) {h : Nat → Int → Int} (hF : mh_FX h) {s er : Int → Int} {c p k : Int} (hc : -2147483648 ≤ c ∧ c < 2147483648) (hp : -2147483648 ≤ p ∧ p < 2147483648) (hk : -2147483648 ≤ k ∧ k < 2147483648) (hi : sp_inv s) (hV : sc_V h s) (hE : sc_E h er) (hKN : sc_KN h) : mh_M g d yX11_carrier cX11_carrier 5 (some .int) 96 0 0 [.ref 0, .int (Int32.ofInt (c)), .int (Int32.ofInt (p)), .int (Int32.ofInt (k))] h (fun r h2 => ∃ (vv : Int) (tt ee : Int → Int), (vv, tt, ee) = sp_carrier c p k s er ∧ r = some (.int (Int32.ofInt vv)) ∧ mh_FX h2 ∧ mh_fr [25, 36, 41, 44, 45, 46, 47, 48, 49, 24, 29, 30] h h2 ∧ sc_V h2 tt ∧ sc_E h2 ee) := by
  refine mh_M_of RX11 rfl (by decide +kernel) [some (.ref 0), some (.int (Int32.ofInt (c))), some (.int (Int32.ofInt (p))), some (.int (Int32.ofInt (k))), none] rfl (Nat.le_of_ble_eq_true rfl) (fun f F Z hn0 hR => ?_)
  have hm := hi.1
  have hq0 := hi.2.1
  have hs1 := hi.2.2.1
  have hh := hi.2.2.2.1
  obtain ⟨n6, n7, n8, n10, n14, n15⟩ := hV.2.2
  refine mh_iload1 (pc := 0) F dX11_carrier_0 ?_
  refine mh_callSp (pc := 1) (As := [.int (Int32.ofInt (c))]) (st := []) F (by omega) (k4_isCarrier (by omega) (by omega)) ws_RX11_113 dX11_carrier_1 rfl rfl (Nat.le_of_ble_eq_true rfl) ⟨Nat.zero_le _, Nat.zero_le _⟩ ?_
  refine mh_ifb_eq (pc := 4) (tgt := 27) F dX11_carrier_4 rfl (fun c_4 => ?_) (fun c_4 => ?_)
  · refine mh_aload0 (pc := 27) F dX11_carrier_27 ?_
    refine mh_iconst (pc := 28) F dX11_carrier_28 ?_
    refine mh_callV0 (pc := 29) (As := [.int (Int32.ofInt (1))]) (st := []) F (by omega) (k8_refuse (by omega) hF rfl (by decide)) wv_RX11_90_yX11_refuse dX11_carrier_29 sh_0 rfl (by decide) rfl rfl (Nat.le_of_ble_eq_true rfl) ⟨Nat.zero_le _, Nat.zero_le _⟩ (fun r1 h1 q1 => ?_)
    obtain ⟨rfl, F1, fr1, q1_0⟩ := q1
    have fr2 : mh_fr [24] h h1 := (mh_fr.tr mh_fr.rf fr1).mono (by simp)
    have hVr : sc_V h1 s := sc_V_fr hV (fun a a1 a2 a3 a4 => fr1 a (by simp; omega))
    have hEr : sc_E h1 (mh_ur er 1 (er 1 + 1)) := hE.up (by decide) q1_0
    exact mh_ireturn F Z dX11_carrier_32 ⟨_, _, _, (by unfold sp_carrier; (repeat' split) <;> first | rfl | (exfalso; omega)), rfl, F1, (fr2.mono (by simp)), hVr, hEr⟩
  · refine mh_iload2 (pc := 7) F dX11_carrier_7 ?_
    refine mh_iconst (pc := 8) F dX11_carrier_8 ?_
    refine mh_bipush (pc := 9) F dX11_carrier_9 rfl ?_
    refine mh_callSp (pc := 11) (As := [.int (Int32.ofInt (p)), .int (Int32.ofInt (1)), .int (Int32.ofInt (9))]) (st := []) F (by omega) (k4_within (by omega) (by omega) (by omega) (by omega)) ws_RX11_82 dX11_carrier_11 rfl rfl (Nat.le_of_ble_eq_true rfl) ⟨Nat.zero_le _, Nat.zero_le _⟩ ?_
    refine mh_ifb_eq (pc := 14) (tgt := 27) F dX11_carrier_14 rfl (fun c_14 => ?_) (fun c_14 => ?_)
    · refine mh_aload0 (pc := 27) F dX11_carrier_27 ?_
      refine mh_iconst (pc := 28) F dX11_carrier_28 ?_
      refine mh_callV0 (pc := 29) (As := [.int (Int32.ofInt (1))]) (st := []) F (by omega) (k8_refuse (by omega) hF rfl (by decide)) wv_RX11_90_yX11_refuse dX11_carrier_29 sh_0 rfl (by decide) rfl rfl (Nat.le_of_ble_eq_true rfl) ⟨Nat.zero_le _, Nat.zero_le _⟩ (fun r3 h3 q3 => ?_)
      obtain ⟨rfl, F3, fr3, q3_0⟩ := q3
      have fr4 : mh_fr [24] h h3 := (mh_fr.tr mh_fr.rf fr3).mono (by simp)
      have hVr : sc_V h3 s := sc_V_fr hV (fun a a1 a2 a3 a4 => fr3 a (by simp; omega))
      have hEr : sc_E h3 (mh_ur er 1 (er 1 + 1)) := hE.up (by decide) q3_0
      exact mh_ireturn F Z dX11_carrier_32 ⟨_, _, _, (by unfold sp_carrier; (repeat' split) <;> first | rfl | (exfalso; omega)), rfl, F3, (fr4.mono (by simp)), hVr, hEr⟩
    · refine mh_iload3 (pc := 17) F dX11_carrier_17 ?_
      refine mh_iconst (pc := 18) F dX11_carrier_18 ?_
      refine mh_bipush (pc := 19) F dX11_carrier_19 rfl ?_
      refine mh_callSp (pc := 21) (As := [.int (Int32.ofInt (k)), .int (Int32.ofInt (0)), .int (Int32.ofInt (20))]) (st := []) F (by omega) (k4_within (by omega) (by omega) (by omega) (by omega)) ws_RX11_82 dX11_carrier_21 rfl rfl (Nat.le_of_ble_eq_true rfl) ⟨Nat.zero_le _, Nat.zero_le _⟩ ?_
      refine mh_ifb_ne (pc := 24) (tgt := 33) F dX11_carrier_24 rfl (fun c_24 => ?_) (fun c_24 => ?_)
      · have hLc : h 29 c = s (33 + 2 * c) ∧ h 30 c = s (33 + 2 * c + 1) := hV.1.2.1 c (by omega) (by omega)
        refine mh_aload0 (pc := 33) F dX11_carrier_33 ?_
        refine mh_getr (b := 25) (pc := 34) F sh_0 (by decide) fw_RX11_72_11 dX11_carrier_34 rfl (fx_0_0 hF) ?_
        refine mh_getr (b := 29) (pc := 37) F sh_25 (by decide) fw_RX11_117_10 dX11_carrier_37 rfl (fx_25_3 hF) ?_
        refine mh_iload1 (pc := 40) F dX11_carrier_40 ?_
        refine mh_iaload (pc := 41) F sh_29 (by decide) (by omega) dX11_carrier_41 ?_
        refine mh_istore4 (pc := 42) F dX11_carrier_42 rfl (by decide) ?_
        refine mh_aload0 (pc := 44) F dX11_carrier_44 ?_
        refine mh_getr (b := 25) (pc := 45) F sh_0 (by decide) fw_RX11_72_11 dX11_carrier_45 rfl (fx_0_0 hF) ?_
        refine mh_getr (b := 29) (pc := 48) F sh_25 (by decide) fw_RX11_117_10 dX11_carrier_48 rfl (fx_25_3 hF) ?_
        refine mh_iload1 (pc := 51) F dX11_carrier_51 ?_
        refine mh_iload2 (pc := 52) F dX11_carrier_52 ?_
        refine mh_iastore (pc := 53) F sh_29 (by decide) (by omega) dX11_carrier_53 ?_
        refine mh_nmh (fun h5 e5 => ?_)
        have F5 : mh_FX h5 := by rw [e5]; exact hF.upa rfl
        have fr5 : mh_fr [29] h h5 := mh_fr.up mh_fr.rf e5
        refine mh_aload0 (pc := 54) F dX11_carrier_54 ?_
        refine mh_getr (b := 25) (pc := 55) F sh_0 (by decide) fw_RX11_72_11 dX11_carrier_55 rfl (fx_0_0 F5) ?_
        refine mh_getr (b := 30) (pc := 58) F sh_25 (by decide) fw_RX11_120_10 dX11_carrier_58 rfl (fx_25_4 F5) ?_
        refine mh_iload1 (pc := 61) F dX11_carrier_61 ?_
        refine mh_iload3 (pc := 62) F dX11_carrier_62 ?_
        refine mh_iastore (pc := 63) F sh_30 (by decide) (by omega) dX11_carrier_63 ?_
        refine mh_nmh (fun h6 e6 => ?_)
        have F6 : mh_FX h6 := by rw [e6]; exact F5.upa rfl
        have fr6 : mh_fr [30, 29] h h6 := mh_fr.up fr5 e6
        have hVn : sc_V h6 (mh_ur (mh_ur s (33 + 2 * c) p) (33 + 2 * c + 1) k) := sc_V_car hV (by omega) (by rw [e6, mh_up_row (by decide), e5, mh_up_rs]) (by rw [e6, mh_up_rs, e5, mh_up_row (by decide)]) (fun x x1 x2 => by rw [e6, mh_up_row x2, e5, mh_up_row x1])
        refine mh_bipush (pc := 64) F dX11_carrier_64 rfl ?_
        refine mh_iload4 (pc := 66) F dX11_carrier_66 ?_
        refine mh_imul (pc := 68) F dX11_carrier_68 ?_
        refine mh_top (y := 10 * s (33 + 2 * c)) (mh_eqI (by rw [hLc.1])) ?_
        exact mh_ireturn F Z dX11_carrier_69 ⟨_, _, _, (by unfold sp_carrier; (repeat' split) <;> first | rfl | (exfalso; omega)), rfl, F6, (fr6.mono (by simp)), hVn, (hE.of (fr6 24 (by simp)))⟩
      · refine mh_aload0 (pc := 27) F dX11_carrier_27 ?_
        refine mh_iconst (pc := 28) F dX11_carrier_28 ?_
        refine mh_callV0 (pc := 29) (As := [.int (Int32.ofInt (1))]) (st := []) F (by omega) (k8_refuse (by omega) hF rfl (by decide)) wv_RX11_90_yX11_refuse dX11_carrier_29 sh_0 rfl (by decide) rfl rfl (Nat.le_of_ble_eq_true rfl) ⟨Nat.zero_le _, Nat.zero_le _⟩ (fun r7 h7 q7 => ?_)
        obtain ⟨rfl, F7, fr7, q7_0⟩ := q7
        have fr8 : mh_fr [24] h h7 := (mh_fr.tr mh_fr.rf fr7).mono (by simp)
        have hVr : sc_V h7 s := sc_V_fr hV (fun a a1 a2 a3 a4 => fr7 a (by simp; omega))
        have hEr : sc_E h7 (mh_ur er 1 (er 1 + 1)) := hE.up (by decide) q7_0
        exact mh_ireturn F Z dX11_carrier_32 ⟨_, _, _, (by unfold sp_carrier; (repeat' split) <;> first | rfl | (exfalso; omega)), rfl, F7, (fr8.mono (by simp)), hVr, hEr⟩

set_option maxRecDepth 100000 in
set_option maxHeartbeats 2000000 in
theorem q_ofChurn {g : mh_G} {d : Nat} (hd : 16 ≤ d) {h : Nat → Int → Int} (hF : mh_FX h) {s er : Int → Int} {k w : Int} (hk : -2147483648 ≤ k ∧ k < 2147483648) (hw : -2147483648 ≤ w ∧ w < 2147483648) (hi : sp_inv s) (hV : sc_V h s) (hE : sc_E h er) (hKN : sc_KN h) : mh_M g d yX11_ofChurn cX11_ofChurn 3 (some .int) 96 0 0 [.ref 0, .int (Int32.ofInt (k)), .int (Int32.ofInt (w))] h (fun r h2 => ∃ (vv : Int) (tt ee : Int → Int), (vv, tt, ee) = sp_ofChurn k w s er ∧ r = some (.int (Int32.ofInt vv)) ∧ mh_FX h2 ∧ mh_fr [25, 36, 41, 44, 45, 46, 47, 48, 49, 24] h h2 ∧ sc_V h2 tt ∧ sc_E h2 ee) := by
  refine mh_M_of RX11 rfl (by decide +kernel) [some (.ref 0), some (.int (Int32.ofInt (k))), some (.int (Int32.ofInt (w)))] rfl (Nat.le_of_ble_eq_true rfl) (fun f F Z hn0 hR => ?_)
  have hm := hi.1
  have hq0 := hi.2.1
  have hs1 := hi.2.2.1
  have hh := hi.2.2.2.1
  obtain ⟨n6, n7, n8, n10, n14, n15⟩ := hV.2.2
  refine mh_aload0 (pc := 0) F dX11_ofChurn_0 ?_
  refine mh_iload1 (pc := 1) F dX11_ofChurn_1 ?_
  refine mh_callVp (pc := 2) (As := [.int (Int32.ofInt (k))]) (st := []) F (by omega) (k8_isChurn (by omega) hF (by omega) hV.2.2 (by omega)) wv_RX11_139_yX11_isChurn dX11_ofChurn_2 sh_0 rfl (by decide) rfl rfl (Nat.le_of_ble_eq_true rfl) ⟨Nat.zero_le _, Nat.zero_le _⟩ ?_
  refine mh_ifb_eq (pc := 5) (tgt := 18) F dX11_ofChurn_5 rfl (fun c_5 => ?_) (fun c_5 => ?_)
  · refine mh_aload0 (pc := 18) F dX11_ofChurn_18 ?_
    refine mh_iconst (pc := 19) F dX11_ofChurn_19 ?_
    refine mh_callV0 (pc := 20) (As := [.int (Int32.ofInt (1))]) (st := []) F (by omega) (k8_refuse (by omega) hF rfl (by decide)) wv_RX11_90_yX11_refuse dX11_ofChurn_20 sh_0 rfl (by decide) rfl rfl (Nat.le_of_ble_eq_true rfl) ⟨Nat.zero_le _, Nat.zero_le _⟩ (fun r1 h1 q1 => ?_)
    obtain ⟨rfl, F1, fr1, q1_0⟩ := q1
    have fr2 : mh_fr [24] h h1 := (mh_fr.tr mh_fr.rf fr1).mono (by simp)
    have hVr : sc_V h1 s := sc_V_fr hV (fun a a1 a2 a3 a4 => fr1 a (by simp; omega))
    have hEr : sc_E h1 (mh_ur er 1 (er 1 + 1)) := hE.up (by decide) q1_0
    exact mh_ireturn F Z dX11_ofChurn_23 ⟨_, _, _, (by unfold sp_ofChurn; (repeat' split) <;> first | rfl | (exfalso; omega)), rfl, F1, (fr2.mono (by simp)), hVr, hEr⟩
  · refine mh_iload2 (pc := 8) F dX11_ofChurn_8 ?_
    refine mh_iconst (pc := 9) F dX11_ofChurn_9 ?_
    refine mh_bipush (pc := 10) F dX11_ofChurn_10 rfl ?_
    refine mh_callSp (pc := 12) (As := [.int (Int32.ofInt (w)), .int (Int32.ofInt (0)), .int (Int32.ofInt (9))]) (st := []) F (by omega) (k4_within (by omega) (by omega) (by omega) (by omega)) ws_RX11_82 dX11_ofChurn_12 rfl rfl (Nat.le_of_ble_eq_true rfl) ⟨Nat.zero_le _, Nat.zero_le _⟩ ?_
    refine mh_ifb_ne (pc := 15) (tgt := 24) F dX11_ofChurn_15 rfl (fun c_15 => ?_) (fun c_15 => ?_)
    · have hkk : 0 ≤ k ∧ k < 6 := by omega
      have zAk := sc_Aj hkk
      have hcs : sc_is (h (44 + k.toNat)) (sp_row s k) k := hV.2.1 k hkk.1 hkk.2
      have hcr := hi.2.2.2.2.1 k hkk.1 hkk.2
      have hco := hcs.ok hcr
      obtain ⟨d0, d1, d2, d3, d4, d5, d6, d7, d8, d9⟩ := id hcs
      unfold sp_row at d1 d2 d3 d4 d5 d6 d7 d8 d9
      obtain ⟨c0, c1, c2, c3, c4, c5, c6, c7, c8, c9, c10, c11, c12, c13⟩ := id hcr
      unfold sp_row at c0 c1 c2 c3 c4 c5 c6 c7 c8 c9 c10 c11 c12 c13
      have hcA := zAk.rg
      refine mh_aload0 (pc := 24) F dX11_ofChurn_24 ?_
      refine mh_getr (b := 25) (pc := 25) F sh_0 (by decide) fw_RX11_72_11 dX11_ofChurn_25 rfl (fx_0_0 hF) ?_
      refine mh_getr (b := 31) (pc := 28) F sh_25 (by decide) fw_RX11_126_10 dX11_ofChurn_28 rfl (fx_25_5 hF) ?_
      refine mh_iload1 (pc := 31) F dX11_ofChurn_31 ?_
      refine mh_aaload (b := 44 + (k).toNat) (pc := 32) F sh_31 (by decide) (by decide) (by omega) dX11_ofChurn_32 (fx_31 hF (by omega)) ?_
      refine mh_iload2 (pc := 33) F dX11_ofChurn_33 ?_
      refine mh_callVp (pc := 34) (As := [.int (Int32.ofInt (w))]) (st := []) F (by omega) (k0_answer (by omega) hF rfl zAk hco (by omega) hKN) wv_RX11_142_yX0_answer dX11_ofChurn_34 zAk.sh rfl zAk.lt rfl rfl (Nat.le_of_ble_eq_true rfl) ⟨Nat.zero_le _, Nat.zero_le _⟩ ?_
      refine mh_top (y := sp_told s k w) (mh_eqI (hcs.an hcr (by omega))) ?_
      exact mh_ireturn F Z dX11_ofChurn_37 ⟨_, _, _, (by unfold sp_ofChurn; (repeat' split) <;> first | rfl | (exfalso; omega)), rfl, hF, (mh_fr.rf.mono (by simp)), hV, hE⟩
    · refine mh_aload0 (pc := 18) F dX11_ofChurn_18 ?_
      refine mh_iconst (pc := 19) F dX11_ofChurn_19 ?_
      refine mh_callV0 (pc := 20) (As := [.int (Int32.ofInt (1))]) (st := []) F (by omega) (k8_refuse (by omega) hF rfl (by decide)) wv_RX11_90_yX11_refuse dX11_ofChurn_20 sh_0 rfl (by decide) rfl rfl (Nat.le_of_ble_eq_true rfl) ⟨Nat.zero_le _, Nat.zero_le _⟩ (fun r3 h3 q3 => ?_)
      obtain ⟨rfl, F3, fr3, q3_0⟩ := q3
      have fr4 : mh_fr [24] h h3 := (mh_fr.tr mh_fr.rf fr3).mono (by simp)
      have hVr : sc_V h3 s := sc_V_fr hV (fun a a1 a2 a3 a4 => fr3 a (by simp; omega))
      have hEr : sc_E h3 (mh_ur er 1 (er 1 + 1)) := hE.up (by decide) q3_0
      exact mh_ireturn F Z dX11_ofChurn_23 ⟨_, _, _, (by unfold sp_ofChurn; (repeat' split) <;> first | rfl | (exfalso; omega)), rfl, F3, (fr4.mono (by simp)), hVr, hEr⟩

set_option maxRecDepth 100000 in
set_option maxHeartbeats 2000000 in
theorem q_law0 {g : mh_G} {d : Nat} (hd : 16 ≤ d) {h : Nat → Int → Int} (hF : mh_FX h) {s er : Int → Int} {x : Int} (hx : -2147483648 ≤ x ∧ x < 2147483648) (hi : sp_inv s) (hV : sc_V h s) (hE : sc_E h er) (hKN : sc_KN h) : mh_M g d yX11_told cX11_told 2 (some .int) 96 0 0 [.ref 0, .int (Int32.ofInt (x))] h (fun r h2 => ∃ (vv : Int) (tt ee : Int → Int), (vv, tt, ee) = sp_toldP x s er ∧ r = some (.int (Int32.ofInt vv)) ∧ mh_FX h2 ∧ mh_fr [25, 36, 41, 44, 45, 46, 47, 48, 49, 24] h h2 ∧ sc_V h2 tt ∧ sc_E h2 ee) := by
  refine mh_M_of RX11 rfl (by decide +kernel) [some (.ref 0), some (.int (Int32.ofInt (x)))] rfl (Nat.le_of_ble_eq_true rfl) (fun f F Z hn0 hR => ?_)
  have hm := hi.1
  have hq0 := hi.2.1
  have hs1 := hi.2.2.1
  have hh := hi.2.2.2.1
  obtain ⟨n6, n7, n8, n10, n14, n15⟩ := hV.2.2
  refine mh_iload1 (pc := 0) F dX11_told_0 ?_
  refine mh_iconst (pc := 1) F dX11_told_1 ?_
  refine mh_iconst (pc := 2) F dX11_told_2 ?_
  refine mh_callSp (pc := 3) (As := [.int (Int32.ofInt (x)), .int (Int32.ofInt (1)), .int (Int32.ofInt (5))]) (st := []) F (by omega) (k4_within (by omega) (by omega) (by omega) (by omega)) ws_RX11_82 dX11_told_3 rfl rfl (Nat.le_of_ble_eq_true rfl) ⟨Nat.zero_le _, Nat.zero_le _⟩ ?_
  refine mh_ifb_ne (pc := 6) (tgt := 15) F dX11_told_6 rfl (fun c_6 => ?_) (fun c_6 => ?_)
  · refine mh_aload0 (pc := 15) F dX11_told_15 ?_
    refine mh_getr (b := 24) (pc := 16) F sh_0 (by decide) fw_RX11_64_11 dX11_told_16 rfl (fx_0_10 hF) ?_
    refine mh_iload1 (pc := 19) F dX11_told_19 ?_
    refine mh_iaload (pc := 20) F sh_24 (by decide) (by omega) dX11_told_20 ?_
    refine mh_top (y := er x) (mh_eqI (hE x (by omega) (by omega))) ?_
    exact mh_ireturn F Z dX11_told_21 ⟨_, _, _, (by unfold sp_toldP; (repeat' split) <;> first | rfl | (exfalso; omega)), rfl, hF, (mh_fr.rf.mono (by simp)), hV, hE⟩
  · refine mh_aload0 (pc := 9) F dX11_told_9 ?_
    refine mh_iconst (pc := 10) F dX11_told_10 ?_
    refine mh_callV0 (pc := 11) (As := [.int (Int32.ofInt (1))]) (st := []) F (by omega) (k8_refuse (by omega) hF rfl (by decide)) wv_RX11_90_yX11_refuse dX11_told_11 sh_0 rfl (by decide) rfl rfl (Nat.le_of_ble_eq_true rfl) ⟨Nat.zero_le _, Nat.zero_le _⟩ (fun r1 h1 q1 => ?_)
    obtain ⟨rfl, F1, fr1, q1_0⟩ := q1
    have fr2 : mh_fr [24] h h1 := (mh_fr.tr mh_fr.rf fr1).mono (by simp)
    have hVr : sc_V h1 s := sc_V_fr hV (fun a a1 a2 a3 a4 => fr1 a (by simp; omega))
    have hEr : sc_E h1 (mh_ur er 1 (er 1 + 1)) := hE.up (by decide) q1_0
    exact mh_ireturn F Z dX11_told_14 ⟨_, _, _, (by unfold sp_toldP; (repeat' split) <;> first | rfl | (exfalso; omega)), rfl, F1, (fr2.mono (by simp)), hVr, hEr⟩

