/-! relays: the choices along the way -/
def sc_wn (s wm : Int → Int) (k n a t x : Int) : Prop := (0 ≤ t ∧ t ≤ n) ∧ (0 ≤ x ∧ x < 60) ∧ (sc_H s wm k n a t x).1 < 126
theorem sc_wn_st {s wm : Int → Int} {k n a t x : Int} (hk : 0 ≤ k ∧ k < 6) (hi : sp_inv s) (hn : 0 ≤ n ∧ n ≤ 60) (ha : 0 ≤ a ∧ a < 8) (hwm : sp_wmr wm) (h : sc_wn s wm k n a t x) :
    ∃ b c, 0 ≤ b ∧ b < 3 ∧ 0 ≤ c ∧ c < 4 ∧ (sc_H s wm k n a t x).2 = 10 * b + c ∧ sc_wn s wm k n (a + 1) (t + (b + s (33 + 2 * c))) (sp_then s k x c) := by
  obtain ⟨h1, h2, h3⟩ := h
  unfold sc_H at h3
  rcases sp_lf_way (s := s) (wm := wm) (T := sp_tab s wm k n (8 - a).toNat) (k := k) (n := n) (a := a) (t := t) (x := x) 12 (by decide) with q | ⟨b, c, b0, b1, c0, c1, e1, e2⟩
  · omega
  · rw [e2] at h3
    have q := sp_lby_on hk hi hn ⟨ha.1, by omega⟩ (by omega) h2 ⟨b0, b1⟩ ⟨c0, c1⟩ hwm (show sp_lby s wm (sp_tab s wm k n (8 - a).toNat) k n a t x b c < 1000000 by omega)
    refine ⟨b, c, b0, b1, c0, c1, e1, ⟨by omega, by omega⟩, ⟨q.2.2.1, q.2.2.2.1⟩, ?_⟩
    have hL := sc_H_L (s := s) (wm := wm) (k := k) (n := n) (a := a + 1) (t := t + b + s (33 + 2 * c)) (x := sp_then s k x c) (by omega) (by omega) ⟨q.2.2.1, q.2.2.2.1⟩
    rw [show (9 - (a + 1)).toNat = (8 - a).toNat by omega] at hL
    rw [show t + (b + s (33 + 2 * c)) = t + b + s (33 + 2 * c) by omega, ← hL]
    have hpc := (hi.2.2.2.1.2 c c0 c1).1
    have hw1 := (hwm a t ha.1 (by omega) h1.1 (by omega)).2.1 (t + b) (by omega) (by omega)
    have hw2 := (hwm a (t + b) ha.1 (by omega) (by omega) (by omega)).2.1 (t + b + s (33 + 2 * c)) (by omega) (by omega)
    unfold sp_lby sp_lbr at h3
    rw [if_neg (by omega)] at h3
    split at h3 <;> omega
theorem sc_wn_0 {s wm : Int → Int} {k n : Int} (hm : 0 ≤ s (41 + 9 * k + 1) ∧ s (41 + 9 * k + 1) ≤ 9) (hn : 0 ≤ n) (h2 : 0 ≤ s (41 + 9 * k + 2) ∧ s (41 + 9 * k + 2) ≤ 8) (h5 : 0 ≤ s (41 + 9 * k + 5)) (h6 : 0 ≤ s (41 + 9 * k + 6) ∧ s (41 + 9 * k + 6) < 60) (h : sp_rel s wm k n ≠ 1000000) : sc_wn s wm k n (s (41 + 9 * k + 2)) 0 (s (41 + 9 * k + 6)) := by
  have ht := sp_turns_rg (k := s (41 + 9 * k + 0)) hm
  unfold sp_rel at h
  refine ⟨by omega, h6, ?_⟩
  rw [← sc_H_L h2 (by omega) h6]
  split at h
  · omega
  · exact absurd rfl h
theorem sc_wys1 {s wm : Int → Int} {k n a t x b c : Int} (ha : s (41 + 9 * k + 2) ≤ a) (hb : 0 ≤ b) (hc : 0 ≤ c ∧ c < 4) (ht : t = (sp_wys s wm k n (a - s (41 + 9 * k + 2)).toNat).1) (hx : x = (sp_wys s wm k n (a - s (41 + 9 * k + 2)).toNat).2.1) (hH : (sc_H s wm k n a t x).2 = 10 * b + c) :
    t + (b + s (33 + 2 * c)) = (sp_wys s wm k n (a + 1 - s (41 + 9 * k + 2)).toNat).1 ∧ sp_then s k x c = (sp_wys s wm k n (a + 1 - s (41 + 9 * k + 2)).toNat).2.1 := by
  have hb10 : (10 * b + c).tdiv 10 = b := by rw [Int.tdiv_eq_ediv_of_nonneg (by omega)]; omega
  have hc10 : (10 * b + c).tmod 10 = c := by rw [Int.tmod_eq_emod_of_nonneg (by omega)]; omega
  unfold sc_H at hH
  rw [sp_wys_at s wm k n ha]
  unfold sp_wstep
  rw [← ht, ← hx, hH, hb10, hc10]
  exact ⟨rfl, rfl⟩
theorem sc_way_H {s wm : Int → Int} {k n z t x : Int} (hz : s (41 + 9 * k + 2) ≤ z) (ht : t = (sp_wys s wm k n (z - s (41 + 9 * k + 2)).toNat).1) (hx : x = (sp_wys s wm k n (z - s (41 + 9 * k + 2)).toNat).2.1) : (sc_H s wm k n z t x).2 = sp_way s wm k n z := by
  unfold sp_way
  rw [sp_wys_at s wm k n hz]
  unfold sp_wstep
  rw [← ht, ← hx]; rfl
theorem sc_next {u s wm : Int → Int} {k n f a t x b c : Int} (hb : 0 ≤ b) (hc : 0 ≤ c ∧ c < 4) (h : sc_at u s wm k n a t x) (hL : (sc_H s wm k n a t x).1 < 126) (hH : (sc_H s wm k n a t x).2 = 10 * b + c) (ha : a < 8) : u ((a + 1) * 3660 + (t + (b + s (33 + 2 * c))) * 60 + sp_then s k x c) ≠ 0 := by
  have hb10 : (10 * b + c).tdiv 10 = b := by rw [Int.tdiv_eq_ediv_of_nonneg (by omega)]; omega
  have hc10 : (10 * b + c).tmod 10 = c := by rw [Int.tmod_eq_emod_of_nonneg (by omega)]; omega
  have q := h.2 hL ha
  rw [hH, hb10, hc10, show t + b + s (33 + 2 * c) = t + (b + s (33 + 2 * c)) by omega] at q
  exact q
set_option maxRecDepth 100000 in
set_option maxHeartbeats 2000000 in
theorem k_first {g : mh_G} {d : Nat} (hd : 4 ≤ d) {h : Nat → Int → Int} (hF : mh_FX h) {s wm : Int → Int} {k n a t x : Int} (hk : 0 ≤ k ∧ k < 6) (hi : sp_inv s) (hn : 0 ≤ n ∧ n ≤ 60) (hwm : sp_wmr wm) (ha : 0 ≤ a ∧ a ≤ 8) (ht : 0 ≤ t ∧ t ≤ n) (hx : 0 ≤ x ∧ x < 60) (hat : sc_at (sc_fv (h 11)) s wm k n a t x) (hL : (sc_H s wm k n a t x).1 < 126) (hrow : sc_lo (h 11 ((a * 3660 + t * 60 + x) / 5))) : mh_MP g d yX6_firstChoice cX6_firstChoice 6 (some .int) 96 [.ref 10, .int (Int32.ofInt (a)), .int (Int32.ofInt (t)), .int (Int32.ofInt (x))] h (some (.int (Int32.ofInt ((sc_H s wm k n a t x).2)))) := by
  refine mh_M_of RX6 rfl (by decide +kernel) [some (.ref 10), some (.int (Int32.ofInt (a))), some (.int (Int32.ofInt (t))), some (.int (Int32.ofInt (x))), none, none] rfl (Nat.le_of_ble_eq_true rfl) (fun f F Z hn0 hR => ?_)
  have hM1 := sc_M1_rg (s := s) (wm := wm) (k := k) (n := n) (a := a) (t := t) (x := x) hk hi hn ha (by omega) hx hwm
  refine mh_iload1 (pc := 0) F dX6_firstChoice_0 ?_
  refine mh_iload2 (pc := 1) F dX6_firstChoice_1 ?_
  refine mh_iload3 (pc := 2) F dX6_firstChoice_2 ?_
  refine mh_callSp (pc := 3) (As := [.int (Int32.ofInt (a)), .int (Int32.ofInt (t)), .int (Int32.ofInt (x))]) (st := []) F (by omega) (k_place (by omega) (by omega) (by omega) (by omega)) ws_RX6_117 dX6_firstChoice_3 rfl rfl (Nat.le_of_ble_eq_true rfl) ⟨Nat.zero_le _, Nat.zero_le _⟩ ?_
  refine mh_top (y := a * 3660 + t * 60 + x) (mh_eqI (by rw [if_pos (by omega)])) ?_
  refine mh_istore4 (pc := 6) F dX6_firstChoice_6 rfl (by decide) ?_
  refine mh_iload4 (pc := 8) F dX6_firstChoice_8 ?_
  refine mh_if_ge (pc := 10) (tgt := 17) F dX6_firstChoice_10 rfl (by omega) (fun c_10 => ?_) (fun c_10 => ?_)
  · refine mh_aload0 (pc := 17) F dX6_firstChoice_17 ?_
    refine mh_iload4 (pc := 18) F dX6_firstChoice_18 ?_
    refine mh_callVp (pc := 20) (As := [.int (Int32.ofInt (a * 3660 + t * 60 + x))]) (st := []) F (by omega) (k_found (by omega) hF (by omega) hrow) wv_RX6_120_yX6_foundAt dX6_firstChoice_20 sh_10 rfl (by decide) rfl rfl (Nat.le_of_ble_eq_true rfl) ⟨Nat.zero_le _, Nat.zero_le _⟩ ?_
    refine mh_top (y := sc_M1 s wm k n a t x) (mh_eqI hat.1) ?_
    refine mh_istore5 (pc := 23) F dX6_firstChoice_23 rfl (by decide) ?_
    refine mh_iload5 (pc := 25) F dX6_firstChoice_25 ?_
    refine mh_if_le (pc := 27) (tgt := 40) F dX6_firstChoice_27 rfl (by omega) (fun c_27 => ?_) (fun c_27 => ?_)
    · exfalso; omega
    · refine mh_iload5 (pc := 30) F dX6_firstChoice_30 ?_
      refine mh_iconst (pc := 32) F dX6_firstChoice_32 ?_
      refine mh_isub (pc := 33) F dX6_firstChoice_33 ?_
      refine mh_bipush (pc := 34) F dX6_firstChoice_34 rfl ?_
      refine mh_irem (pc := 36) F dX6_firstChoice_36 (by omega) (by omega) (by omega) ?_
      refine mh_goto (pc := 37) (tgt := 41) F dX6_firstChoice_37 rfl ?_
      exact mh_ireturnp F Z dX6_firstChoice_41 (by rw [hM1.2.2.2, if_neg (by omega)]) rfl
  · exfalso; omega

set_option maxRecDepth 100000 in
set_option maxHeartbeats 2000000 in
theorem k_choice {g : mh_G} {d : Nat} (hd : 6 ≤ d) {h : Nat → Int → Int} (hF : mh_FX h) {s wm : Int → Int} {k n z : Int} (hk : 0 ≤ k ∧ k < 6) (hi : sp_inv s) (hn : 0 ≤ n ∧ n ≤ 60) (hwm : sp_wmr wm) (hat8 : s (41 + 9 * k + 2) ≤ 8) (hs6 : s (41 + 9 * k + 6) < 60) (hRl : sc_Rl h s wm k n (s (41 + 9 * k + 2))) (hRm : sc_Rm h s k) (hMI : sc_MI (h 11) s wm k n (s (41 + 9 * k + 2))) (hz : s (41 + 9 * k + 2) ≤ z ∧ z ≤ 8) (h0 : sc_wn s wm k n (s (41 + 9 * k + 2)) 0 (s (41 + 9 * k + 6))) (hnz0 : sc_fv (h 11) (s (41 + 9 * k + 2) * 3660 + 0 * 60 + s (41 + 9 * k + 6)) ≠ 0) : mh_MP g d yX6_choiceAt cX6_choiceAt 7 (some .int) 96 [.ref 10, .int (Int32.ofInt (z))] h (some (.int (Int32.ofInt (sp_way s wm k n z)))) := by
  refine mh_M_of RX6 rfl (by decide +kernel) [some (.ref 10), some (.int (Int32.ofInt (z))), none, none, none, none, none] rfl (Nat.le_of_ble_eq_true rfl) (fun f F Z hn0 hR => ?_)
  obtain ⟨R1, R2, R3, R4, R5⟩ := id hRl
  obtain ⟨Q8, Q9, Q10⟩ := id hRm
  have hcok := hi.2.2.2.2.1 k hk.1 hk.2
  obtain ⟨c0, c1, c2, c3, c4, c5, c6, c7⟩ := id hcok
  unfold sp_row at c0 c1 c2 c3 c4 c5 c6
  have htr := sp_turns_rg (k := s (41 + 9 * k + 0)) c1
  have zw := h0
  have zn := hnz0
  refine mh_iconst (pc := 0) F dX6_choiceAt_0 ?_
  refine mh_istore2 (pc := 1) F dX6_choiceAt_1 rfl (by decide) ?_
  refine mh_aload0 (pc := 2) F dX6_choiceAt_2 ?_
  refine mh_geti (pc := 3) F sh_10 (by decide) fw_RX6_57_6 dX6_choiceAt_3 rfl ?_
  refine mh_top (y := s (41 + 9 * k + 6)) (mh_eqI Q9) ?_
  refine mh_istore3 (pc := 6) F dX6_choiceAt_6 rfl (by decide) ?_
  refine mh_aload0 (pc := 7) F dX6_choiceAt_7 ?_
  refine mh_aload0 (pc := 8) F dX6_choiceAt_8 ?_
  refine mh_geti (pc := 9) F sh_10 (by decide) fw_RX6_47_6 dX6_choiceAt_9 rfl ?_
  refine mh_top (y := s (41 + 9 * k + 2)) (mh_eqI R2) ?_
  refine mh_iload2 (pc := 12) F dX6_choiceAt_12 ?_
  refine mh_iload3 (pc := 13) F dX6_choiceAt_13 ?_
  have hatN := (hMI.2 (s (41 + 9 * k + 2)) 0 (s (41 + 9 * k + 6)) (by omega) (by omega) zw.1.1 zw.1.2 zw.2.1.1 zw.2.1.2).resolve_left zn
  have hrwN := hMI.1 (((s (41 + 9 * k + 2)) * 3660 + 0 * 60 + (s (41 + 9 * k + 6))) / 5) (by have := zw.1; have := zw.2.1; omega) (by have := zw.1; have := zw.2.1; omega)
  refine mh_callVp (pc := 14) (As := [.int (Int32.ofInt (s (41 + 9 * k + 2))), .int (Int32.ofInt (0)), .int (Int32.ofInt (s (41 + 9 * k + 6)))]) (st := []) F (by omega) (k_first (by omega) hF hk hi hn hwm (by omega) zw.1 zw.2.1 hatN zw.2.2 hrwN) wv_RX6_110_yX6_firstChoice dX6_choiceAt_14 sh_10 rfl (by decide) rfl rfl (Nat.le_of_ble_eq_true rfl) ⟨Nat.zero_le _, Nat.zero_le _⟩ ?_
  refine mh_istore4 (pc := 17) F dX6_choiceAt_17 rfl (by decide) ?_
  refine mh_aload0 (pc := 19) F dX6_choiceAt_19 ?_
  refine mh_geti (pc := 20) F sh_10 (by decide) fw_RX6_47_6 dX6_choiceAt_20 rfl ?_
  refine mh_top (y := s (41 + 9 * k + 2)) (mh_eqI R2) ?_
  refine mh_istore5 (pc := 23) F dX6_choiceAt_23 rfl (by decide) ?_
  have L25 : ∀ (m : Nat) (t : Int) (x : Int) (ch : Int) (a : Int), (s (41 + 9 * k + 2) ≤ a ∧ a ≤ z) → (sc_wn s wm k n a t x) → (t = (sp_wys s wm k n (a - s (41 + 9 * k + 2)).toNat).1) → (x = (sp_wys s wm k n (a - s (41 + 9 * k + 2)).toNat).2.1) → (ch = (sc_H s wm k n a t x).2) → (sc_fv (h 11) (a * 3660 + t * 60 + x) ≠ 0) → (z - a).toNat = m → mh_V g f 7 96 0 0 25 [some (.ref 10), some (.int (Int32.ofInt (z))), some (.int (Int32.ofInt (t))), some (.int (Int32.ofInt (x))), some (.int (Int32.ofInt (ch))), some (.int (Int32.ofInt (a))), none] [] h := by
    intro m
    induction m using Nat.strongRecOn with
    | _ m ihL25 =>
    intro t x ch a ha hw ht1 hx1 hch hnz hmz
    refine mh_iload5 (pc := 25) F dX6_choiceAt_25 ?_
    refine mh_iload1 (pc := 27) F dX6_choiceAt_27 ?_
    refine mh_icmp_ge (pc := 28) (tgt := 106) F dX6_choiceAt_28 rfl (by omega) (by omega) (fun c_28 => ?_) (fun c_28 => ?_)
    · refine mh_iload4 (pc := 106) F dX6_choiceAt_106 ?_
      exact mh_ireturnp F Z dX6_choiceAt_108 (by rw [hch, show z = a by omega]; exact sc_way_H ha.1 ht1 hx1) rfl
    · obtain ⟨b, c, b0, b1, cc0, cc1, e1, e3⟩ := sc_wn_st hk hi hn (show 0 ≤ a ∧ a < 8 by omega) hwm hw
      have hchb : ch = 10 * b + c := hch.trans e1
      have hb10 : (10 * b + c).tdiv 10 = b := by rw [Int.tdiv_eq_ediv_of_nonneg (by omega)]; omega
      have hc10 : (10 * b + c).tmod 10 = c := by rw [Int.tmod_eq_emod_of_nonneg (by omega)]; omega
      have hatA := (hMI.2 a t x (by omega) (by omega) hw.1.1 hw.1.2 hw.2.1.1 hw.2.1.2).resolve_left hnz
      have hnxt := sc_next (f := 0) b0 ⟨cc0, cc1⟩ hatA hw.2.2 e1 (by omega)
      have hwy := sc_wys1 ha.1 b0 ⟨cc0, cc1⟩ ht1 hx1 e1
      have zw := e3
      have zn := hnxt
      refine mh_iload4 (pc := 31) F dX6_choiceAt_31 ?_
      refine mh_bipush (pc := 33) F dX6_choiceAt_33 rfl ?_
      refine mh_irem (pc := 35) F dX6_choiceAt_35 (by omega) (by omega) (by omega) ?_
      refine mh_top (y := c) (mh_eqI (by rw [hchb]; exact hc10)) ?_
      refine mh_istore6 (pc := 36) F dX6_choiceAt_36 rfl (by decide) ?_
      refine mh_iload2 (pc := 38) F dX6_choiceAt_38 ?_
      refine mh_iload4 (pc := 39) F dX6_choiceAt_39 ?_
      refine mh_bipush (pc := 41) F dX6_choiceAt_41 rfl ?_
      refine mh_idiv (pc := 43) F dX6_choiceAt_43 (by omega) (by omega) (by omega) ?_
      refine mh_top (y := b) (mh_eqI (by rw [hchb]; exact hb10)) ?_
      refine mh_iload6 (pc := 44) F dX6_choiceAt_44 ?_
      refine mh_callNp (pc := 46) (As := [.int (Int32.ofInt (c))]) (st := [.int (Int32.ofInt (b)), .int (Int32.ofInt (t))]) F (by omega) (k4_isCarrier (by omega) (by omega)) wn_RX6_113 dX6_choiceAt_46 rfl rfl (Nat.le_of_ble_eq_true rfl) ⟨Nat.zero_le _, Nat.zero_le _⟩ ?_
      refine mh_ifb_eq (pc := 49) (tgt := 62) F dX6_choiceAt_49 rfl (fun c_49 => ?_) (fun c_49 => ?_)
      · exfalso; omega
      · refine mh_aload0 (pc := 52) F dX6_choiceAt_52 ?_
        refine mh_getr (b := 14) (pc := 53) F sh_10 (by decide) fw_RX6_23_6 dX6_choiceAt_53 rfl (fx_10_3 hF) ?_
        refine mh_iload6 (pc := 56) F dX6_choiceAt_56 ?_
        refine mh_iaload (pc := 58) F sh_14 (by decide) (by omega) dX6_choiceAt_58 ?_
        refine mh_top (y := s (33 + 2 * c)) (mh_eqI (R4 c cc0 cc1).2.1) ?_
        refine mh_goto (pc := 59) (tgt := 63) F dX6_choiceAt_59 rfl ?_
        refine mh_iadd (pc := 63) F dX6_choiceAt_63 ?_
        refine mh_iadd (pc := 64) F dX6_choiceAt_64 ?_
        refine mh_istore2 (pc := 65) F dX6_choiceAt_65 rfl (by decide) ?_
        refine mh_iload3 (pc := 66) F dX6_choiceAt_66 ?_
        refine mh_iload6 (pc := 67) F dX6_choiceAt_67 ?_
        refine mh_callNp (pc := 69) (As := [.int (Int32.ofInt (c))]) (st := [.int (Int32.ofInt (x))]) F (by omega) (k4_isCarrier (by omega) (by omega)) wn_RX6_113 dX6_choiceAt_69 rfl rfl (Nat.le_of_ble_eq_true rfl) ⟨Nat.zero_le _, Nat.zero_le _⟩ ?_
        refine mh_ifb_eq (pc := 72) (tgt := 85) F dX6_choiceAt_72 rfl (fun c_72 => ?_) (fun c_72 => ?_)
        · exfalso; omega
        · refine mh_aload0 (pc := 75) F dX6_choiceAt_75 ?_
          refine mh_getr (b := 15) (pc := 76) F sh_10 (by decide) fw_RX6_26_6 dX6_choiceAt_76 rfl (fx_10_4 hF) ?_
          refine mh_iload6 (pc := 79) F dX6_choiceAt_79 ?_
          refine mh_iaload (pc := 81) F sh_15 (by decide) (by omega) dX6_choiceAt_81 ?_
          refine mh_top (y := s (33 + 2 * c) * sp_jolts (s (41 + 9 * k + 0)) (s (41 + 9 * k + 1)) (s (33 + 2 * c + 1))) (mh_eqI (R4 c cc0 cc1).2.2) ?_
          refine mh_goto (pc := 82) (tgt := 86) F dX6_choiceAt_82 rfl ?_
          refine mh_iadd (pc := 86) F dX6_choiceAt_86 ?_
          refine mh_top (y := sp_then s k x c) (mh_eqI rfl) ?_
          refine mh_istore3 (pc := 87) F dX6_choiceAt_87 rfl (by decide) ?_
          refine mh_aload0 (pc := 88) F dX6_choiceAt_88 ?_
          refine mh_iload5 (pc := 89) F dX6_choiceAt_89 ?_
          refine mh_iconst (pc := 91) F dX6_choiceAt_91 ?_
          refine mh_iadd (pc := 92) F dX6_choiceAt_92 ?_
          refine mh_iload2 (pc := 93) F dX6_choiceAt_93 ?_
          refine mh_iload3 (pc := 94) F dX6_choiceAt_94 ?_
          have hatN := (hMI.2 (a + 1) (t + (b + (s (33 + 2 * c)))) (sp_then s k x c) (by omega) (by omega) zw.1.1 zw.1.2 zw.2.1.1 zw.2.1.2).resolve_left zn
          have hrwN := hMI.1 (((a + 1) * 3660 + (t + (b + (s (33 + 2 * c)))) * 60 + (sp_then s k x c)) / 5) (by have := zw.1; have := zw.2.1; omega) (by have := zw.1; have := zw.2.1; omega)
          refine mh_callVp (pc := 95) (As := [.int (Int32.ofInt (a + 1)), .int (Int32.ofInt (t + (b + (s (33 + 2 * c))))), .int (Int32.ofInt (sp_then s k x c))]) (st := []) F (by omega) (k_first (by omega) hF hk hi hn hwm (by omega) zw.1 zw.2.1 hatN zw.2.2 hrwN) wv_RX6_110_yX6_firstChoice dX6_choiceAt_95 sh_10 rfl (by decide) rfl rfl (Nat.le_of_ble_eq_true rfl) ⟨Nat.zero_le _, Nat.zero_le _⟩ ?_
          refine mh_istore4 (pc := 98) F dX6_choiceAt_98 rfl (by decide) ?_
          refine mh_iinc5 (pc := 100) F dX6_choiceAt_100 rfl (by decide) ?_
          refine mh_goto (pc := 103) (tgt := 25) F dX6_choiceAt_103 rfl ?_
          refine mh_drop6 ?_
          exact ihL25 _ (by omega) (t + (b + (s (33 + 2 * c)))) (sp_then s k x c) ((sc_H s wm k n (a + 1) (t + (b + (s (33 + 2 * c)))) (sp_then s k x c)).2) (a + 1) (by omega) e3 hwy.1 hwy.2 rfl hnxt rfl
  exact L25 _ 0 (s (41 + 9 * k + 6)) ((sc_H s wm k n (s (41 + 9 * k + 2)) 0 (s (41 + 9 * k + 6))).2) (s (41 + 9 * k + 2)) (by omega) h0 (by rw [show s (41 + 9 * k + 2) - s (41 + 9 * k + 2) = 0 by omega]; rfl) (by rw [show s (41 + 9 * k + 2) - s (41 + 9 * k + 2) = 0 by omega]; rfl) rfl hnz0 rfl

