/-! relays: one way, and the least of the ways -/
def sp_lbr (s wm T : Int → Int) (a t u v y : Int) : Int := min 1000000 ((if s (6 + 3 * a + 1) > 0 then 0 else wm (a * 61 + u) - wm (a * 61 + t)) + (wm (a * 61 + v) - wm (a * 61 + u)) + T (((a + 1) * 61 + v) * 60 + y))
def sp_then (s : Int → Int) (k x c : Int) : Int := x + s (33 + 2 * c) * sp_jolts (s (41 + 9 * k + 0)) (s (41 + 9 * k + 1)) (s (33 + 2 * c + 1))
def sp_lby (s wm T : Int → Int) (k n a t x b c : Int) : Int := if n < t + b + s (33 + 2 * c) ∨ 60 ≤ sp_then s k x c then 1000000 else sp_lbr s wm T a t (t + b) (t + b + s (33 + 2 * c)) (sp_then s k x c)
theorem mh_mulp {p q : Int} (hp : 0 ≤ p ∧ p ≤ 99) (hq : 0 ≤ q ∧ q ≤ 99) : 0 ≤ p * q ∧ p * q ≤ 9801 := ⟨Int.mul_nonneg hp.1 hq.1, Int.le_trans (Int.mul_le_mul hp.2 hq.2 hq.1 (by decide)) (by decide)⟩
def sp_wmr (wm : Int → Int) : Prop := ∀ a t, 0 ≤ a → a < 9 → 0 ≤ t → t ≤ 60 → 0 ≤ wm (a * 61 + t) ∧ (∀ u, t ≤ u → u ≤ 60 → wm (a * 61 + t) ≤ wm (a * 61 + u)) ∧ wm (a * 61 + t) ≤ 3000
def sp_lok (T : Int → Int) (n a : Int) : Prop := ∀ t x, 0 ≤ t → t ≤ n → 0 ≤ x → x < 60 → 0 ≤ T ((a * 61 + t) * 60 + x) ∧ T ((a * 61 + t) * 60 + x) ≤ 1000000
theorem sp_lby_rg {s wm T : Int → Int} {k n a t x b c : Int} (hk : 0 ≤ k ∧ k < 6) (hi : sp_inv s) (hn : 0 ≤ n ∧ n ≤ 60) (ha : 0 ≤ a ∧ a < 9) (ht : 0 ≤ t ∧ t ≤ 60) (hx : 0 ≤ x ∧ x < 60) (hb : 0 ≤ b ∧ b < 3) (hc : 0 ≤ c ∧ c < 4) (hwm : sp_wmr wm) (hT : sp_lok T n (a + 1)) : 0 ≤ sp_lby s wm T k n a t x b c ∧ sp_lby s wm T k n a t x b c ≤ 1000000 := by
  have hcc := hi.2.2.2.2.1 k hk.1 hk.2
  obtain ⟨hH, hC⟩ := hi.2.2.2.1
  obtain ⟨c0, c1, c2⟩ := hcc
  unfold sp_row at c0 c1
  have hsh := (hC c hc.1 hc.2).2
  have hpc := (hC c hc.1 hc.2).1
  have hjl := sp_jolts_rg (k := s (41 + 9 * k + 0)) c1 hsh
  have hpj := mh_mulp (p := s (33 + 2 * c)) (q := sp_jolts (s (41 + 9 * k + 0)) (s (41 + 9 * k + 1)) (s (33 + 2 * c + 1))) (by omega) (by omega)
  have hth : 0 ≤ sp_then s k x c := by unfold sp_then; omega
  unfold sp_lby sp_lbr
  split
  · omega
  · have hw1 := (hwm a t ha.1 ha.2 ht.1 (by omega)).2.1 (t + b) (by omega) (by omega)
    have hw2 := (hwm a (t + b) ha.1 ha.2 (by omega) (by omega)).2.1 (t + b + s (33 + 2 * c)) (by omega) (by omega)
    have hT1 := hT (t + b + s (33 + 2 * c)) (sp_then s k x c) (by omega) (by omega) (by omega) (by omega)
    split <;> omega
set_option maxRecDepth 100000 in
set_option maxHeartbeats 4000000 in
theorem k_leastBy {g : mh_G} {d : Nat} (hd : 5 ≤ d) {h : Nat → Int → Int} (hF : mh_FX h) {s : Int → Int} (r82 : h 82 = s) {T : Int → Int} (r89 : h 89 = T) {wm : Int → Int} (r90 : h 90 = wm) {k n a t x b c : Int} (hk : 0 ≤ k ∧ k < 6) (hi : sp_inv s) (hn : 0 ≤ n ∧ n ≤ 60) (ha : 0 ≤ a ∧ a < 9) (ht : 0 ≤ t ∧ t ≤ 60) (hx : 0 ≤ x ∧ x < 60) (hb : 0 ≤ b ∧ b < 3) (hc : 0 ≤ c ∧ c < 4) (hwm : sp_wmr wm) (hT : sp_lok T n (a + 1)) : mh_MP g d yX12_leastBy cX12_leastBy 12 (some .int) 96 [.ref 81, .int (Int32.ofInt (k)), .int (Int32.ofInt (n)), .int (Int32.ofInt (a)), .int (Int32.ofInt (t)), .int (Int32.ofInt (x)), .int (Int32.ofInt (b)), .int (Int32.ofInt (c))] h (some (.int (Int32.ofInt (sp_lby s wm T k n a t x b c)))) := by
  refine mh_M_of RX12 rfl (by decide +kernel) [some (.ref 81), some (.int (Int32.ofInt (k))), some (.int (Int32.ofInt (n))), some (.int (Int32.ofInt (a))), some (.int (Int32.ofInt (t))), some (.int (Int32.ofInt (x))), some (.int (Int32.ofInt (b))), some (.int (Int32.ofInt (c))), none, none, none, none] rfl (Nat.le_of_ble_eq_true rfl) (fun f F Z hn0 hR => ?_)
  have hcc := hi.2.2.2.2.1 k hk.1 hk.2
  have hws := hi.2.2.2.2.2
  obtain ⟨hH, hC⟩ := hi.2.2.2.1
  obtain ⟨c0, c1, c2, c3, c4, c5, c6, c7, c8, c9, c10, c11, c12, c13⟩ := hcc
  unfold sp_row at c0 c1 c2 c3 c4 c5 c6 c7 c8 c9 c10 c11 c12 c13
  have hsh := (hC c hc.1 hc.2).2
  have hpc := (hC c hc.1 hc.2).1
  have hjl := sp_jolts_rg (k := s (41 + 9 * k + 0)) c1 hsh
  have hpj := mh_mulp (p := s (33 + 2 * c)) (q := sp_jolts (s (41 + 9 * k + 0)) (s (41 + 9 * k + 1)) (s (33 + 2 * c + 1))) (by omega) (by omega)
  refine mh_iload4 (pc := 0) F dX12_leastBy_0 ?_
  refine mh_iload6 (pc := 2) F dX12_leastBy_2 ?_
  refine mh_iadd (pc := 4) F dX12_leastBy_4 ?_
  refine mh_istore8 (pc := 5) F dX12_leastBy_5 rfl (by decide) ?_
  refine mh_iload8 (pc := 7) F dX12_leastBy_7 ?_
  refine mh_aload0 (pc := 9) F dX12_leastBy_9 ?_
  refine mh_iload7 (pc := 10) F dX12_leastBy_10 ?_
  refine mh_callVp (pc := 12) (As := [.int (Int32.ofInt (c))]) (st := [.int (Int32.ofInt (t + b))]) F (by omega) (k_pace (by omega) hF r82 (by omega)) wv_RX12_132_yX12_pace dX12_leastBy_12 sh_81 rfl (by decide) rfl rfl (Nat.le_of_ble_eq_true rfl) ⟨Nat.zero_le _, Nat.zero_le _⟩ ?_
  refine mh_iadd (pc := 15) F dX12_leastBy_15 ?_
  refine mh_istore9 (pc := 16) F dX12_leastBy_16 rfl (by decide) ?_
  refine mh_iload5 (pc := 18) F dX12_leastBy_18 ?_
  refine mh_aload0 (pc := 20) F dX12_leastBy_20 ?_
  refine mh_iload7 (pc := 21) F dX12_leastBy_21 ?_
  refine mh_callVp (pc := 23) (As := [.int (Int32.ofInt (c))]) (st := [.int (Int32.ofInt (x))]) F (by omega) (k_pace (by omega) hF r82 (by omega)) wv_RX12_132_yX12_pace dX12_leastBy_23 sh_81 rfl (by decide) rfl rfl (Nat.le_of_ble_eq_true rfl) ⟨Nat.zero_le _, Nat.zero_le _⟩ ?_
  refine mh_aload0 (pc := 26) F dX12_leastBy_26 ?_
  refine mh_iload1 (pc := 27) F dX12_leastBy_27 ?_
  refine mh_iconst (pc := 28) F dX12_leastBy_28 ?_
  refine mh_callVp (pc := 29) (As := [.int (Int32.ofInt (k)), .int (Int32.ofInt (0))]) (st := [.int (Int32.ofInt (s (33 + 2 * c))), .int (Int32.ofInt (x))]) F (by omega) (k_its (by omega) hF r82 (by omega) (by omega)) wv_RX12_79_yX12_its dX12_leastBy_29 sh_81 rfl (by decide) rfl rfl (Nat.le_of_ble_eq_true rfl) ⟨Nat.zero_le _, Nat.zero_le _⟩ ?_
  refine mh_aload0 (pc := 32) F dX12_leastBy_32 ?_
  refine mh_iload1 (pc := 33) F dX12_leastBy_33 ?_
  refine mh_iconst (pc := 34) F dX12_leastBy_34 ?_
  refine mh_callVp (pc := 35) (As := [.int (Int32.ofInt (k)), .int (Int32.ofInt (1))]) (st := [.int (Int32.ofInt (s (41 + 9 * k + 0))), .int (Int32.ofInt (s (33 + 2 * c))), .int (Int32.ofInt (x))]) F (by omega) (k_its (by omega) hF r82 (by omega) (by omega)) wv_RX12_79_yX12_its dX12_leastBy_35 sh_81 rfl (by decide) rfl rfl (Nat.le_of_ble_eq_true rfl) ⟨Nat.zero_le _, Nat.zero_le _⟩ ?_
  refine mh_aload0 (pc := 38) F dX12_leastBy_38 ?_
  refine mh_iload7 (pc := 39) F dX12_leastBy_39 ?_
  refine mh_callVp (pc := 41) (As := [.int (Int32.ofInt (c))]) (st := [.int (Int32.ofInt (s (41 + 9 * k + 1))), .int (Int32.ofInt (s (41 + 9 * k + 0))), .int (Int32.ofInt (s (33 + 2 * c))), .int (Int32.ofInt (x))]) F (by omega) (k_shake (by omega) hF r82 (by omega)) wv_RX12_248_yX12_shake dX12_leastBy_41 sh_81 rfl (by decide) rfl rfl (Nat.le_of_ble_eq_true rfl) ⟨Nat.zero_le _, Nat.zero_le _⟩ ?_
  refine mh_callSp (pc := 44) (As := [.int (Int32.ofInt (s (41 + 9 * k + 0))), .int (Int32.ofInt (s (41 + 9 * k + 1))), .int (Int32.ofInt (s (33 + 2 * c + 1)))]) (st := [.int (Int32.ofInt (s (33 + 2 * c))), .int (Int32.ofInt (x))]) F (by omega) (k_jolts (by omega) (by omega) (by omega) (by omega)) ws_RX12_251 dX12_leastBy_44 rfl rfl (Nat.le_of_ble_eq_true rfl) ⟨Nat.zero_le _, Nat.zero_le _⟩ ?_
  refine mh_imul (pc := 47) F dX12_leastBy_47 ?_
  refine mh_iadd (pc := 48) F dX12_leastBy_48 ?_
  refine mh_istore10 (pc := 49) F dX12_leastBy_49 rfl (by decide) ?_
  refine mh_iload9 (pc := 51) F dX12_leastBy_51 ?_
  refine mh_iload2 (pc := 53) F dX12_leastBy_53 ?_
  refine mh_icmp_gt (pc := 54) (tgt := 64) F dX12_leastBy_54 rfl (by omega) (by omega) (fun c_54 => ?_) (fun c_54 => ?_)
  · refine mh_ldcw (x := 1000000) (pc := 64) F dX12_leastBy_64 tw_7_58 ?_
    exact mh_ireturnp F Z dX12_leastBy_67 (by unfold sp_lby sp_then sp_lbr; (repeat' split) <;> first | rfl | (exfalso; omega)) rfl
  · refine mh_iload10 (pc := 57) F dX12_leastBy_57 ?_
    refine mh_bipush (pc := 59) F dX12_leastBy_59 rfl ?_
    refine mh_icmp_lt (pc := 61) (tgt := 68) F dX12_leastBy_61 rfl (by omega) (by omega) (fun c_61 => ?_) (fun c_61 => ?_)
    · have hh2 := (hH a ha.1 ha.2).2.1
      have hw1 := hwm a t ha.1 ha.2 ht.1 (by omega)
      have hw2 := hwm a (t + b) ha.1 ha.2 (by omega) (by omega)
      have hw3 := hwm a (t + b + s (33 + 2 * c)) ha.1 ha.2 (by omega) (by omega)
      have hT1 := hT (t + b + s (33 + 2 * c)) (x + s (33 + 2 * c) * sp_jolts (s (41 + 9 * k + 0)) (s (41 + 9 * k + 1)) (s (33 + 2 * c + 1))) (by omega) (by omega) (by omega) (by omega)
      refine mh_aload0 (pc := 68) F dX12_leastBy_68 ?_
      refine mh_iload3 (pc := 69) F dX12_leastBy_69 ?_
      refine mh_iconst (pc := 70) F dX12_leastBy_70 ?_
      refine mh_callVp (pc := 71) (As := [.int (Int32.ofInt (a)), .int (Int32.ofInt (1))]) (st := []) F (by omega) (k_ofHillNow (by omega) hF r82 (by omega) (by omega)) wv_RX12_98_yX12_ofHillNow dX12_leastBy_71 sh_81 rfl (by decide) rfl rfl (Nat.le_of_ble_eq_true rfl) ⟨Nat.zero_le _, Nat.zero_le _⟩ ?_
      refine mh_if_le (pc := 74) (tgt := 81) F dX12_leastBy_74 rfl (by omega) (fun c_74 => ?_) (fun c_74 => ?_)
      · refine mh_aload0 (pc := 81) F dX12_leastBy_81 ?_
        refine mh_iload3 (pc := 82) F dX12_leastBy_82 ?_
        refine mh_iload4 (pc := 83) F dX12_leastBy_83 ?_
        refine mh_iload8 (pc := 85) F dX12_leastBy_85 ?_
        refine mh_callVp (pc := 87) (As := [.int (Int32.ofInt (a)), .int (Int32.ofInt (t)), .int (Int32.ofInt (t + b))]) (st := []) F (by omega) (k_warmedIn (by omega) hF r90 (by omega) (by omega) (by omega)) wv_RX12_284_yX12_warmedIn dX12_leastBy_87 sh_81 rfl (by decide) rfl rfl (Nat.le_of_ble_eq_true rfl) ⟨Nat.zero_le _, Nat.zero_le _⟩ ?_
        refine mh_istore11 (pc := 90) F dX12_leastBy_90 rfl (by decide) ?_
        refine mh_ldcw (x := 1000000) (pc := 92) F dX12_leastBy_92 tw_7_58 ?_
        refine mh_iload11 (pc := 95) F dX12_leastBy_95 ?_
        refine mh_aload0 (pc := 97) F dX12_leastBy_97 ?_
        refine mh_iload3 (pc := 98) F dX12_leastBy_98 ?_
        refine mh_iload8 (pc := 99) F dX12_leastBy_99 ?_
        refine mh_iload9 (pc := 101) F dX12_leastBy_101 ?_
        refine mh_callVp (pc := 103) (As := [.int (Int32.ofInt (a)), .int (Int32.ofInt (t + b)), .int (Int32.ofInt ((t + b) + (s (33 + 2 * c))))]) (st := [.int (Int32.ofInt (wm (a * 61 + (t + b)) - wm (a * 61 + t))), .int (Int32.ofInt (1000000))]) F (by omega) (k_warmedIn (by omega) hF r90 (by omega) (by omega) (by omega)) wv_RX12_284_yX12_warmedIn dX12_leastBy_103 sh_81 rfl (by decide) rfl rfl (Nat.le_of_ble_eq_true rfl) ⟨Nat.zero_le _, Nat.zero_le _⟩ ?_
        refine mh_iadd (pc := 106) F dX12_leastBy_106 ?_
        refine mh_aload0 (pc := 107) F dX12_leastBy_107 ?_
        refine mh_getr (b := 89) (pc := 108) F sh_81 (by decide) fw_RX12_32_12 dX12_leastBy_108 rfl (fx_81_14 hF) ?_
        refine mh_iload3 (pc := 111) F dX12_leastBy_111 ?_
        refine mh_iconst (pc := 112) F dX12_leastBy_112 ?_
        refine mh_iadd (pc := 113) F dX12_leastBy_113 ?_
        refine mh_iload9 (pc := 114) F dX12_leastBy_114 ?_
        refine mh_iload10 (pc := 116) F dX12_leastBy_116 ?_
        refine mh_callSp (pc := 118) (As := [.int (Int32.ofInt (a + 1)), .int (Int32.ofInt ((t + b) + (s (33 + 2 * c)))), .int (Int32.ofInt (x + ((s (33 + 2 * c)) * (sp_jolts (s (41 + 9 * k + 0)) (s (41 + 9 * k + 1)) (s (33 + 2 * c + 1))))))]) (st := [.ref 89, .int (Int32.ofInt ((wm (a * 61 + (t + b)) - wm (a * 61 + t)) + (wm (a * 61 + ((t + b) + (s (33 + 2 * c)))) - wm (a * 61 + (t + b))))), .int (Int32.ofInt (1000000))]) F (by omega) (k_placeOf (by omega)) ws_RX12_287 dX12_leastBy_118 rfl rfl (Nat.le_of_ble_eq_true rfl) ⟨Nat.zero_le _, Nat.zero_le _⟩ ?_
        refine mh_ialoadr (pc := 121) F sh_89 (by decide) (by omega) dX12_leastBy_121 r89 ?_
        refine mh_iadd (pc := 122) F dX12_leastBy_122 ?_
        refine mh_callSp (pc := 123) (As := [.int (Int32.ofInt (1000000)), .int (Int32.ofInt (((wm (a * 61 + (t + b)) - wm (a * 61 + t)) + (wm (a * 61 + ((t + b) + (s (33 + 2 * c)))) - wm (a * 61 + (t + b)))) + (T (((a + 1) * 61 + ((t + b) + (s (33 + 2 * c)))) * 60 + (x + ((s (33 + 2 * c)) * (sp_jolts (s (41 + 9 * k + 0)) (s (41 + 9 * k + 1)) (s (33 + 2 * c + 1)))))))))]) (st := []) F (by omega) (k_min (by omega) (by omega) (by omega)) ws_RX12_54 dX12_leastBy_123 rfl rfl (Nat.le_of_ble_eq_true rfl) ⟨Nat.zero_le _, Nat.zero_le _⟩ ?_
        exact mh_ireturnp F Z dX12_leastBy_126 (by unfold sp_lby sp_then sp_lbr; (repeat' split) <;> first | rfl | (exfalso; omega)) rfl
      · refine mh_iconst (pc := 77) F dX12_leastBy_77 ?_
        refine mh_goto (pc := 78) (tgt := 90) F dX12_leastBy_78 rfl ?_
        refine mh_istore11 (pc := 90) F dX12_leastBy_90 rfl (by decide) ?_
        refine mh_ldcw (x := 1000000) (pc := 92) F dX12_leastBy_92 tw_7_58 ?_
        refine mh_iload11 (pc := 95) F dX12_leastBy_95 ?_
        refine mh_aload0 (pc := 97) F dX12_leastBy_97 ?_
        refine mh_iload3 (pc := 98) F dX12_leastBy_98 ?_
        refine mh_iload8 (pc := 99) F dX12_leastBy_99 ?_
        refine mh_iload9 (pc := 101) F dX12_leastBy_101 ?_
        refine mh_callVp (pc := 103) (As := [.int (Int32.ofInt (a)), .int (Int32.ofInt (t + b)), .int (Int32.ofInt ((t + b) + (s (33 + 2 * c))))]) (st := [.int (Int32.ofInt (0)), .int (Int32.ofInt (1000000))]) F (by omega) (k_warmedIn (by omega) hF r90 (by omega) (by omega) (by omega)) wv_RX12_284_yX12_warmedIn dX12_leastBy_103 sh_81 rfl (by decide) rfl rfl (Nat.le_of_ble_eq_true rfl) ⟨Nat.zero_le _, Nat.zero_le _⟩ ?_
        refine mh_iadd (pc := 106) F dX12_leastBy_106 ?_
        refine mh_aload0 (pc := 107) F dX12_leastBy_107 ?_
        refine mh_getr (b := 89) (pc := 108) F sh_81 (by decide) fw_RX12_32_12 dX12_leastBy_108 rfl (fx_81_14 hF) ?_
        refine mh_iload3 (pc := 111) F dX12_leastBy_111 ?_
        refine mh_iconst (pc := 112) F dX12_leastBy_112 ?_
        refine mh_iadd (pc := 113) F dX12_leastBy_113 ?_
        refine mh_iload9 (pc := 114) F dX12_leastBy_114 ?_
        refine mh_iload10 (pc := 116) F dX12_leastBy_116 ?_
        refine mh_callSp (pc := 118) (As := [.int (Int32.ofInt (a + 1)), .int (Int32.ofInt ((t + b) + (s (33 + 2 * c)))), .int (Int32.ofInt (x + ((s (33 + 2 * c)) * (sp_jolts (s (41 + 9 * k + 0)) (s (41 + 9 * k + 1)) (s (33 + 2 * c + 1))))))]) (st := [.ref 89, .int (Int32.ofInt (0 + (wm (a * 61 + ((t + b) + (s (33 + 2 * c)))) - wm (a * 61 + (t + b))))), .int (Int32.ofInt (1000000))]) F (by omega) (k_placeOf (by omega)) ws_RX12_287 dX12_leastBy_118 rfl rfl (Nat.le_of_ble_eq_true rfl) ⟨Nat.zero_le _, Nat.zero_le _⟩ ?_
        refine mh_ialoadr (pc := 121) F sh_89 (by decide) (by omega) dX12_leastBy_121 r89 ?_
        refine mh_iadd (pc := 122) F dX12_leastBy_122 ?_
        refine mh_callSp (pc := 123) (As := [.int (Int32.ofInt (1000000)), .int (Int32.ofInt ((0 + (wm (a * 61 + ((t + b) + (s (33 + 2 * c)))) - wm (a * 61 + (t + b)))) + (T (((a + 1) * 61 + ((t + b) + (s (33 + 2 * c)))) * 60 + (x + ((s (33 + 2 * c)) * (sp_jolts (s (41 + 9 * k + 0)) (s (41 + 9 * k + 1)) (s (33 + 2 * c + 1)))))))))]) (st := []) F (by omega) (k_min (by omega) (by omega) (by omega)) ws_RX12_54 dX12_leastBy_123 rfl rfl (Nat.le_of_ble_eq_true rfl) ⟨Nat.zero_le _, Nat.zero_le _⟩ ?_
        exact mh_ireturnp F Z dX12_leastBy_126 (by unfold sp_lby sp_then sp_lbr; (repeat' split) <;> first | rfl | (exfalso; omega)) rfl
    · refine mh_ldcw (x := 1000000) (pc := 64) F dX12_leastBy_64 tw_7_58 ?_
      exact mh_ireturnp F Z dX12_leastBy_67 (by unfold sp_lby sp_then sp_lbr; (repeat' split) <;> first | rfl | (exfalso; omega)) rfl

