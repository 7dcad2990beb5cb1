/-! relays: what they come to -/
def sp_rel (s wm : Int → Int) (k n : Int) : Int := if s (41 + 9 * k + 5) + sp_tab s wm k n (9 - s (41 + 9 * k + 2)).toNat ((s (41 + 9 * k + 2) * 61 + 0) * 60 + s (41 + 9 * k + 6)) < sp_turns (s (41 + 9 * k + 0)) (s (41 + 9 * k + 1)) then s (41 + 9 * k + 5) + sp_tab s wm k n (9 - s (41 + 9 * k + 2)).toNat ((s (41 + 9 * k + 2) * 61 + 0) * 60 + s (41 + 9 * k + 6)) else 1000000
def sp_o16 (o t : Int → Int) : Prop := ∀ i, i ≠ 16 → t i = o i
theorem sp_o16.st {o t : Int → Int} {v : Int} (h : sp_o16 o t) : sp_o16 o (mh_ur t 16 v) := fun i q => (mh_ur_ne q).trans (h i q)
set_option maxRecDepth 100000 in
set_option maxHeartbeats 4000000 in
theorem k_relayed {g : mh_G} {d : Nat} (hd : 9 ≤ d) {h : Nat → Int → Int} (hF : mh_FX h) {o : Int → Int} (r81 : h 81 = o) {s : Int → Int} (r82 : h 82 = s) {T : Int → Int} (r89 : h 89 = T) {w0 : Int → Int} (r90 : h 90 = w0) {k n : Int} (hk : 0 ≤ k ∧ k < 6) (hi : sp_inv s) (hq9 : s 0 ≤ 9999) (hn : 0 ≤ n ∧ n ≤ 60) (hs6 : s (41 + 9 * k + 6) < 60) (hat : s (41 + 9 * k + 2) ≤ 8) : mh_M g d yX12_relayed cX12_relayed 6 (some .int) 96 0 0 [.ref 81, .int (Int32.ofInt (k)), .int (Int32.ofInt (n))] h (fun r h2 => r = some (.int (Int32.ofInt ((sp_rel s (h2 90) k n)))) ∧ mh_FX h2 ∧ mh_fr [81, 86, 87, 89, 90] h h2 ∧ sp_wmok s k (h2 90) 9 ∧ sp_o16 o (h2 81) ∧ sp_tabs s (h2 90) (h2 89) k n (s (41 + 9 * k + 2) - 1)) := by
  refine mh_M_of RX12 rfl (by decide +kernel) [some (.ref 81), some (.int (Int32.ofInt (k))), some (.int (Int32.ofInt (n))), none, none, none] rfl (Nat.le_of_ble_eq_true rfl) (fun f F Z hn0 hR => ?_)
  have hcc := hi.2.2.2.2.1 k hk.1 hk.2
  have hws := hi.2.2.2.2.2
  obtain ⟨hH, hC⟩ := hi.2.2.2.1
  obtain ⟨c0, c1, c2, c3, c4, c5, c6, c7, c8, c9, c10, c11, c12, c13⟩ := hcc
  unfold sp_row at c0 c1 c2 c3 c4 c5 c6 c7 c8 c9 c10 c11 c12 c13
  have hq0 := hi.2.1
  have htr := sp_turns_rg (k := s (41 + 9 * k + 0)) c1
  refine mh_aload0 (pc := 0) F dX12_relayed_0 ?_
  refine mh_iload1 (pc := 1) F dX12_relayed_1 ?_
  refine mh_callV0 (pc := 2) (As := [.int (Int32.ofInt (k))]) (st := []) F (by omega) (k_findWarmed (by omega) hF r82 r90 (by omega) hi (by omega)) wv_RX12_297_yX12_findWarmed dX12_relayed_2 sh_81 rfl (by decide) rfl rfl (Nat.le_of_ble_eq_true rfl) ⟨Nat.zero_le _, Nat.zero_le _⟩ (fun r1 h1 q1 => ?_)
  obtain ⟨rfl, F1, fr1, hwok⟩ := q1
  obtain ⟨w9, ew9⟩ : ∃ z : Int → Int, z = h1 90 := ⟨_, rfl⟩
  rw [← ew9] at hwok
  have r81_2 : h1 81 = o := (fr1 _ (by decide)).trans r81
  have r82_2 : h1 82 = s := (fr1 _ (by decide)).trans r82
  have r89_2 : h1 89 = T := (fr1 _ (by decide)).trans r89
  have fr2 : mh_fr [86, 87, 90] h h1 := (mh_fr.tr mh_fr.rf fr1).mono (by simp)
  have hwm := sp_wmr_of c1 hwok
  refine mh_bipush (pc := 5) F dX12_relayed_5 rfl ?_
  refine mh_istore3 (pc := 7) F dX12_relayed_7 rfl (by decide) ?_
  have L8 : ∀ (m : Nat) (j : Int) (hh : Nat → Int → Int) (T1 : Int → Int) (oa : Int → Int), (mh_FX hh) → (mh_fr [81, 86, 87, 89, 90] h hh) → (hh 81 = oa) → (hh 82 = s) → (hh 89 = T1) → (hh 90 = w9) → (s (41 + 9 * k + 2) - 1 ≤ j ∧ j ≤ 9) → (sp_tabs s w9 T1 k n j) → (sp_o16 o oa) → (j + 1).toNat = m → mh_V g f 6 96 0 0 8 [some (.ref 81), some (.int (Int32.ofInt (k))), some (.int (Int32.ofInt (n))), some (.int (Int32.ofInt (j))), none, none] [] hh := by
    intro m
    induction m using Nat.strongRecOn with
    | _ m ihL8 =>
    intro j hh T1 oa Fhh frhh q81hh q82hh q89hh q90hh hj hA1 ho1 hmz
    refine mh_iload3 (pc := 8) F dX12_relayed_8 ?_
    refine mh_aload0 (pc := 9) F dX12_relayed_9 ?_
    refine mh_iload1 (pc := 10) F dX12_relayed_10 ?_
    refine mh_iconst (pc := 11) F dX12_relayed_11 ?_
    refine mh_callVp (pc := 12) (As := [.int (Int32.ofInt (k)), .int (Int32.ofInt (2))]) (st := [.int (Int32.ofInt (j))]) F (by omega) (k_its (by omega) Fhh q82hh (by omega) (by omega)) wv_RX12_79_yX12_its dX12_relayed_12 sh_81 rfl (by decide) rfl rfl (Nat.le_of_ble_eq_true rfl) ⟨Nat.zero_le _, Nat.zero_le _⟩ ?_
    refine mh_icmp_lt (pc := 15) (tgt := 89) F dX12_relayed_15 rfl (by omega) (by omega) (fun c_15 => ?_) (fun c_15 => ?_)
    · have hval := hA1 (s (41 + 9 * k + 2)) (by omega) (by omega) 0 (s (41 + 9 * k + 6)) (by omega) (by omega) (by omega) (by omega)
      have hlk := sp_tab_ok hk hi hn hwm (9 - s (41 + 9 * k + 2)).toNat (by omega) 0 (s (41 + 9 * k + 6)) (by omega) (by omega) (by omega) (by omega)
      rw [show 9 - (((9 - s (41 + 9 * k + 2)).toNat : Nat) : Int) = s (41 + 9 * k + 2) by omega] at hlk
      refine mh_aload0 (pc := 89) F dX12_relayed_89 ?_
      refine mh_iload1 (pc := 90) F dX12_relayed_90 ?_
      refine mh_iconst (pc := 91) F dX12_relayed_91 ?_
      refine mh_callVp (pc := 92) (As := [.int (Int32.ofInt (k)), .int (Int32.ofInt (5))]) (st := []) F (by omega) (k_its (by omega) Fhh q82hh (by omega) (by omega)) wv_RX12_79_yX12_its dX12_relayed_92 sh_81 rfl (by decide) rfl rfl (Nat.le_of_ble_eq_true rfl) ⟨Nat.zero_le _, Nat.zero_le _⟩ ?_
      refine mh_aload0 (pc := 95) F dX12_relayed_95 ?_
      refine mh_getr (b := 89) (pc := 96) F sh_81 (by decide) fw_RX12_32_12 dX12_relayed_96 rfl (fx_81_14 Fhh) ?_
      refine mh_aload0 (pc := 99) F dX12_relayed_99 ?_
      refine mh_iload1 (pc := 100) F dX12_relayed_100 ?_
      refine mh_iconst (pc := 101) F dX12_relayed_101 ?_
      refine mh_callVp (pc := 102) (As := [.int (Int32.ofInt (k)), .int (Int32.ofInt (2))]) (st := [.ref 89, .int (Int32.ofInt (s (41 + 9 * k + 5)))]) F (by omega) (k_its (by omega) Fhh q82hh (by omega) (by omega)) wv_RX12_79_yX12_its dX12_relayed_102 sh_81 rfl (by decide) rfl rfl (Nat.le_of_ble_eq_true rfl) ⟨Nat.zero_le _, Nat.zero_le _⟩ ?_
      refine mh_iconst (pc := 105) F dX12_relayed_105 ?_
      refine mh_aload0 (pc := 106) F dX12_relayed_106 ?_
      refine mh_iload1 (pc := 107) F dX12_relayed_107 ?_
      refine mh_bipush (pc := 108) F dX12_relayed_108 rfl ?_
      refine mh_callVp (pc := 110) (As := [.int (Int32.ofInt (k)), .int (Int32.ofInt (6))]) (st := [.int (Int32.ofInt (0)), .int (Int32.ofInt (s (41 + 9 * k + 2))), .ref 89, .int (Int32.ofInt (s (41 + 9 * k + 5)))]) F (by omega) (k_its (by omega) Fhh q82hh (by omega) (by omega)) wv_RX12_79_yX12_its dX12_relayed_110 sh_81 rfl (by decide) rfl rfl (Nat.le_of_ble_eq_true rfl) ⟨Nat.zero_le _, Nat.zero_le _⟩ ?_
      refine mh_callSp (pc := 113) (As := [.int (Int32.ofInt (s (41 + 9 * k + 2))), .int (Int32.ofInt (0)), .int (Int32.ofInt (s (41 + 9 * k + 6)))]) (st := [.ref 89, .int (Int32.ofInt (s (41 + 9 * k + 5)))]) F (by omega) (k_placeOf (by omega)) ws_RX12_287 dX12_relayed_113 rfl rfl (Nat.le_of_ble_eq_true rfl) ⟨Nat.zero_le _, Nat.zero_le _⟩ ?_
      refine mh_ialoadr (pc := 116) F sh_89 (by decide) (by omega) dX12_relayed_116 q89hh ?_
      refine mh_iadd (pc := 117) F dX12_relayed_117 ?_
      refine mh_istore3 (pc := 118) F dX12_relayed_118 rfl (by decide) ?_
      refine mh_iload3 (pc := 119) F dX12_relayed_119 ?_
      refine mh_aload0 (pc := 120) F dX12_relayed_120 ?_
      refine mh_iload1 (pc := 121) F dX12_relayed_121 ?_
      refine mh_iconst (pc := 122) F dX12_relayed_122 ?_
      refine mh_callVp (pc := 123) (As := [.int (Int32.ofInt (k)), .int (Int32.ofInt (0))]) (st := [.int (Int32.ofInt ((s (41 + 9 * k + 5)) + (T1 (((s (41 + 9 * k + 2)) * 61 + 0) * 60 + (s (41 + 9 * k + 6))))))]) F (by omega) (k_its (by omega) Fhh q82hh (by omega) (by omega)) wv_RX12_79_yX12_its dX12_relayed_123 sh_81 rfl (by decide) rfl rfl (Nat.le_of_ble_eq_true rfl) ⟨Nat.zero_le _, Nat.zero_le _⟩ ?_
      refine mh_aload0 (pc := 126) F dX12_relayed_126 ?_
      refine mh_iload1 (pc := 127) F dX12_relayed_127 ?_
      refine mh_iconst (pc := 128) F dX12_relayed_128 ?_
      refine mh_callVp (pc := 129) (As := [.int (Int32.ofInt (k)), .int (Int32.ofInt (1))]) (st := [.int (Int32.ofInt (s (41 + 9 * k + 0))), .int (Int32.ofInt ((s (41 + 9 * k + 5)) + (T1 (((s (41 + 9 * k + 2)) * 61 + 0) * 60 + (s (41 + 9 * k + 6))))))]) F (by omega) (k_its (by omega) Fhh q82hh (by omega) (by omega)) wv_RX12_79_yX12_its dX12_relayed_129 sh_81 rfl (by decide) rfl rfl (Nat.le_of_ble_eq_true rfl) ⟨Nat.zero_le _, Nat.zero_le _⟩ ?_
      refine mh_callSp (pc := 132) (As := [.int (Int32.ofInt (s (41 + 9 * k + 0))), .int (Int32.ofInt (s (41 + 9 * k + 1)))]) (st := [.int (Int32.ofInt ((s (41 + 9 * k + 5)) + (T1 (((s (41 + 9 * k + 2)) * 61 + 0) * 60 + (s (41 + 9 * k + 6))))))]) F (by omega) (k_turns (by omega) (by omega) (by omega)) ws_RX12_82 dX12_relayed_132 rfl rfl (Nat.le_of_ble_eq_true rfl) ⟨Nat.zero_le _, Nat.zero_le _⟩ ?_
      refine mh_icmp_ge (pc := 135) (tgt := 142) F dX12_relayed_135 rfl (by omega) (by omega) (fun c_135 => ?_) (fun c_135 => ?_)
      · refine mh_ldcw (x := 1000000) (pc := 142) F dX12_relayed_142 tw_7_58 ?_
        exact mh_ireturn F Z dX12_relayed_145 ⟨(by rw [q90hh]; unfold sp_rel; rw [← hval]; (repeat' split) <;> first | rfl | (exfalso; omega)), Fhh, (frhh.mono (by simp)), (by rw [q90hh]; exact hwok), (by rw [q81hh]; exact ho1), (by rw [q90hh, q89hh, show s (41 + 9 * k + 2) - 1 = j by omega]; exact hA1)⟩
      · refine mh_iload3 (pc := 138) F dX12_relayed_138 ?_
        refine mh_goto (pc := 139) (tgt := 145) F dX12_relayed_139 rfl ?_
        exact mh_ireturn F Z dX12_relayed_145 ⟨(by rw [q90hh]; unfold sp_rel; rw [← hval]; (repeat' split) <;> first | rfl | (exfalso; omega)), Fhh, (frhh.mono (by simp)), (by rw [q90hh]; exact hwok), (by rw [q81hh]; exact ho1), (by rw [q90hh, q89hh, show s (41 + 9 * k + 2) - 1 = j by omega]; exact hA1)⟩
    · refine mh_iconst (pc := 18) F dX12_relayed_18 ?_
      refine mh_istore4 (pc := 19) F dX12_relayed_19 rfl (by decide) ?_
      have L21 : ∀ (m : Nat) (u : Int) (hg : Nat → Int → Int) (T2 : Int → Int) (ob : Int → Int), (mh_FX hg) → (mh_fr [81, 86, 87, 89, 90] h hg) → (hg 81 = ob) → (hg 82 = s) → (hg 89 = T2) → (hg 90 = w9) → (0 ≤ u ∧ u ≤ n + 1) → (sp_tabs s w9 T2 k n j) → (sp_tabu s w9 T2 k n j u) → (sp_o16 o ob) → (n + 1 - u).toNat = m → mh_V g f 6 96 0 0 21 [some (.ref 81), some (.int (Int32.ofInt (k))), some (.int (Int32.ofInt (n))), some (.int (Int32.ofInt (j))), some (.int (Int32.ofInt (u))), none] [] hg := by
        intro m
        induction m using Nat.strongRecOn with
        | _ m ihL21 =>
        intro u hg T2 ob Fhg frhg q81hg q82hg q89hg q90hg hu hA2 hB2 ho2 hmz
        refine mh_iload4 (pc := 21) F dX12_relayed_21 ?_
        refine mh_iload2 (pc := 23) F dX12_relayed_23 ?_
        refine mh_icmp_gt (pc := 24) (tgt := 83) F dX12_relayed_24 rfl (by omega) (by omega) (fun c_24 => ?_) (fun c_24 => ?_)
        · refine mh_iinc3 (pc := 83) F dX12_relayed_83 rfl (by decide) ?_
          refine mh_goto (pc := 86) (tgt := 8) F dX12_relayed_86 rfl ?_
          refine mh_drop4 ?_
          exact ihL8 _ (by omega) (j + (-1)) hg T2 ob Fhg (frhg.mono (by simp)) q81hg q82hg q89hg q90hg (by omega) (sp_tabs_nx hA2 (by rw [show n + 1 = u by omega]; exact hB2)) ho2 rfl
        · refine mh_iconst (pc := 27) F dX12_relayed_27 ?_
          refine mh_istore5 (pc := 28) F dX12_relayed_28 rfl (by decide) ?_
          have L30 : ∀ (m : Nat) (x : Int) (hm : Nat → Int → Int) (T3 : Int → Int) (oc : Int → Int), (mh_FX hm) → (mh_fr [81, 86, 87, 89, 90] h hm) → (hm 81 = oc) → (hm 82 = s) → (hm 89 = T3) → (hm 90 = w9) → (0 ≤ x ∧ x ≤ 60) → (sp_tabs s w9 T3 k n j) → (sp_tabu s w9 T3 k n j u) → (sp_tabx s w9 T3 k n j u x) → (sp_o16 o oc) → (60 - x).toNat = m → mh_V g f 6 96 0 0 30 [some (.ref 81), some (.int (Int32.ofInt (k))), some (.int (Int32.ofInt (n))), some (.int (Int32.ofInt (j))), some (.int (Int32.ofInt (u))), some (.int (Int32.ofInt (x)))] [] hm := by
            intro m
            induction m using Nat.strongRecOn with
            | _ m ihL30 =>
            intro x hm T3 oc Fhm frhm q81hm q82hm q89hm q90hm hx hA3 hB3 hC3 ho3 hmz
            refine mh_iload5 (pc := 30) F dX12_relayed_30 ?_
            refine mh_bipush (pc := 32) F dX12_relayed_32 rfl ?_
            refine mh_icmp_ge (pc := 34) (tgt := 77) F dX12_relayed_34 rfl (by omega) (by omega) (fun c_34 => ?_) (fun c_34 => ?_)
            · refine mh_iinc4 (pc := 77) F dX12_relayed_77 rfl (by decide) ?_
              refine mh_goto (pc := 80) (tgt := 21) F dX12_relayed_80 rfl ?_
              refine mh_drop5 ?_
              exact ihL21 _ (by omega) (u + 1) hm T3 oc Fhm (frhm.mono (by simp)) q81hm q82hm q89hm q90hm (by omega) hA3 (sp_tabu_nx hB3 (by rw [show (60 : Int) = x by omega]; exact hC3)) ho3 rfl
            · refine mh_aload0 (pc := 37) F dX12_relayed_37 ?_
              refine mh_getr (b := 89) (pc := 38) F sh_81 (by decide) fw_RX12_32_12 dX12_relayed_38 rfl (fx_81_14 Fhm) ?_
              refine mh_iload3 (pc := 41) F dX12_relayed_41 ?_
              refine mh_iload4 (pc := 42) F dX12_relayed_42 ?_
              refine mh_iload5 (pc := 44) F dX12_relayed_44 ?_
              refine mh_callSp (pc := 46) (As := [.int (Int32.ofInt (j)), .int (Int32.ofInt (u)), .int (Int32.ofInt (x))]) (st := [.ref 89]) F (by omega) (k_placeOf (by omega)) ws_RX12_287 dX12_relayed_46 rfl rfl (Nat.le_of_ble_eq_true rfl) ⟨Nat.zero_le _, Nat.zero_le _⟩ ?_
              refine mh_iload3 (pc := 49) F dX12_relayed_49 ?_
              refine mh_bipush (pc := 50) F dX12_relayed_50 rfl ?_
              refine mh_icmp_ne (pc := 52) (tgt := 59) F dX12_relayed_52 rfl (by omega) (by omega) (fun c_52 => ?_) (fun c_52 => ?_)
              · have hT := sp_tabs_lok hk hi hn hwm (by omega) hA3
                refine mh_aload0 (pc := 59) F dX12_relayed_59 ?_
                refine mh_iload1 (pc := 60) F dX12_relayed_60 ?_
                refine mh_iload2 (pc := 61) F dX12_relayed_61 ?_
                refine mh_iload3 (pc := 62) F dX12_relayed_62 ?_
                refine mh_iload4 (pc := 63) F dX12_relayed_63 ?_
                refine mh_iload5 (pc := 65) F dX12_relayed_65 ?_
                refine mh_callV0 (pc := 67) (As := [.int (Int32.ofInt (k)), .int (Int32.ofInt (n)), .int (Int32.ofInt (j)), .int (Int32.ofInt (u)), .int (Int32.ofInt (x))]) (st := [.int (Int32.ofInt ((j * 61 + u) * 60 + x)), .ref 89]) F (by omega) (k_leastFrom (by omega) Fhm q81hm q82hm q89hm q90hm (by omega) hi (by omega) (by omega) (by omega) (by omega) hwm hT) wv_RX12_300_yX12_leastFrom dX12_relayed_67 sh_81 rfl (by decide) rfl rfl (Nat.le_of_ble_eq_true rfl) ⟨Nat.zero_le _, Nat.zero_le _⟩ (fun r3 h3 q3 => ?_)
                obtain ⟨rfl, F3, fr3, q3_0⟩ := q3
                have r82_4 : h3 82 = s := (fr3 _ (by decide)).trans q82hm
                have r89_4 : h3 89 = T3 := (fr3 _ (by decide)).trans q89hm
                have r90_4 : h3 90 = w9 := (fr3 _ (by decide)).trans q90hm
                have fr4 : mh_fr [81, 86, 87, 89, 90] h h3 := (mh_fr.tr frhm fr3).mono (by simp)
                refine mh_iastore (pc := 70) F sh_89 (by decide) (by omega) dX12_relayed_70 ?_
                refine mh_nmh (fun h5 e5 => ?_)
                have F5 : mh_FX h5 := by rw [e5]; exact F3.upa rfl
                have r82_5 : h5 82 = s := by rw [e5, mh_up_row (by decide)]; exact r82_4
                have r89_5 : h5 89 = mh_ur T3 ((j * 61 + u) * 60 + x) ((sp_lf s w9 T3 k n j u x 12).1) := by rw [e5, mh_up_rs, r89_4]
                have r90_5 : h5 90 = w9 := by rw [e5, mh_up_row (by decide)]; exact r90_4
                have r81_5 : h5 81 = mh_ur oc 16 (sp_lf s w9 T3 k n j u x 12).2 := by rw [e5, mh_up_row (by decide)]; exact q3_0
                have fr5 : mh_fr [81, 86, 87, 89, 90] h h5 := mh_fr.upi fr4 e5 (by simp)
                refine mh_iinc5 (pc := 71) F dX12_relayed_71 rfl (by decide) ?_
                refine mh_goto (pc := 74) (tgt := 30) F dX12_relayed_74 rfl ?_
                exact ihL30 _ (by omega) (x + 1) h5 (mh_ur T3 ((j * 61 + u) * 60 + x) ((sp_lf s w9 T3 k n j u x 12).1)) (mh_ur oc 16 (sp_lf s w9 T3 k n j u x 12).2) F5 (fr5.mono (by simp)) r81_5 r82_5 r89_5 r90_5 (by omega) (sp_tabs_st (by omega) (by omega) (by omega) hA3) (sp_tabu_st (by omega) (by omega) hB3) (sp_tabx_st hC3 (by first | exact sp_tab_v9 (by omega) | exact sp_tab_v hk hi (by omega) (by omega) (by omega) hA3)) (by first | exact ho3 | exact ho3.st) rfl
              · refine mh_iconst (pc := 55) F dX12_relayed_55 ?_
                refine mh_goto (pc := 56) (tgt := 70) F dX12_relayed_56 rfl ?_
                refine mh_iastore (pc := 70) F sh_89 (by decide) (by omega) dX12_relayed_70 ?_
                refine mh_nmh (fun h6 e6 => ?_)
                have F6 : mh_FX h6 := by rw [e6]; exact Fhm.upa rfl
                have r81_6 : h6 81 = oc := by rw [e6, mh_up_row (by decide)]; exact q81hm
                have r82_6 : h6 82 = s := by rw [e6, mh_up_row (by decide)]; exact q82hm
                have r89_6 : h6 89 = mh_ur T3 ((j * 61 + u) * 60 + x) 0 := by rw [e6, mh_up_rs, q89hm]
                have r90_6 : h6 90 = w9 := by rw [e6, mh_up_row (by decide)]; exact q90hm
                have fr6 : mh_fr [81, 86, 87, 89, 90] h h6 := mh_fr.upi frhm e6 (by simp)
                refine mh_iinc5 (pc := 71) F dX12_relayed_71 rfl (by decide) ?_
                refine mh_goto (pc := 74) (tgt := 30) F dX12_relayed_74 rfl ?_
                exact ihL30 _ (by omega) (x + 1) h6 (mh_ur T3 ((j * 61 + u) * 60 + x) 0) oc F6 (fr6.mono (by simp)) r81_6 r82_6 r89_6 r90_6 (by omega) (sp_tabs_st (by omega) (by omega) (by omega) hA3) (sp_tabu_st (by omega) (by omega) hB3) (sp_tabx_st hC3 (by first | exact sp_tab_v9 (by omega) | exact sp_tab_v hk hi (by omega) (by omega) (by omega) hA3)) (by first | exact ho3 | exact ho3.st) rfl
          exact L30 _ 0 hg T2 ob Fhg (frhg.mono (by simp)) q81hg q82hg q89hg q90hg (by omega) hA2 hB2 (fun y h0 h1 => by omega) ho2 rfl
      exact L21 _ 0 hh T1 oa Fhh (frhh.mono (by simp)) q81hh q82hh q89hh q90hh (by omega) hA1 (fun t y h0 h1 _ _ => by omega) ho1 rfl
  exact L8 _ 9 h1 T o F1 (fr2.mono (by simp)) r81_2 r82_2 r89_2 ew9.symm (by omega) (fun b h0 h1 => by omega) (fun _ _ => rfl) rfl

