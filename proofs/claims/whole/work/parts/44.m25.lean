/-! relays: the way, hill by hill -/
def sp_wstep (s wm : Int → Int) (k n a : Int) (p : Int × Int × Int) : Int × Int × Int :=
  (p.1 + ((sp_lf s wm (sp_tab s wm k n (8 - a).toNat) k n a p.1 p.2.1 12).2.tdiv 10 + s (33 + 2 * (sp_lf s wm (sp_tab s wm k n (8 - a).toNat) k n a p.1 p.2.1 12).2.tmod 10)),
   sp_then s k p.2.1 ((sp_lf s wm (sp_tab s wm k n (8 - a).toNat) k n a p.1 p.2.1 12).2.tmod 10),
   (sp_lf s wm (sp_tab s wm k n (8 - a).toNat) k n a p.1 p.2.1 12).2)
def sp_wys (s wm : Int → Int) (k n : Int) : Nat → Int × Int × Int
  | 0 => (0, s (41 + 9 * k + 6), -1)
  | j + 1 => sp_wstep s wm k n (s (41 + 9 * k + 2) + (j : Int)) (sp_wys s wm k n j)
theorem sp_wys_at (s wm : Int → Int) (k n : Int) {a : Int} (ha : s (41 + 9 * k + 2) ≤ a) : sp_wys s wm k n (a + 1 - s (41 + 9 * k + 2)).toNat = sp_wstep s wm k n a (sp_wys s wm k n (a - s (41 + 9 * k + 2)).toNat) := by
  rw [show (a + 1 - s (41 + 9 * k + 2)).toNat = (a - s (41 + 9 * k + 2)).toNat + 1 by omega]
  show sp_wstep s wm k n (s (41 + 9 * k + 2) + (((a - s (41 + 9 * k + 2)).toNat : Nat) : Int)) _ = _
  rw [show s (41 + 9 * k + 2) + (((a - s (41 + 9 * k + 2)).toNat : Nat) : Int) = a by omega]
def sp_way (s wm : Int → Int) (k n x : Int) : Int := (sp_wys s wm k n (x + 1 - s (41 + 9 * k + 2)).toNat).2.2
/-- as far as the way goes it stays within the table -/
def sp_won (s wm : Int → Int) (k n a t x : Int) : Prop := (0 ≤ t ∧ t ≤ n) ∧ (0 ≤ x ∧ x < 60) ∧ sp_tab s wm k n (9 - a).toNat ((a * 61 + t) * 60 + x) < 1000000
theorem sp_won_st {s wm : Int → Int} {k n a t x : Int} (hk : 0 ≤ k ∧ k < 6) (hi : sp_inv s) (hn : 0 ≤ n ∧ n ≤ 60) (ha : 0 ≤ a ∧ a < 9) (hwm : sp_wmr wm) (h : sp_won s wm k n a t x) :
    ∃ b c, 0 ≤ b ∧ b < 3 ∧ 0 ≤ c ∧ c < 4 ∧ (sp_lf s wm (sp_tab s wm k n (8 - a).toNat) k n a t x 12).2 = 10 * b + c ∧ (sp_lf s wm (sp_tab s wm k n (8 - a).toNat) k n a t x 12).1 < 1000000 ∧ sp_won s wm k n (a + 1) (t + (b + s (33 + 2 * c))) (sp_then s k x c) := by
  obtain ⟨h1, h2, h3⟩ := h
  rw [show (9 - a).toNat = (8 - a).toNat + 1 by omega, sp_tab_at (8 - a).toNat (by omega) (by omega) (by omega) h2] at h3
  rcases sp_lf_way (s := s) (wm := wm) (T := sp_tab s wm k n (8 - a).toNat) (k := k) (n := n) (a := a) (t := t) (x := x) 12 (by decide) with q | ⟨b, c, b0, b1, c0, c1, e1, e2⟩
  · omega
  · rw [e2] at h3
    have q := sp_lby_on hk hi hn ha (by omega) h2 ⟨b0, b1⟩ ⟨c0, c1⟩ hwm h3
    refine ⟨b, c, b0, b1, c0, c1, e1, by omega, ⟨by omega, by omega⟩, ⟨q.2.2.1, q.2.2.2.1⟩, ?_⟩
    rw [show (9 - (a + 1)).toNat = (8 - a).toNat by omega, show t + (b + s (33 + 2 * c)) = t + b + s (33 + 2 * c) by omega]
    exact q.2.2.2.2
theorem sp_won_0 {s wm : Int → Int} {k n : Int} (hm : 0 ≤ s (41 + 9 * k + 1) ∧ s (41 + 9 * k + 1) ≤ 9) (hn : 0 ≤ n) (h5 : 0 ≤ s (41 + 9 * k + 5)) (h6 : 0 ≤ s (41 + 9 * k + 6) ∧ s (41 + 9 * k + 6) < 60) (h : sp_rel s wm k n ≠ 1000000) : sp_won s wm k n (s (41 + 9 * k + 2)) 0 (s (41 + 9 * k + 6)) := by
  have ht := sp_turns_rg (k := s (41 + 9 * k + 0)) hm
  unfold sp_rel at h
  refine ⟨by omega, h6, ?_⟩
  split at h
  · omega
  · exact absurd rfl h
/-- the row of sums itself -/
def sp_wmc (s : Int → Int) (k : Int) : Int → Int := fun i => sp_ws s k (i / 61) (i % 61).toNat
theorem sp_wmc_ok (s : Int → Int) (k : Int) : sp_wmok s k (sp_wmc s k) 9 := by
  intro a t h0 h1 h2 h3
  unfold sp_wmc
  rw [show (a * 61 + t) / 61 = a by omega, show (a * 61 + t) % 61 = t by omega]
theorem sp_wys_wsame {s wm wn : Int → Int} {k n : Int} (hk : 0 ≤ k ∧ k < 6) (hi : sp_inv s) (hn : 0 ≤ n ∧ n ≤ 60) (hat : 0 ≤ s (41 + 9 * k + 2)) (hm : sp_wmok s k wm 9) (hm2 : sp_wmok s k wn 9) (h0 : sp_won s wm k n (s (41 + 9 * k + 2)) 0 (s (41 + 9 * k + 6))) (j : Nat) (hj : s (41 + 9 * k + 2) + (j : Int) ≤ 9) : sp_wys s wm k n j = sp_wys s wn k n j ∧ sp_won s wm k n (s (41 + 9 * k + 2) + (j : Int)) (sp_wys s wm k n j).1 (sp_wys s wm k n j).2.1 := by
  have hwm := sp_wmr_of (hi.2.2.2.2.1 k hk.1 hk.2).2.1 hm
  induction j with
  | zero => exact ⟨rfl, by simpa [sp_wys] using h0⟩
  | succ j ih =>
    obtain ⟨e, w⟩ := ih (by omega)
    obtain ⟨b, c, b0, b1, c0, c1, e1, e2, e3⟩ := sp_won_st hk hi hn (by omega) hwm w
    have hb : (10 * b + c).tdiv 10 = b := by rw [Int.tdiv_eq_ediv_of_nonneg (by omega)]; omega
    have hc : (10 * b + c).tmod 10 = c := by rw [Int.tmod_eq_emod_of_nonneg (by omega)]; omega
    refine ⟨?_, ?_⟩
    · show sp_wstep s wm k n (s (41 + 9 * k + 2) + (j : Int)) (sp_wys s wm k n j) = sp_wstep s wn k n (s (41 + 9 * k + 2) + (j : Int)) (sp_wys s wn k n j)
      rw [← e]
      unfold sp_wstep
      rw [sp_tab_wsame hk hi hn.2 hm hm2 (8 - (s (41 + 9 * k + 2) + (j : Int))).toNat (by omega), sp_lf_wsame hk hi hn.2 (by omega) ⟨w.1.1, by have := w.1.2; omega⟩ w.2.1 hm hm2 12 (by decide)]
    · show sp_won s wm k n (s (41 + 9 * k + 2) + ((j + 1 : Nat) : Int)) (sp_wstep s wm k n (s (41 + 9 * k + 2) + (j : Int)) (sp_wys s wm k n j)).1 (sp_wstep s wm k n (s (41 + 9 * k + 2) + (j : Int)) (sp_wys s wm k n j)).2.1
      unfold sp_wstep
      rw [e1, hb, hc, show s (41 + 9 * k + 2) + ((j + 1 : Nat) : Int) = s (41 + 9 * k + 2) + (j : Int) + 1 by omega]
      exact e3
theorem sp_tabs_mono {s wm T : Int → Int} {k n j i : Int} (h : sp_tabs s wm T k n j) (hji : j ≤ i) : sp_tabs s wm T k n i := fun b h0 h1 => h b (by omega) h1
set_option maxRecDepth 100000 in
set_option maxHeartbeats 4000000 in
theorem k_wayAt {g : mh_G} {d : Nat} (hd : 8 ≤ d) {h : Nat → Int → Int} (hF : mh_FX h) {o : Int → Int} (r81 : h 81 = o) {s : Int → Int} (r82 : h 82 = s) {T : Int → Int} (r89 : h 89 = T) {wm : Int → Int} (r90 : h 90 = wm) {k n z : Int} (hk : 0 ≤ k ∧ k < 6) (hi : sp_inv s) (hn : 0 ≤ n ∧ n ≤ 60) (hz : s (41 + 9 * k + 2) ≤ z ∧ z ≤ 8) (hwm : sp_wmr wm) (hA : sp_tabs s wm T k n (s (41 + 9 * k + 2) - 1)) (h0 : sp_won s wm k n (s (41 + 9 * k + 2)) 0 (s (41 + 9 * k + 6))) : mh_M g d yX12_wayAt cX12_wayAt 9 (some .int) 96 0 0 [.ref 81, .int (Int32.ofInt (k)), .int (Int32.ofInt (n)), .int (Int32.ofInt (z))] h (fun r h2 => r = some (.int (Int32.ofInt ((sp_way s wm k n z)))) ∧ mh_FX h2 ∧ mh_fr [81] h h2 ∧ sp_o16 o (h2 81)) := by
  refine mh_M_of RX12 rfl (by decide +kernel) [some (.ref 81), some (.int (Int32.ofInt (k))), some (.int (Int32.ofInt (n))), some (.int (Int32.ofInt (z))), none, none, none, none, none] rfl (Nat.le_of_ble_eq_true rfl) (fun f F Z hn0 hR => ?_)
  have hcc := hi.2.2.2.2.1 k hk.1 hk.2
  have hws := hi.2.2.2.2.2
  obtain ⟨hH, hC⟩ := hi.2.2.2.1
  obtain ⟨c0, c1, c2, c3, c4, c5, c6, c7, c8, c9, c10, c11, c12, c13⟩ := hcc
  unfold sp_row at c0 c1 c2 c3 c4 c5 c6 c7 c8 c9 c10 c11 c12 c13
  refine mh_iconst (pc := 0) F dX12_wayAt_0 ?_
  refine mh_istore4 (pc := 1) F dX12_wayAt_1 rfl (by decide) ?_
  refine mh_aload0 (pc := 3) F dX12_wayAt_3 ?_
  refine mh_iload1 (pc := 4) F dX12_wayAt_4 ?_
  refine mh_bipush (pc := 5) F dX12_wayAt_5 rfl ?_
  refine mh_callVp (pc := 7) (As := [.int (Int32.ofInt (k)), .int (Int32.ofInt (6))]) (st := []) F (by omega) (k_its (by omega) hF r82 (by omega) (by omega)) wv_RX12_79_yX12_its dX12_wayAt_7 sh_81 rfl (by decide) rfl rfl (Nat.le_of_ble_eq_true rfl) ⟨Nat.zero_le _, Nat.zero_le _⟩ ?_
  refine mh_istore5 (pc := 10) F dX12_wayAt_10 rfl (by decide) ?_
  refine mh_iconst (pc := 12) F dX12_wayAt_12 ?_
  refine mh_istore6 (pc := 13) F dX12_wayAt_13 rfl (by decide) ?_
  refine mh_aload0 (pc := 15) F dX12_wayAt_15 ?_
  refine mh_iload1 (pc := 16) F dX12_wayAt_16 ?_
  refine mh_iconst (pc := 17) F dX12_wayAt_17 ?_
  refine mh_callVp (pc := 18) (As := [.int (Int32.ofInt (k)), .int (Int32.ofInt (2))]) (st := []) F (by omega) (k_its (by omega) hF r82 (by omega) (by omega)) wv_RX12_79_yX12_its dX12_wayAt_18 sh_81 rfl (by decide) rfl rfl (Nat.le_of_ble_eq_true rfl) ⟨Nat.zero_le _, Nat.zero_le _⟩ ?_
  refine mh_istore7 (pc := 21) F dX12_wayAt_21 rfl (by decide) ?_
  have L23 : ∀ (m : Nat) (t : Int) (x : Int) (y : Int) (a : Int) (hh : Nat → Int → Int) (oz : Int → Int), (mh_FX hh) → (mh_fr [81] h hh) → (hh 81 = oz) → (hh 82 = s) → (hh 89 = T) → (hh 90 = wm) → (s (41 + 9 * k + 2) ≤ a ∧ a ≤ z + 1) → (sp_won s wm k n a t x) → ((t, x, y) = sp_wys s wm k n (a - s (41 + 9 * k + 2)).toNat) → (sp_o16 o oz) → (z + 1 - a).toNat = m → mh_V g f 9 96 0 0 23 [some (.ref 81), some (.int (Int32.ofInt (k))), some (.int (Int32.ofInt (n))), some (.int (Int32.ofInt (z))), some (.int (Int32.ofInt (t))), some (.int (Int32.ofInt (x))), some (.int (Int32.ofInt (y))), some (.int (Int32.ofInt (a))), none] [] hh := by
    intro m
    induction m using Nat.strongRecOn with
    | _ m ihL23 =>
    intro t x y a hh oz Fhh frhh q81hh q82hh q89hh q90hh ha hw hst hoz hmz
    refine mh_iload7 (pc := 23) F dX12_wayAt_23 ?_
    refine mh_iload3 (pc := 25) F dX12_wayAt_25 ?_
    refine mh_icmp_gt (pc := 26) (tgt := 126) F dX12_wayAt_26 rfl (by omega) (by omega) (fun c_26 => ?_) (fun c_26 => ?_)
    · refine mh_iload6 (pc := 126) F dX12_wayAt_126 ?_
      exact mh_ireturn F Z dX12_wayAt_128 ⟨(by unfold sp_way; rw [show z + 1 = a by omega, ← hst]), Fhh, (frhh.mono (by simp)), (by rw [q81hh]; exact hoz)⟩
    · have hT := sp_tabs_lok hk hi hn hwm (show 0 ≤ a ∧ a < 9 by omega) (sp_tabs_mono hA (by omega))
      have hwt := hw.1
      have hwx := hw.2.1
      refine mh_aload0 (pc := 29) F dX12_wayAt_29 ?_
      refine mh_iload1 (pc := 30) F dX12_wayAt_30 ?_
      refine mh_iload2 (pc := 31) F dX12_wayAt_31 ?_
      refine mh_iload7 (pc := 32) F dX12_wayAt_32 ?_
      refine mh_iload4 (pc := 34) F dX12_wayAt_34 ?_
      refine mh_iload5 (pc := 36) F dX12_wayAt_36 ?_
      obtain ⟨b, c, b0, b1, cc0, cc1, e1, e2, e3⟩ := sp_won_st hk hi hn (show 0 ≤ a ∧ a < 9 by omega) hwm hw
      have hsm := sp_lf_same (wm := wm) (V := sp_tab s wm k n (8 - a).toNat) hk hi hw.1.1 hw.2.1 (show sp_lsame T (sp_tab s wm k n (8 - a).toNat) n (a + 1) by rw [show (8 - a).toNat = (9 - (a + 1)).toNat by omega]; exact hA (a + 1) (by omega) (by omega)) 12 (Nat.le_refl _)
      rw [← hsm] at e1 e2
      have hb10 : (10 * b + c).tdiv 10 = b := by rw [Int.tdiv_eq_ediv_of_nonneg (by omega)]; omega
      have hc10 : (10 * b + c).tmod 10 = c := by rw [Int.tmod_eq_emod_of_nonneg (by omega)]; omega
      have hlr := (sp_lf_rg hk hi hn (show 0 ≤ a ∧ a < 9 by omega) (show 0 ≤ t ∧ t ≤ 60 by have := hw.1; omega) hw.2.1 hwm hT 12 (Nat.le_refl _)).1
      have hpc := (hC c cc0 cc1).1
      have hsh := (hC c cc0 cc1).2
      have hjl := sp_jolts_rg (k := s (41 + 9 * k + 0)) c1 hsh
      refine mh_callV0 (pc := 38) (As := [.int (Int32.ofInt (k)), .int (Int32.ofInt (n)), .int (Int32.ofInt (a)), .int (Int32.ofInt (t)), .int (Int32.ofInt (x))]) (st := []) F (by omega) (k_leastFrom (by omega) Fhh q81hh q82hh q89hh q90hh (by omega) hi (by omega) (by omega) (by omega) (by omega) hwm hT) wv_RX12_300_yX12_leastFrom dX12_wayAt_38 sh_81 rfl (by decide) rfl rfl (Nat.le_of_ble_eq_true rfl) ⟨Nat.zero_le _, Nat.zero_le _⟩ (fun r1 h1 q1 => ?_)
      obtain ⟨rfl, F1, fr1, q1_0⟩ := q1
      have r82_2 : h1 82 = s := (fr1 _ (by decide)).trans q82hh
      have r89_2 : h1 89 = T := (fr1 _ (by decide)).trans q89hh
      have r90_2 : h1 90 = wm := (fr1 _ (by decide)).trans q90hh
      have fr2 : mh_fr [81] h h1 := (mh_fr.tr frhh fr1).mono (by simp)
      refine mh_istore8 (pc := 41) F dX12_wayAt_41 rfl (by decide) ?_
      refine mh_iload8 (pc := 43) F dX12_wayAt_43 ?_
      refine mh_ldcw (x := 1000000) (pc := 45) F dX12_wayAt_45 tw_7_58 ?_
      refine mh_icmp_ge (pc := 48) (tgt := 58) F dX12_wayAt_48 rfl (by omega) (by omega) (fun c_48 => ?_) (fun c_48 => ?_)
      · exfalso; omega
      · refine mh_aload0 (pc := 51) F dX12_wayAt_51 ?_
        refine mh_getir (pc := 52) F sh_81 (by decide) fw_RX12_290_12 dX12_wayAt_52 rfl q1_0 ?_
        refine mh_goto (pc := 55) (tgt := 59) F dX12_wayAt_55 rfl ?_
        refine mh_top (y := 10 * b + c) (mh_eqI (by rw [mh_ur_eq rfl]; exact e1)) ?_
        refine mh_istore6 (pc := 59) F dX12_wayAt_59 rfl (by decide) ?_
        refine mh_iload4 (pc := 61) F dX12_wayAt_61 ?_
        refine mh_iload6 (pc := 63) F dX12_wayAt_63 ?_
        refine mh_bipush (pc := 65) F dX12_wayAt_65 rfl ?_
        refine mh_idiv (pc := 67) F dX12_wayAt_67 (by omega) (by omega) (by omega) ?_
        refine mh_top (y := b) (mh_eqI hb10) ?_
        refine mh_aload0 (pc := 68) F dX12_wayAt_68 ?_
        refine mh_iload6 (pc := 69) F dX12_wayAt_69 ?_
        refine mh_bipush (pc := 71) F dX12_wayAt_71 rfl ?_
        refine mh_irem (pc := 73) F dX12_wayAt_73 (by omega) (by omega) (by omega) ?_
        refine mh_top (y := c) (mh_eqI hc10) ?_
        refine mh_callVp (pc := 74) (As := [.int (Int32.ofInt (c))]) (st := [.int (Int32.ofInt (b)), .int (Int32.ofInt (t))]) F (by omega) (k_pace (by omega) F1 r82_2 (by omega)) wv_RX12_132_yX12_pace dX12_wayAt_74 sh_81 rfl (by decide) rfl rfl (Nat.le_of_ble_eq_true rfl) ⟨Nat.zero_le _, Nat.zero_le _⟩ ?_
        refine mh_iadd (pc := 77) F dX12_wayAt_77 ?_
        refine mh_iadd (pc := 78) F dX12_wayAt_78 ?_
        refine mh_istore4 (pc := 79) F dX12_wayAt_79 rfl (by decide) ?_
        refine mh_iload5 (pc := 81) F dX12_wayAt_81 ?_
        refine mh_aload0 (pc := 83) F dX12_wayAt_83 ?_
        refine mh_iload6 (pc := 84) F dX12_wayAt_84 ?_
        refine mh_bipush (pc := 86) F dX12_wayAt_86 rfl ?_
        refine mh_irem (pc := 88) F dX12_wayAt_88 (by omega) (by omega) (by omega) ?_
        refine mh_top (y := c) (mh_eqI hc10) ?_
        refine mh_callVp (pc := 89) (As := [.int (Int32.ofInt (c))]) (st := [.int (Int32.ofInt (x))]) F (by omega) (k_pace (by omega) F1 r82_2 (by omega)) wv_RX12_132_yX12_pace dX12_wayAt_89 sh_81 rfl (by decide) rfl rfl (Nat.le_of_ble_eq_true rfl) ⟨Nat.zero_le _, Nat.zero_le _⟩ ?_
        refine mh_aload0 (pc := 92) F dX12_wayAt_92 ?_
        refine mh_iload1 (pc := 93) F dX12_wayAt_93 ?_
        refine mh_iconst (pc := 94) F dX12_wayAt_94 ?_
        refine mh_callVp (pc := 95) (As := [.int (Int32.ofInt (k)), .int (Int32.ofInt (0))]) (st := [.int (Int32.ofInt (s (33 + 2 * c))), .int (Int32.ofInt (x))]) F (by omega) (k_its (by omega) F1 r82_2 (by omega) (by omega)) wv_RX12_79_yX12_its dX12_wayAt_95 sh_81 rfl (by decide) rfl rfl (Nat.le_of_ble_eq_true rfl) ⟨Nat.zero_le _, Nat.zero_le _⟩ ?_
        refine mh_aload0 (pc := 98) F dX12_wayAt_98 ?_
        refine mh_iload1 (pc := 99) F dX12_wayAt_99 ?_
        refine mh_iconst (pc := 100) F dX12_wayAt_100 ?_
        refine mh_callVp (pc := 101) (As := [.int (Int32.ofInt (k)), .int (Int32.ofInt (1))]) (st := [.int (Int32.ofInt (s (41 + 9 * k + 0))), .int (Int32.ofInt (s (33 + 2 * c))), .int (Int32.ofInt (x))]) F (by omega) (k_its (by omega) F1 r82_2 (by omega) (by omega)) wv_RX12_79_yX12_its dX12_wayAt_101 sh_81 rfl (by decide) rfl rfl (Nat.le_of_ble_eq_true rfl) ⟨Nat.zero_le _, Nat.zero_le _⟩ ?_
        refine mh_aload0 (pc := 104) F dX12_wayAt_104 ?_
        refine mh_iload6 (pc := 105) F dX12_wayAt_105 ?_
        refine mh_bipush (pc := 107) F dX12_wayAt_107 rfl ?_
        refine mh_irem (pc := 109) F dX12_wayAt_109 (by omega) (by omega) (by omega) ?_
        refine mh_top (y := c) (mh_eqI hc10) ?_
        refine mh_callVp (pc := 110) (As := [.int (Int32.ofInt (c))]) (st := [.int (Int32.ofInt (s (41 + 9 * k + 1))), .int (Int32.ofInt (s (41 + 9 * k + 0))), .int (Int32.ofInt (s (33 + 2 * c))), .int (Int32.ofInt (x))]) F (by omega) (k_shake (by omega) F1 r82_2 (by omega)) wv_RX12_248_yX12_shake dX12_wayAt_110 sh_81 rfl (by decide) rfl rfl (Nat.le_of_ble_eq_true rfl) ⟨Nat.zero_le _, Nat.zero_le _⟩ ?_
        refine mh_callSp (pc := 113) (As := [.int (Int32.ofInt (s (41 + 9 * k + 0))), .int (Int32.ofInt (s (41 + 9 * k + 1))), .int (Int32.ofInt (s (33 + 2 * c + 1)))]) (st := [.int (Int32.ofInt (s (33 + 2 * c))), .int (Int32.ofInt (x))]) F (by omega) (k_jolts (by omega) (by omega) (by omega) (by omega)) ws_RX12_251 dX12_wayAt_113 rfl rfl (Nat.le_of_ble_eq_true rfl) ⟨Nat.zero_le _, Nat.zero_le _⟩ ?_
        refine mh_imul (pc := 116) F dX12_wayAt_116 ?_
        refine mh_iadd (pc := 117) F dX12_wayAt_117 ?_
        refine mh_istore5 (pc := 118) F dX12_wayAt_118 rfl (by decide) ?_
        refine mh_iinc7 (pc := 120) F dX12_wayAt_120 rfl (by decide) ?_
        refine mh_goto (pc := 123) (tgt := 23) F dX12_wayAt_123 rfl ?_
        refine mh_drop8 ?_
        exact ihL23 _ (by omega) (t + (b + (s (33 + 2 * c)))) (x + ((s (33 + 2 * c)) * (sp_jolts (s (41 + 9 * k + 0)) (s (41 + 9 * k + 1)) (s (33 + 2 * c + 1))))) (10 * b + c) (a + 1) h1 (mh_ur oz 16 (sp_lf s wm T k n a t x 12).2) F1 (fr2.mono (by simp)) q1_0 r82_2 r89_2 r90_2 (by omega) e3 (by rw [sp_wys_at s wm k n (by omega), ← hst]; unfold sp_wstep; simp only []; rw [← hsm, e1, hb10, hc10]; first | done | rfl) (by first | exact hoz | exact hoz.st) rfl
  exact L23 _ 0 (s (41 + 9 * k + 6)) (-1) (s (41 + 9 * k + 2)) h o hF (mh_fr.rf.mono (by simp)) r81 r82 r89 r90 (by omega) h0 (by rw [show s (41 + 9 * k + 2) - s (41 + 9 * k + 2) = 0 by omega]; rfl) (fun _ _ => rfl) rfl

