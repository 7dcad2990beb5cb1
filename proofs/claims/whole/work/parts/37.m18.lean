/-! relays -/
def sp_wq (s : Int → Int) (k a t : Int) : Int := sp_warms (s (41 + 9 * k + 0)) (s (41 + 9 * k + 1)) (sp_warm s a (s 0 + t))
def sp_ws (s : Int → Int) (k a : Int) : Nat → Int
  | 0 => 0
  | t + 1 => sp_ws s k a t + sp_wq s k a (t : Int)
theorem sp_ws_at (s : Int → Int) (k a : Int) {t : Int} (h : 0 ≤ t) : sp_ws s k a (t + 1).toNat = sp_ws s k a t.toNat + sp_wq s k a t := by
  rw [show (t + 1).toNat = t.toNat + 1 by omega]
  show _ + sp_wq s k a (t.toNat : Int) = _
  rw [Int.toNat_of_nonneg h]
theorem sp_wq_rg {s : Int → Int} {k a t : Int} (hm : 0 ≤ s (41 + 9 * k + 1) ∧ s (41 + 9 * k + 1) ≤ 9) : 0 ≤ sp_wq s k a t ∧ sp_wq s k a t ≤ 43 := sp_warms_rg hm sp_law_rg0
theorem sp_ws_rg {s : Int → Int} {k a : Int} (hm : 0 ≤ s (41 + 9 * k + 1) ∧ s (41 + 9 * k + 1) ≤ 9) (t : Nat) : 0 ≤ sp_ws s k a t ∧ sp_ws s k a t ≤ 43 * t := by
  induction t with
  | zero => exact ⟨Int.le_refl _, Int.le_refl _⟩
  | succ t ih =>
    have := sp_wq_rg (s := s) (k := k) (a := a) (t := (t : Int)) hm
    show 0 ≤ _ + _ ∧ _ + _ ≤ _
    omega
theorem sp_ws_mono {s : Int → Int} {k a : Int} (hm : 0 ≤ s (41 + 9 * k + 1) ∧ s (41 + 9 * k + 1) ≤ 9) (t n : Nat) : sp_ws s k a t ≤ sp_ws s k a (t + n) := by
  induction n with
  | zero => exact Int.le_refl _
  | succ n ih =>
    have := sp_wq_rg (s := s) (k := k) (a := a) (t := ((t + n : Nat) : Int)) hm
    show sp_ws s k a t ≤ sp_ws s k a (t + n) + sp_wq s k a ((t + n : Nat) : Int)
    omega
/-- the row of sums, for the hills ahead of b -/
def sp_wmok (s : Int → Int) (k : Int) (wm : Int → Int) (b : Int) : Prop := ∀ a t, 0 ≤ a → a < b → 0 ≤ t → t ≤ 60 → wm (a * 61 + t) = sp_ws s k a t.toNat
set_option maxRecDepth 100000 in
set_option maxHeartbeats 4000000 in
theorem k_placeOf {g : mh_G} {d : Nat} (hd : 1 ≤ d) {h : Nat → Int → Int} {a t x : Int}  : mh_MP g d yX12_placeOf cX12_placeOf 3 (some .int) 96 [.int (Int32.ofInt (a)), .int (Int32.ofInt (t)), .int (Int32.ofInt (x))] h (some (.int (Int32.ofInt ((a * 61 + t) * 60 + x)))) := by
  refine mh_M_of RX12 rfl (by decide +kernel) [some (.int (Int32.ofInt (a))), some (.int (Int32.ofInt (t))), some (.int (Int32.ofInt (x)))] rfl (Nat.le_of_ble_eq_true rfl) (fun f F Z hn0 hR => ?_)
  refine mh_iload0 (pc := 0) F dX12_placeOf_0 ?_
  refine mh_bipush (pc := 1) F dX12_placeOf_1 rfl ?_
  refine mh_imul (pc := 3) F dX12_placeOf_3 ?_
  refine mh_iload1 (pc := 4) F dX12_placeOf_4 ?_
  refine mh_iadd (pc := 5) F dX12_placeOf_5 ?_
  refine mh_bipush (pc := 6) F dX12_placeOf_6 rfl ?_
  refine mh_imul (pc := 8) F dX12_placeOf_8 ?_
  refine mh_iload2 (pc := 9) F dX12_placeOf_9 ?_
  refine mh_iadd (pc := 10) F dX12_placeOf_10 ?_
  exact mh_ireturnp F Z dX12_placeOf_11 rfl rfl

set_option maxRecDepth 100000 in
set_option maxHeartbeats 4000000 in
theorem k_warmedIn {g : mh_G} {d : Nat} (hd : 1 ≤ d) {h : Nat → Int → Int} (hF : mh_FX h) {wm : Int → Int} (r90 : h 90 = wm) {a t x : Int} (ha : 0 ≤ a ∧ a < 9) (ht : 0 ≤ t ∧ t ≤ 60) (hx : 0 ≤ x ∧ x ≤ 60) : mh_MP g d yX12_warmedIn cX12_warmedIn 4 (some .int) 96 [.ref 81, .int (Int32.ofInt (a)), .int (Int32.ofInt (t)), .int (Int32.ofInt (x))] h (some (.int (Int32.ofInt (wm (a * 61 + x) - wm (a * 61 + t))))) := by
  refine mh_M_of RX12 rfl (by decide +kernel) [some (.ref 81), some (.int (Int32.ofInt (a))), some (.int (Int32.ofInt (t))), some (.int (Int32.ofInt (x)))] rfl (Nat.le_of_ble_eq_true rfl) (fun f F Z hn0 hR => ?_)
  refine mh_aload0 (pc := 0) F dX12_warmedIn_0 ?_
  refine mh_getr (b := 90) (pc := 1) F sh_81 (by decide) fw_RX12_35_12 dX12_warmedIn_1 rfl (fx_81_15 hF) ?_
  refine mh_iload1 (pc := 4) F dX12_warmedIn_4 ?_
  refine mh_bipush (pc := 5) F dX12_warmedIn_5 rfl ?_
  refine mh_imul (pc := 7) F dX12_warmedIn_7 ?_
  refine mh_iload3 (pc := 8) F dX12_warmedIn_8 ?_
  refine mh_iadd (pc := 9) F dX12_warmedIn_9 ?_
  refine mh_ialoadr (pc := 10) F sh_90 (by decide) (by omega) dX12_warmedIn_10 r90 ?_
  refine mh_aload0 (pc := 11) F dX12_warmedIn_11 ?_
  refine mh_getr (b := 90) (pc := 12) F sh_81 (by decide) fw_RX12_35_12 dX12_warmedIn_12 rfl (fx_81_15 hF) ?_
  refine mh_iload1 (pc := 15) F dX12_warmedIn_15 ?_
  refine mh_bipush (pc := 16) F dX12_warmedIn_16 rfl ?_
  refine mh_imul (pc := 18) F dX12_warmedIn_18 ?_
  refine mh_iload2 (pc := 19) F dX12_warmedIn_19 ?_
  refine mh_iadd (pc := 20) F dX12_warmedIn_20 ?_
  refine mh_ialoadr (pc := 21) F sh_90 (by decide) (by omega) dX12_warmedIn_21 r90 ?_
  refine mh_isub (pc := 22) F dX12_warmedIn_22 ?_
  exact mh_ireturnp F Z dX12_warmedIn_23 rfl rfl

set_option maxRecDepth 100000 in
set_option maxHeartbeats 4000000 in
theorem k_findWarmed {g : mh_G} {d : Nat} (hd : 7 ≤ d) {h : Nat → Int → Int} (hF : mh_FX h) {s : Int → Int} (r82 : h 82 = s) {w0 : Int → Int} (r90 : h 90 = w0) {k : Int} (hk : 0 ≤ k ∧ k < 6) (hi : sp_inv s) (hq9 : s 0 ≤ 9999) : mh_M g d yX12_findWarmed cX12_findWarmed 5 none 96 0 0 [.ref 81, .int (Int32.ofInt (k))] h (fun r h2 => r = none ∧ mh_FX h2 ∧ mh_fr [86, 87, 90] h h2 ∧ sp_wmok s k (h2 90) 9) := by
  refine mh_M_of RX12 rfl (by decide +kernel) [some (.ref 81), some (.int (Int32.ofInt (k))), none, none, none] rfl (Nat.le_of_ble_eq_true rfl) (fun f F Z hn0 hR => ?_)
  have hcc := hi.2.2.2.2.1 k hk.1 hk.2
  have hws := hi.2.2.2.2.2
  obtain ⟨hH, hC⟩ := hi.2.2.2.1
  obtain ⟨c0, c1, c2, c3, c4, c5, c6, c7, c8, c9, c10, c11, c12, c13⟩ := hcc
  unfold sp_row at c0 c1 c2 c3 c4 c5 c6 c7 c8 c9 c10 c11 c12 c13
  have hq0 := hi.2.1
  refine mh_iconst (pc := 0) F dX12_findWarmed_0 ?_
  refine mh_istore2 (pc := 1) F dX12_findWarmed_1 rfl (by decide) ?_
  have L2 : ∀ (m : Nat) (a : Int) (hh : Nat → Int → Int) (t9 : Int → Int), (mh_FX hh) → (mh_fr [90, 86, 87] h hh) → (hh 82 = s) → (hh 90 = t9) → (0 ≤ a ∧ a ≤ 9) → (sp_wmok s k t9 a) → (9 - a).toNat = m → mh_V g f 5 96 0 0 2 [some (.ref 81), some (.int (Int32.ofInt (k))), some (.int (Int32.ofInt (a))), none, none] [] hh := by
    intro m
    induction m using Nat.strongRecOn with
    | _ m ihL2 =>
    intro a hh t9 Fhh frhh q82hh q90hh ha hok hmz
    refine mh_iload2 (pc := 2) F dX12_findWarmed_2 ?_
    refine mh_bipush (pc := 3) F dX12_findWarmed_3 rfl ?_
    refine mh_icmp_ge (pc := 5) (tgt := 77) F dX12_findWarmed_5 rfl (by omega) (by omega) (fun c_5 => ?_) (fun c_5 => ?_)
    · exact mh_return F Z dX12_findWarmed_77 ⟨rfl, Fhh, (frhh.mono (by simp)), (by rw [q90hh, show (9 : Int) = a by omega]; exact hok)⟩
    · refine mh_iconst (pc := 8) F dX12_findWarmed_8 ?_
      refine mh_istore3 (pc := 9) F dX12_findWarmed_9 rfl (by decide) ?_
      refine mh_iconst (pc := 10) F dX12_findWarmed_10 ?_
      refine mh_istore4 (pc := 11) F dX12_findWarmed_11 rfl (by decide) ?_
      have L13 : ∀ (m : Nat) (u : Int) (t : Int) (hg : Nat → Int → Int) (tn : Int → Int), (mh_FX hg) → (mh_fr [90, 86, 87] h hg) → (hg 82 = s) → (hg 90 = tn) → (0 ≤ t ∧ t ≤ 61) → (u = sp_ws s k a t.toNat) → (sp_wmok s k tn a) → (∀ x, 0 ≤ x → x < t → tn (a * 61 + x) = sp_ws s k a x.toNat) → (61 - t).toNat = m → mh_V g f 5 96 0 0 13 [some (.ref 81), some (.int (Int32.ofInt (k))), some (.int (Int32.ofInt (a))), some (.int (Int32.ofInt (u))), some (.int (Int32.ofInt (t)))] [] hg := by
        intro m
        induction m using Nat.strongRecOn with
        | _ m ihL13 =>
        intro u t hg tn Fhg frhg q82hg q90hg ht hu hok2 hnew hmz
        refine mh_iload4 (pc := 13) F dX12_findWarmed_13 ?_
        refine mh_bipush (pc := 15) F dX12_findWarmed_15 rfl ?_
        refine mh_icmp_gt (pc := 17) (tgt := 71) F dX12_findWarmed_17 rfl (by omega) (by omega) (fun c_17 => ?_) (fun c_17 => ?_)
        · refine mh_iinc2 (pc := 71) F dX12_findWarmed_71 rfl (by decide) ?_
          refine mh_goto (pc := 74) (tgt := 2) F dX12_findWarmed_74 rfl ?_
          refine mh_drop3 ?_
          refine mh_drop4 ?_
          exact ihL2 _ (by omega) (a + 1) hg tn Fhg (frhg.mono (by simp)) q82hg q90hg (by omega) (fun b t2 h0 h1 h2 h3 => by rcases (show b < a ∨ b = a by omega) with q | q; exact hok2 b t2 h0 q h2 h3; rw [q]; exact hnew t2 h2 (by omega)) rfl
        · have hwr := sp_ws_rg (s := s) (k := k) (a := a) c1 t.toNat
          rw [← hu] at hwr
          have hh := (hH a (by omega) (by omega)).1
          have hwm : 0 ≤ sp_warm s a (s 0 + t) ∧ sp_warm s a (s 0 + t) ≤ 40 := sp_law_rg0
          refine mh_aload0 (pc := 20) F dX12_findWarmed_20 ?_
          refine mh_getr (b := 90) (pc := 21) F sh_81 (by decide) fw_RX12_35_12 dX12_findWarmed_21 rfl (fx_81_15 Fhg) ?_
          refine mh_iload2 (pc := 24) F dX12_findWarmed_24 ?_
          refine mh_bipush (pc := 25) F dX12_findWarmed_25 rfl ?_
          refine mh_imul (pc := 27) F dX12_findWarmed_27 ?_
          refine mh_iload4 (pc := 28) F dX12_findWarmed_28 ?_
          refine mh_iadd (pc := 30) F dX12_findWarmed_30 ?_
          refine mh_iload3 (pc := 31) F dX12_findWarmed_31 ?_
          refine mh_iastore (pc := 32) F sh_90 (by decide) (by omega) dX12_findWarmed_32 ?_
          refine mh_nmh (fun h1 e1 => ?_)
          have F1 : mh_FX h1 := by rw [e1]; exact Fhg.upa rfl
          have r82_1 : h1 82 = s := by rw [e1, mh_up_row (by decide)]; exact q82hg
          have r90_1 : h1 90 = mh_ur tn ((a * 61) + t) u := by rw [e1, mh_up_rs, q90hg]
          have fr1 : mh_fr [90, 86, 87] h h1 := mh_fr.upi frhg e1 (by simp)
          refine mh_iload3 (pc := 33) F dX12_findWarmed_33 ?_
          refine mh_aload0 (pc := 34) F dX12_findWarmed_34 ?_
          refine mh_iload1 (pc := 35) F dX12_findWarmed_35 ?_
          refine mh_iconst (pc := 36) F dX12_findWarmed_36 ?_
          refine mh_callVp (pc := 37) (As := [.int (Int32.ofInt (k)), .int (Int32.ofInt (0))]) (st := [.int (Int32.ofInt (u))]) F (by omega) (k_its (by omega) F1 r82_1 (by omega) (by omega)) wv_RX12_79_yX12_its dX12_findWarmed_37 sh_81 rfl (by decide) rfl rfl (Nat.le_of_ble_eq_true rfl) ⟨Nat.zero_le _, Nat.zero_le _⟩ ?_
          refine mh_aload0 (pc := 40) F dX12_findWarmed_40 ?_
          refine mh_iload1 (pc := 41) F dX12_findWarmed_41 ?_
          refine mh_iconst (pc := 42) F dX12_findWarmed_42 ?_
          refine mh_callVp (pc := 43) (As := [.int (Int32.ofInt (k)), .int (Int32.ofInt (1))]) (st := [.int (Int32.ofInt (s (41 + 9 * k + 0))), .int (Int32.ofInt (u))]) F (by omega) (k_its (by omega) F1 r82_1 (by omega) (by omega)) wv_RX12_79_yX12_its dX12_findWarmed_43 sh_81 rfl (by decide) rfl rfl (Nat.le_of_ble_eq_true rfl) ⟨Nat.zero_le _, Nat.zero_le _⟩ ?_
          refine mh_aload0 (pc := 46) F dX12_findWarmed_46 ?_
          refine mh_iload2 (pc := 47) F dX12_findWarmed_47 ?_
          refine mh_aload0 (pc := 48) F dX12_findWarmed_48 ?_
          refine mh_getr (b := 82) (pc := 49) F sh_81 (by decide) fw_RX12_9_12 dX12_findWarmed_49 rfl (fx_81_0 F1) ?_
          refine mh_iconst (pc := 52) F dX12_findWarmed_52 ?_
          refine mh_ialoadr (pc := 53) F sh_82 (by decide) (by omega) dX12_findWarmed_53 r82_1 ?_
          refine mh_iload4 (pc := 54) F dX12_findWarmed_54 ?_
          refine mh_iadd (pc := 56) F dX12_findWarmed_56 ?_
          refine mh_callV0 (pc := 57) (As := [.int (Int32.ofInt (a)), .int (Int32.ofInt ((s 0) + t))]) (st := [.int (Int32.ofInt (s (41 + 9 * k + 1))), .int (Int32.ofInt (s (41 + 9 * k + 0))), .int (Int32.ofInt (u))]) F (by omega) (k_warm (by omega) F1 r82_1 (by omega) (by omega) (by omega) hws) wv_RX12_122_yX12_warm dX12_findWarmed_57 sh_81 rfl (by decide) rfl rfl (Nat.le_of_ble_eq_true rfl) ⟨Nat.zero_le _, Nat.zero_le _⟩ (fun r2 h2 q2 => ?_)
          obtain ⟨rfl, F2, fr2⟩ := q2
          have r82_3 : h2 82 = s := (fr2 _ (by decide)).trans r82_1
          have r90_3 : h2 90 = mh_ur tn ((a * 61) + t) u := (fr2 _ (by decide)).trans r90_1
          have fr3 : mh_fr [90, 86, 87] h h2 := (mh_fr.tr fr1 fr2).mono (by simp)
          refine mh_callSp (pc := 60) (As := [.int (Int32.ofInt (s (41 + 9 * k + 0))), .int (Int32.ofInt (s (41 + 9 * k + 1))), .int (Int32.ofInt (sp_warm s a ((s 0) + t)))]) (st := [.int (Int32.ofInt (u))]) F (by omega) (k_warms (by omega) (by omega) (by omega) (by omega)) ws_RX12_242 dX12_findWarmed_60 rfl rfl (Nat.le_of_ble_eq_true rfl) ⟨Nat.zero_le _, Nat.zero_le _⟩ ?_
          refine mh_iadd (pc := 63) F dX12_findWarmed_63 ?_
          refine mh_istore3 (pc := 64) F dX12_findWarmed_64 rfl (by decide) ?_
          refine mh_iinc4 (pc := 65) F dX12_findWarmed_65 rfl (by decide) ?_
          refine mh_goto (pc := 68) (tgt := 13) F dX12_findWarmed_68 rfl ?_
          exact ihL13 _ (by omega) (u + (sp_warms (s (41 + 9 * k + 0)) (s (41 + 9 * k + 1)) (sp_warm s a ((s 0) + t)))) (t + 1) h2 (mh_ur tn ((a * 61) + t) u) F2 (fr3.mono (by simp)) r82_3 r90_3 (by omega) (by rw [sp_ws_at s k a ht.1, hu]; rfl) (fun b t2 h0 h1 h2 h3 => by rw [mh_ur_ne (by omega)]; exact hok2 b t2 h0 h1 h2 h3) (fun x h0 h1 => by rcases (show x < t ∨ x = t by omega) with q | q; rw [mh_ur_ne (by omega)]; exact hnew x h0 q; rw [q, mh_ur_eq rfl]; exact hu) rfl
      exact L13 _ 0 0 hh t9 Fhh (frhh.mono (by simp)) q82hh q90hh (by omega) rfl hok (fun x h0 h1 => by omega) rfl
  exact L2 _ 0 h w0 hF (mh_fr.rf.mono (by simp)) r82 r90 (by omega) (fun a t h0 h1 _ _ => by omega) rfl

