/-! relays: the least of the twelve ways -/
theorem mh_ur_ur {s : Int → Int} {i v w : Int} : mh_ur (mh_ur s i v) i w = mh_ur s i w := by
  funext j
  by_cases q : j = i
  · rw [mh_ur_eq q, mh_ur_eq q]
  · rw [mh_ur_ne q, mh_ur_ne q, mh_ur_ne q]
def sp_lfw (s wm T : Int → Int) (k n a u x w : Int) (p : Int × Int) : Int × Int := if sp_lby s wm T k n a u x (w.tdiv 4) (w.tmod 4) < p.1 then (sp_lby s wm T k n a u x (w.tdiv 4) (w.tmod 4), 10 * w.tdiv 4 + w.tmod 4) else p
def sp_lf (s wm T : Int → Int) (k n a u x : Int) : Nat → Int × Int
  | 0 => (1000000, -1)
  | w + 1 => sp_lfw s wm T k n a u x (w : Int) (sp_lf s wm T k n a u x w)
theorem sp_lf_at (s wm T : Int → Int) (k n a u x : Int) {w : Int} (hw : 0 ≤ w) : sp_lf s wm T k n a u x (w + 1).toNat = sp_lfw s wm T k n a u x w (sp_lf s wm T k n a u x w.toNat) := by
  rw [show (w + 1).toNat = w.toNat + 1 by omega]
  show sp_lfw s wm T k n a u x (w.toNat : Int) _ = _
  rw [Int.toNat_of_nonneg hw]
set_option maxRecDepth 100000 in
set_option maxHeartbeats 4000000 in
theorem k_leastFrom {g : mh_G} {d : Nat} (hd : 6 ≤ d) {h : Nat → Int → Int} (hF : mh_FX h) {o : Int → Int} (r81 : h 81 = o) {s : Int → Int} (r82 : h 82 = s) {T : Int → Int} (r89 : h 89 = T) {wm : Int → Int} (r90 : h 90 = wm) {k n a u x : Int} (hk : 0 ≤ k ∧ k < 6) (hi : sp_inv s) (hn : 0 ≤ n ∧ n ≤ 60) (ha : 0 ≤ a ∧ a < 9) (hu : 0 ≤ u ∧ u ≤ 60) (hx : 0 ≤ x ∧ x < 60) (hwm : sp_wmr wm) (hT : sp_lok T n (a + 1)) : mh_M g d yX12_leastFrom cX12_leastFrom 9 (some .int) 96 0 0 [.ref 81, .int (Int32.ofInt (k)), .int (Int32.ofInt (n)), .int (Int32.ofInt (a)), .int (Int32.ofInt (u)), .int (Int32.ofInt (x))] h (fun r h2 => r = some (.int (Int32.ofInt ((sp_lf s wm T k n a u x 12).1))) ∧ mh_FX h2 ∧ mh_fr [81] h h2 ∧ h2 81 = mh_ur o 16 (sp_lf s wm T k n a u x 12).2) := by
  refine mh_M_of RX12 rfl (by decide +kernel) [some (.ref 81), some (.int (Int32.ofInt (k))), some (.int (Int32.ofInt (n))), some (.int (Int32.ofInt (a))), some (.int (Int32.ofInt (u))), some (.int (Int32.ofInt (x))), none, none, none] rfl (Nat.le_of_ble_eq_true rfl) (fun f F Z hn0 hR => ?_)
  refine mh_ldcw (x := 1000000) (pc := 0) F dX12_leastFrom_0 tw_7_58 ?_
  refine mh_istore6 (pc := 3) F dX12_leastFrom_3 rfl (by decide) ?_
  refine mh_aload0 (pc := 5) F dX12_leastFrom_5 ?_
  refine mh_iconst (pc := 6) F dX12_leastFrom_6 ?_
  refine mh_puti (pc := 7) F sh_81 (by decide) pw_RX12_290_12 dX12_leastFrom_7 ?_
  refine mh_nmh (fun h1 e1 => ?_)
  have F1 : mh_FX h1 := by rw [e1]; exact hF.upz rfl
  have r81_1 : h1 81 = mh_ur o 16 (-1) := by rw [e1, mh_up_rs, r81]
  have r82_1 : h1 82 = s := by rw [e1, mh_up_row (by decide)]; exact r82
  have r89_1 : h1 89 = T := by rw [e1, mh_up_row (by decide)]; exact r89
  have r90_1 : h1 90 = wm := by rw [e1, mh_up_row (by decide)]; exact r90
  have fr1 : mh_fr [81] h h1 := mh_fr.up mh_fr.rf e1
  refine mh_iconst (pc := 10) F dX12_leastFrom_10 ?_
  refine mh_istore7 (pc := 11) F dX12_leastFrom_11 rfl (by decide) ?_
  have L13 : ∀ (m : Nat) (be : Int) (w : Int) (hh : Nat → Int → Int) (o9 : Int → Int), (mh_FX hh) → (mh_fr [81] h hh) → (hh 81 = o9) → (hh 82 = s) → (hh 89 = T) → (hh 90 = wm) → (0 ≤ w ∧ w ≤ 12) → (0 ≤ be ∧ be ≤ 1000000) → (be = (sp_lf s wm T k n a u x w.toNat).1) → (o9 = mh_ur o 16 (sp_lf s wm T k n a u x w.toNat).2) → (12 - w).toNat = m → mh_V g f 9 96 0 0 13 [some (.ref 81), some (.int (Int32.ofInt (k))), some (.int (Int32.ofInt (n))), some (.int (Int32.ofInt (a))), some (.int (Int32.ofInt (u))), some (.int (Int32.ofInt (x))), some (.int (Int32.ofInt (be))), some (.int (Int32.ofInt (w))), none] [] hh := by
    intro m
    induction m using Nat.strongRecOn with
    | _ m ihL13 =>
    intro be w hh o9 Fhh frhh q81hh q82hh q89hh q90hh hw hbe hbv hbo hmz
    refine mh_iload7 (pc := 13) F dX12_leastFrom_13 ?_
    refine mh_bipush (pc := 15) F dX12_leastFrom_15 rfl ?_
    refine mh_icmp_ge (pc := 17) (tgt := 74) F dX12_leastFrom_17 rfl (by omega) (by omega) (fun c_17 => ?_) (fun c_17 => ?_)
    · refine mh_iload6 (pc := 74) F dX12_leastFrom_74 ?_
      exact mh_ireturn F Z dX12_leastFrom_76 ⟨(by rw [hbv, show (12 : Nat) = w.toNat by omega]), Fhh, (frhh.mono (by simp)), (q81hh.trans (by rw [hbo, show (12 : Nat) = w.toNat by omega]))⟩
    · have hw4 : w.tdiv 4 = w / 4 := Int.tdiv_eq_ediv_of_nonneg hw.1
      have hw5 : w.tmod 4 = w % 4 := Int.tmod_eq_emod_of_nonneg hw.1
      have hlb := sp_lby_rg (t := u) (b := w.tdiv 4) (c := w.tmod 4) hk hi hn ha hu hx (by omega) (by omega) hwm hT
      refine mh_aload0 (pc := 20) F dX12_leastFrom_20 ?_
      refine mh_iload1 (pc := 21) F dX12_leastFrom_21 ?_
      refine mh_iload2 (pc := 22) F dX12_leastFrom_22 ?_
      refine mh_iload3 (pc := 23) F dX12_leastFrom_23 ?_
      refine mh_iload4 (pc := 24) F dX12_leastFrom_24 ?_
      refine mh_iload5 (pc := 26) F dX12_leastFrom_26 ?_
      refine mh_iload7 (pc := 28) F dX12_leastFrom_28 ?_
      refine mh_iconst (pc := 30) F dX12_leastFrom_30 ?_
      refine mh_idiv (pc := 31) F dX12_leastFrom_31 (by omega) (by omega) (by omega) ?_
      refine mh_iload7 (pc := 32) F dX12_leastFrom_32 ?_
      refine mh_iconst (pc := 34) F dX12_leastFrom_34 ?_
      refine mh_irem (pc := 35) F dX12_leastFrom_35 (by omega) (by omega) (by omega) ?_
      refine mh_callVp (pc := 36) (As := [.int (Int32.ofInt (k)), .int (Int32.ofInt (n)), .int (Int32.ofInt (a)), .int (Int32.ofInt (u)), .int (Int32.ofInt (x)), .int (Int32.ofInt (w.tdiv 4)), .int (Int32.ofInt (w.tmod 4))]) (st := []) F (by omega) (k_leastBy (by omega) Fhh q82hh q89hh q90hh (by omega) hi (by omega) (by omega) (by omega) (by omega) (by omega) (by omega) hwm hT) wv_RX12_293_yX12_leastBy dX12_leastFrom_36 sh_81 rfl (by decide) rfl rfl (Nat.le_of_ble_eq_true rfl) ⟨Nat.zero_le _, Nat.zero_le _⟩ ?_
      refine mh_istore8 (pc := 39) F dX12_leastFrom_39 rfl (by decide) ?_
      refine mh_iload8 (pc := 41) F dX12_leastFrom_41 ?_
      refine mh_iload6 (pc := 43) F dX12_leastFrom_43 ?_
      refine mh_icmp_ge (pc := 45) (tgt := 68) F dX12_leastFrom_45 rfl (by omega) (by omega) (fun c_45 => ?_) (fun c_45 => ?_)
      · refine mh_iinc7 (pc := 68) F dX12_leastFrom_68 rfl (by decide) ?_
        refine mh_goto (pc := 71) (tgt := 13) F dX12_leastFrom_71 rfl ?_
        refine mh_drop8 ?_
        exact ihL13 _ (by omega) be (w + 1) hh o9 Fhh (frhh.mono (by simp)) q81hh q82hh q89hh q90hh (by omega) (by omega) (by rw [sp_lf_at s wm T k n a u x hw.1]; unfold sp_lfw; rw [← hbv]; first | (rw [if_pos (by omega)]; done) | (rw [if_pos (by omega)]; rfl) | (rw [if_pos (by omega), hbo]; exact mh_ur_ur) | (rw [if_neg (by omega)]; exact hbv) | (rw [if_neg (by omega)]; exact hbo)) (by rw [sp_lf_at s wm T k n a u x hw.1]; unfold sp_lfw; rw [← hbv]; first | (rw [if_pos (by omega)]; done) | (rw [if_pos (by omega)]; rfl) | (rw [if_pos (by omega), hbo]; exact mh_ur_ur) | (rw [if_neg (by omega)]; exact hbv) | (rw [if_neg (by omega)]; exact hbo)) rfl
      · refine mh_iload8 (pc := 48) F dX12_leastFrom_48 ?_
        refine mh_istore6 (pc := 50) F dX12_leastFrom_50 rfl (by decide) ?_
        refine mh_aload0 (pc := 52) F dX12_leastFrom_52 ?_
        refine mh_bipush (pc := 53) F dX12_leastFrom_53 rfl ?_
        refine mh_iload7 (pc := 55) F dX12_leastFrom_55 ?_
        refine mh_iconst (pc := 57) F dX12_leastFrom_57 ?_
        refine mh_idiv (pc := 58) F dX12_leastFrom_58 (by omega) (by omega) (by omega) ?_
        refine mh_imul (pc := 59) F dX12_leastFrom_59 ?_
        refine mh_iload7 (pc := 60) F dX12_leastFrom_60 ?_
        refine mh_iconst (pc := 62) F dX12_leastFrom_62 ?_
        refine mh_irem (pc := 63) F dX12_leastFrom_63 (by omega) (by omega) (by omega) ?_
        refine mh_iadd (pc := 64) F dX12_leastFrom_64 ?_
        refine mh_puti (pc := 65) F sh_81 (by decide) pw_RX12_290_12 dX12_leastFrom_65 ?_
        refine mh_nmh (fun h2 e2 => ?_)
        have F2 : mh_FX h2 := by rw [e2]; exact Fhh.upz rfl
        have r81_2 : h2 81 = mh_ur o9 16 ((10 * (w.tdiv 4)) + (w.tmod 4)) := by rw [e2, mh_up_rs, q81hh]
        have r82_2 : h2 82 = s := by rw [e2, mh_up_row (by decide)]; exact q82hh
        have r89_2 : h2 89 = T := by rw [e2, mh_up_row (by decide)]; exact q89hh
        have r90_2 : h2 90 = wm := by rw [e2, mh_up_row (by decide)]; exact q90hh
        have fr2 : mh_fr [81] h h2 := mh_fr.upi frhh e2 (by simp)
        refine mh_iinc7 (pc := 68) F dX12_leastFrom_68 rfl (by decide) ?_
        refine mh_goto (pc := 71) (tgt := 13) F dX12_leastFrom_71 rfl ?_
        refine mh_drop8 ?_
        exact ihL13 _ (by omega) (sp_lby s wm T k n a u x (w.tdiv 4) (w.tmod 4)) (w + 1) h2 (mh_ur o9 16 ((10 * (w.tdiv 4)) + (w.tmod 4))) F2 (fr2.mono (by simp)) r81_2 r82_2 r89_2 r90_2 (by omega) (by omega) (by rw [sp_lf_at s wm T k n a u x hw.1]; unfold sp_lfw; rw [← hbv]; first | (rw [if_pos (by omega)]; done) | (rw [if_pos (by omega)]; rfl) | (rw [if_pos (by omega), hbo]; exact mh_ur_ur) | (rw [if_neg (by omega)]; exact hbv) | (rw [if_neg (by omega)]; exact hbo)) (by rw [sp_lf_at s wm T k n a u x hw.1]; unfold sp_lfw; rw [← hbv]; first | (rw [if_pos (by omega)]; done) | (rw [if_pos (by omega)]; rfl) | (rw [if_pos (by omega), hbo]; exact mh_ur_ur) | (rw [if_neg (by omega)]; exact hbv) | (rw [if_neg (by omega)]; exact hbo)) rfl
  exact L13 _ 1000000 0 h1 (mh_ur o 16 (-1)) F1 (fr1.mono (by simp)) r81_1 r82_1 r89_1 r90_1 (by omega) (by omega) rfl rfl rfl

