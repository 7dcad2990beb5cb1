/-! voices -/
def sp_rn (b : Int) (p : (Int → Int) × (Int → Int)) : (Int → Int) × (Int → Int) := if p.1 22 < 40 then (mh_ur p.1 22 (p.1 22 + 1), mh_ur p.2 (p.1 22) b) else p
def sp_rns : List Int → (Int → Int) × (Int → Int) → (Int → Int) × (Int → Int)
  | [], p => p
  | b :: r, p => sp_rns r (sp_rn b p)
theorem sp_rns_app (a b : List Int) (p : (Int → Int) × (Int → Int)) : sp_rns (a ++ b) p = sp_rns b (sp_rns a p) := by
  induction a generalizing p with
  | nil => rfl
  | cons x a ih => exact ih _
theorem sp_rn_out (b : Int) (p : (Int → Int) × (Int → Int)) (h : 0 ≤ p.1 22 ∧ p.1 22 ≤ 40) : (∀ j, j ≠ 22 → (sp_rn b p).1 j = p.1 j) ∧ 0 ≤ (sp_rn b p).1 22 ∧ (sp_rn b p).1 22 ≤ 40 := by
  unfold sp_rn
  split
  · exact ⟨fun j hj => mh_ur_ne hj, by show 0 ≤ mh_ur p.1 22 (p.1 22 + 1) 22; rw [mh_ur_eq rfl]; omega, by show mh_ur p.1 22 (p.1 22 + 1) 22 ≤ 40; rw [mh_ur_eq rfl]; omega⟩
  · exact ⟨fun _ _ => rfl, h⟩
theorem sp_rns_out (L : List Int) : ∀ p : (Int → Int) × (Int → Int), (0 ≤ p.1 22 ∧ p.1 22 ≤ 40) → (∀ j, j ≠ 22 → (sp_rns L p).1 j = p.1 j) ∧ 0 ≤ (sp_rns L p).1 22 ∧ (sp_rns L p).1 22 ≤ 40 := by
  induction L with
  | nil => exact fun p h => ⟨fun _ _ => rfl, h⟩
  | cons b r ih =>
    intro p h
    obtain ⟨a1, a2⟩ := sp_rn_out b p h
    obtain ⟨b1, b2⟩ := ih _ a2
    exact ⟨fun j hj => (b1 j hj).trans (a1 j hj), b2⟩
def sp_fi (κ n x : Int) : Int := if κ = 2 ∨ κ = 5 then 3 * (x + n) else x + n
def sp_co (κ n m x : Int) : Int := if κ = 6 then mh_xor (-(x - m)) n else if κ = 3 then -(x - m) else x - m
def sp_gs (κ n m x : Int) : Int := 2 * sp_fi κ n x - sp_co κ n m 1
def sp_sh (κ n m x : Int) : Int := if κ = 4 then sp_gs κ n m (x + 1) else if κ = 1 then sp_gs κ n m x else 2 * sp_fi κ n x
def sp_pt (κ n m x : Int) : Int := mh_xor (sp_sh κ n m x) (sp_co κ n m x)
def sp_te (κ n m x : Int) : Int := if κ = 5 then sp_pt κ n m x - sp_fi κ n 2 else if κ = 6 then sp_sh κ n m x - sp_pt κ n m x else sp_pt κ n m x
def tr_fi (κ : Int) : List Int := if κ = 2 ∨ κ = 5 then [30, 10] else [10]
def tr_ps (κ : Int) : List Int := 11 :: tr_fi κ
def tr_co (κ : Int) : List Int := if κ = 6 then [70, 40, 12] else if κ = 3 then [40, 12] else [12]
def tr_gs (κ : Int) : List Int := 20 :: (tr_ps κ ++ tr_co κ)
def tr_sh (κ : Int) : List Int := if κ = 4 then 50 :: tr_gs κ else if κ = 1 then tr_gs κ else tr_ps κ
def tr_pt (κ : Int) : List Int := 13 :: (tr_sh κ ++ tr_co κ)
def tr_te (κ : Int) : List Int := if κ = 5 then 60 :: (tr_pt κ ++ tr_fi κ) else if κ = 6 then 71 :: (tr_sh κ ++ tr_pt κ) else tr_pt κ
set_option maxRecDepth 100000 in
set_option maxHeartbeats 4000000 in
theorem k_runs {g : mh_G} {d : Nat} (hd : 1 ≤ d) {h : Nat → Int → Int} (hF : mh_FX h) {o : Int → Int} (r81 : h 81 = o) {v : Int → Int} (r91 : h 91 = v) {b : Int} (e22 : 0 ≤ o 22 ∧ o 22 ≤ 40) : mh_M g d yX12_runs cX12_runs 2 none 96 0 0 [.ref 81, .int (Int32.ofInt (b))] h (fun r h2 => r = none ∧ mh_FX h2 ∧ mh_fr [81, 91] h h2 ∧ h2 81 = (sp_rns [b] (o, v)).1 ∧ h2 91 = (sp_rns [b] (o, v)).2) := by
  refine mh_M_of RX12 rfl (by decide +kernel) [some (.ref 81), some (.int (Int32.ofInt (b)))] rfl (Nat.le_of_ble_eq_true rfl) (fun f F Z hn0 hR => ?_)
  refine mh_aload0 (pc := 0) F dX12_runs_0 ?_
  refine mh_getir (pc := 1) F sh_81 (by decide) fw_RX12_345_12 dX12_runs_1 rfl r81 ?_
  refine mh_bipush (pc := 4) F dX12_runs_4 rfl ?_
  refine mh_icmp_ge (pc := 6) (tgt := 29) F dX12_runs_6 rfl (by omega) (by omega) (fun c_6 => ?_) (fun c_6 => ?_)
  · exact mh_return F Z dX12_runs_29 ⟨rfl, hF, (mh_fr.rf.mono (by simp)), (r81.trans (by show _ = (sp_rn b (o, v)).1; unfold sp_rn; first | (rw [if_pos (by show o 22 < 40; omega)]; done) | (rw [if_neg (by show ¬ o 22 < 40; omega)]; done))), (r91.trans (by show _ = (sp_rn b (o, v)).2; unfold sp_rn; first | (rw [if_pos (by show o 22 < 40; omega)]; done) | (rw [if_neg (by show ¬ o 22 < 40; omega)]; done)))⟩
  · refine mh_aload0 (pc := 9) F dX12_runs_9 ?_
    refine mh_getr (b := 91) (pc := 10) F sh_81 (by decide) fw_RX12_38_12 dX12_runs_10 rfl (fx_81_21 hF) ?_
    refine mh_aload0 (pc := 13) F dX12_runs_13 ?_
    refine mh_getir (pc := 14) F sh_81 (by decide) fw_RX12_345_12 dX12_runs_14 rfl r81 ?_
    refine mh_iload1 (pc := 17) F dX12_runs_17 ?_
    refine mh_iastore (pc := 18) F sh_91 (by decide) (by omega) dX12_runs_18 ?_
    refine mh_nmh (fun h1 e1 => ?_)
    have F1 : mh_FX h1 := by rw [e1]; exact hF.upa rfl
    have r81_1 : h1 81 = o := by rw [e1, mh_up_row (by decide)]; exact r81
    have r91_1 : h1 91 = mh_ur v (o 22) b := by rw [e1, mh_up_rs, r91]
    have fr1 : mh_fr [91] h h1 := mh_fr.up mh_fr.rf e1
    refine mh_aload0 (pc := 19) F dX12_runs_19 ?_
    refine mh_dup (pc := 20) F dX12_runs_20 rfl ?_
    refine mh_getir (pc := 21) F sh_81 (by decide) fw_RX12_345_12 dX12_runs_21 rfl r81_1 ?_
    refine mh_iconst (pc := 24) F dX12_runs_24 ?_
    refine mh_iadd (pc := 25) F dX12_runs_25 ?_
    refine mh_puti (pc := 26) F sh_81 (by decide) pw_RX12_345_12 dX12_runs_26 ?_
    refine mh_nmh (fun h2 e2 => ?_)
    have F2 : mh_FX h2 := by rw [e2]; exact F1.upz rfl
    have r81_2 : h2 81 = mh_ur o 22 ((o 22) + 1) := by rw [e2, mh_up_rs, r81_1]
    have r91_2 : h2 91 = mh_ur v (o 22) b := by rw [e2, mh_up_row (by decide)]; exact r91_1
    have fr2 : mh_fr [81, 91] h h2 := mh_fr.up fr1 e2
    exact mh_return F Z dX12_runs_29 ⟨rfl, F2, (fr2.mono (by simp)), (r81_2.trans (by show _ = (sp_rn b (o, v)).1; unfold sp_rn; first | (rw [if_pos (by show o 22 < 40; omega)]; done) | (rw [if_neg (by show ¬ o 22 < 40; omega)]; done))), (r91_2.trans (by show _ = (sp_rn b (o, v)).2; unfold sp_rn; first | (rw [if_pos (by show o 22 < 40; omega)]; done) | (rw [if_neg (by show ¬ o 22 < 40; omega)]; done)))⟩

set_option maxRecDepth 100000 in
set_option maxHeartbeats 4000000 in
theorem k_fills {g : mh_G} {d : Nat} (hd : 2 ≤ d) {h : Nat → Int → Int} (hF : mh_FX h) {o : Int → Int} (r81 : h 81 = o) {v : Int → Int} (r91 : h 91 = v) {x : Int} {κ n mm : Int} (e22 : 0 ≤ o 22 ∧ o 22 ≤ 40) (e23 : o 23 = κ) (e24 : o 24 = n) (e25 : o 25 = mm) (hκ : 0 ≤ κ ∧ κ ≤ 6) : mh_M g d yX12_fills cX12_fills 2 (some .int) 96 0 0 [.ref 81, .int (Int32.ofInt (x))] h (fun r h2 => r = some (.int (Int32.ofInt (sp_fi κ n x))) ∧ mh_FX h2 ∧ mh_fr [81, 91] h h2 ∧ h2 81 = (sp_rns (tr_fi κ) (o, v)).1 ∧ h2 91 = (sp_rns (tr_fi κ) (o, v)).2) := by
  refine mh_M_of RX12 rfl (by decide +kernel) [some (.ref 81), some (.int (Int32.ofInt (x)))] rfl (Nat.le_of_ble_eq_true rfl) (fun f F Z hn0 hR => ?_)
  refine mh_aload0 (pc := 0) F dX12_fills_0 ?_
  refine mh_getir (pc := 1) F sh_81 (by decide) fw_RX12_348_12 dX12_fills_1 rfl r81 ?_
  refine mh_iconst (pc := 4) F dX12_fills_4 ?_
  refine mh_icmp_eq (pc := 5) (tgt := 16) F dX12_fills_5 rfl (by omega) (by omega) (fun c_5 => ?_) (fun c_5 => ?_)
  · refine mh_aload0 (pc := 16) F dX12_fills_16 ?_
    refine mh_bipush (pc := 17) F dX12_fills_17 rfl ?_
    refine mh_callV0 (pc := 19) (As := [.int (Int32.ofInt (30))]) (st := []) F (by omega) (k_runs (by omega) hF r81 r91 e22) wv_RX12_351_yX12_runs dX12_fills_19 sh_81 rfl (by decide) rfl rfl (Nat.le_of_ble_eq_true rfl) ⟨Nat.zero_le _, Nat.zero_le _⟩ (fun r1 h1 q1 => ?_)
    obtain ⟨rfl, F1, fr1, q1_0, q1_1⟩ := q1
    have fr2 : mh_fr [81, 91] h h1 := (mh_fr.tr mh_fr.rf fr1).mono (by simp)
    obtain ⟨o3, eo3⟩ : ∃ z : Int → Int, z = (sp_rns [30] (o, v)).1 := ⟨_, rfl⟩
    obtain ⟨v3, ev3⟩ : ∃ z : Int → Int, z = (sp_rns [30] (o, v)).2 := ⟨_, rfl⟩
    rw [← eo3] at q1_0
    rw [← ev3] at q1_1
    have er3 : (o3, v3) = sp_rns [30] (o, v) := by rw [eo3, ev3]
    obtain ⟨of3, oz3⟩ := sp_rns_out [30] (o, v) e22
    rw [← eo3] at of3 oz3
    have e22 := oz3
    have e23 := (of3 23 (by decide)).trans e23
    have e24 := (of3 24 (by decide)).trans e24
    have e25 := (of3 25 (by decide)).trans e25
    refine mh_aload0 (pc := 22) F dX12_fills_22 ?_
    refine mh_bipush (pc := 23) F dX12_fills_23 rfl ?_
    refine mh_callV0 (pc := 25) (As := [.int (Int32.ofInt (10))]) (st := []) F (by omega) (k_runs (by omega) F1 q1_0 q1_1 e22) wv_RX12_351_yX12_runs dX12_fills_25 sh_81 rfl (by decide) rfl rfl (Nat.le_of_ble_eq_true rfl) ⟨Nat.zero_le _, Nat.zero_le _⟩ (fun r4 h4 q4 => ?_)
    obtain ⟨rfl, F4, fr4, q4_0, q4_1⟩ := q4
    have fr5 : mh_fr [81, 91] h h4 := (mh_fr.tr fr2 fr4).mono (by simp)
    obtain ⟨o6, eo6⟩ : ∃ z : Int → Int, z = (sp_rns [10] (o3, v3)).1 := ⟨_, rfl⟩
    obtain ⟨v6, ev6⟩ : ∃ z : Int → Int, z = (sp_rns [10] (o3, v3)).2 := ⟨_, rfl⟩
    rw [← eo6] at q4_0
    rw [← ev6] at q4_1
    have er6 : (o6, v6) = sp_rns [10] (o3, v3) := by rw [eo6, ev6]
    obtain ⟨of6, oz6⟩ := sp_rns_out [10] (o3, v3) e22
    rw [← eo6] at of6 oz6
    have e22 := oz6
    have e23 := (of6 23 (by decide)).trans e23
    have e24 := (of6 24 (by decide)).trans e24
    have e25 := (of6 25 (by decide)).trans e25
    refine mh_iconst (pc := 28) F dX12_fills_28 ?_
    refine mh_iload1 (pc := 29) F dX12_fills_29 ?_
    refine mh_aload0 (pc := 30) F dX12_fills_30 ?_
    refine mh_getir (pc := 31) F sh_81 (by decide) fw_RX12_354_12 dX12_fills_31 rfl q4_0 ?_
    refine mh_iadd (pc := 34) F dX12_fills_34 ?_
    refine mh_imul (pc := 35) F dX12_fills_35 ?_
    exact mh_ireturn F Z dX12_fills_36 ⟨(mh_sv (by unfold sp_fi; first | (rw [if_pos (by omega)]; omega) | (rw [if_neg (by omega)]; omega))), F4, (fr5.mono (by simp)), (q4_0.trans (congrArg Prod.fst (show (o6, v6) = sp_rns (tr_fi κ) (o, v) from by rw [er6, er3]; unfold tr_fi; first | rfl | (rw [if_pos (by omega)]; done) | (rw [if_pos (by omega)]; rfl) | (rw [if_neg (by omega)]; done) | (rw [if_neg (by omega)]; rfl) | (rw [if_neg (by omega), if_pos (by omega)]; done) | (rw [if_neg (by omega), if_pos (by omega)]; rfl) | (rw [if_neg (by omega), if_neg (by omega)]; done) | (rw [if_neg (by omega), if_neg (by omega)]; rfl)))), (q4_1.trans (congrArg Prod.snd (show (o6, v6) = sp_rns (tr_fi κ) (o, v) from by rw [er6, er3]; unfold tr_fi; first | rfl | (rw [if_pos (by omega)]; done) | (rw [if_pos (by omega)]; rfl) | (rw [if_neg (by omega)]; done) | (rw [if_neg (by omega)]; rfl) | (rw [if_neg (by omega), if_pos (by omega)]; done) | (rw [if_neg (by omega), if_pos (by omega)]; rfl) | (rw [if_neg (by omega), if_neg (by omega)]; done) | (rw [if_neg (by omega), if_neg (by omega)]; rfl))))⟩
  · refine mh_aload0 (pc := 8) F dX12_fills_8 ?_
    refine mh_getir (pc := 9) F sh_81 (by decide) fw_RX12_348_12 dX12_fills_9 rfl r81 ?_
    refine mh_iconst (pc := 12) F dX12_fills_12 ?_
    refine mh_icmp_ne (pc := 13) (tgt := 37) F dX12_fills_13 rfl (by omega) (by omega) (fun c_13 => ?_) (fun c_13 => ?_)
    · refine mh_aload0 (pc := 37) F dX12_fills_37 ?_
      refine mh_bipush (pc := 38) F dX12_fills_38 rfl ?_
      refine mh_callV0 (pc := 40) (As := [.int (Int32.ofInt (10))]) (st := []) F (by omega) (k_runs (by omega) hF r81 r91 e22) wv_RX12_351_yX12_runs dX12_fills_40 sh_81 rfl (by decide) rfl rfl (Nat.le_of_ble_eq_true rfl) ⟨Nat.zero_le _, Nat.zero_le _⟩ (fun r7 h7 q7 => ?_)
      obtain ⟨rfl, F7, fr7, q7_0, q7_1⟩ := q7
      have fr8 : mh_fr [81, 91] h h7 := (mh_fr.tr mh_fr.rf fr7).mono (by simp)
      obtain ⟨o9, eo9⟩ : ∃ z : Int → Int, z = (sp_rns [10] (o, v)).1 := ⟨_, rfl⟩
      obtain ⟨v9, ev9⟩ : ∃ z : Int → Int, z = (sp_rns [10] (o, v)).2 := ⟨_, rfl⟩
      rw [← eo9] at q7_0
      rw [← ev9] at q7_1
      have er9 : (o9, v9) = sp_rns [10] (o, v) := by rw [eo9, ev9]
      obtain ⟨of9, oz9⟩ := sp_rns_out [10] (o, v) e22
      rw [← eo9] at of9 oz9
      have e22 := oz9
      have e23 := (of9 23 (by decide)).trans e23
      have e24 := (of9 24 (by decide)).trans e24
      have e25 := (of9 25 (by decide)).trans e25
      refine mh_iload1 (pc := 43) F dX12_fills_43 ?_
      refine mh_aload0 (pc := 44) F dX12_fills_44 ?_
      refine mh_getir (pc := 45) F sh_81 (by decide) fw_RX12_354_12 dX12_fills_45 rfl q7_0 ?_
      refine mh_iadd (pc := 48) F dX12_fills_48 ?_
      exact mh_ireturn F Z dX12_fills_49 ⟨(mh_sv (by unfold sp_fi; first | (rw [if_pos (by omega)]; omega) | (rw [if_neg (by omega)]; omega))), F7, (fr8.mono (by simp)), (q7_0.trans (congrArg Prod.fst (show (o9, v9) = sp_rns (tr_fi κ) (o, v) from by rw [er9]; unfold tr_fi; first | rfl | (rw [if_pos (by omega)]; done) | (rw [if_pos (by omega)]; rfl) | (rw [if_neg (by omega)]; done) | (rw [if_neg (by omega)]; rfl) | (rw [if_neg (by omega), if_pos (by omega)]; done) | (rw [if_neg (by omega), if_pos (by omega)]; rfl) | (rw [if_neg (by omega), if_neg (by omega)]; done) | (rw [if_neg (by omega), if_neg (by omega)]; rfl)))), (q7_1.trans (congrArg Prod.snd (show (o9, v9) = sp_rns (tr_fi κ) (o, v) from by rw [er9]; unfold tr_fi; first | rfl | (rw [if_pos (by omega)]; done) | (rw [if_pos (by omega)]; rfl) | (rw [if_neg (by omega)]; done) | (rw [if_neg (by omega)]; rfl) | (rw [if_neg (by omega), if_pos (by omega)]; done) | (rw [if_neg (by omega), if_pos (by omega)]; rfl) | (rw [if_neg (by omega), if_neg (by omega)]; done) | (rw [if_neg (by omega), if_neg (by omega)]; rfl))))⟩
    · refine mh_aload0 (pc := 16) F dX12_fills_16 ?_
      refine mh_bipush (pc := 17) F dX12_fills_17 rfl ?_
      refine mh_callV0 (pc := 19) (As := [.int (Int32.ofInt (30))]) (st := []) F (by omega) (k_runs (by omega) hF r81 r91 e22) wv_RX12_351_yX12_runs dX12_fills_19 sh_81 rfl (by decide) rfl rfl (Nat.le_of_ble_eq_true rfl) ⟨Nat.zero_le _, Nat.zero_le _⟩ (fun r10 h10 q10 => ?_)
      obtain ⟨rfl, F10, fr10, q10_0, q10_1⟩ := q10
      have fr11 : mh_fr [81, 91] h h10 := (mh_fr.tr mh_fr.rf fr10).mono (by simp)
      obtain ⟨o12, eo12⟩ : ∃ z : Int → Int, z = (sp_rns [30] (o, v)).1 := ⟨_, rfl⟩
      obtain ⟨v12, ev12⟩ : ∃ z : Int → Int, z = (sp_rns [30] (o, v)).2 := ⟨_, rfl⟩
      rw [← eo12] at q10_0
      rw [← ev12] at q10_1
      have er12 : (o12, v12) = sp_rns [30] (o, v) := by rw [eo12, ev12]
      obtain ⟨of12, oz12⟩ := sp_rns_out [30] (o, v) e22
      rw [← eo12] at of12 oz12
      have e22 := oz12
      have e23 := (of12 23 (by decide)).trans e23
      have e24 := (of12 24 (by decide)).trans e24
      have e25 := (of12 25 (by decide)).trans e25
      refine mh_aload0 (pc := 22) F dX12_fills_22 ?_
      refine mh_bipush (pc := 23) F dX12_fills_23 rfl ?_
      refine mh_callV0 (pc := 25) (As := [.int (Int32.ofInt (10))]) (st := []) F (by omega) (k_runs (by omega) F10 q10_0 q10_1 e22) wv_RX12_351_yX12_runs dX12_fills_25 sh_81 rfl (by decide) rfl rfl (Nat.le_of_ble_eq_true rfl) ⟨Nat.zero_le _, Nat.zero_le _⟩ (fun r13 h13 q13 => ?_)
      obtain ⟨rfl, F13, fr13, q13_0, q13_1⟩ := q13
      have fr14 : mh_fr [81, 91] h h13 := (mh_fr.tr fr11 fr13).mono (by simp)
      obtain ⟨o15, eo15⟩ : ∃ z : Int → Int, z = (sp_rns [10] (o12, v12)).1 := ⟨_, rfl⟩
      obtain ⟨v15, ev15⟩ : ∃ z : Int → Int, z = (sp_rns [10] (o12, v12)).2 := ⟨_, rfl⟩
      rw [← eo15] at q13_0
      rw [← ev15] at q13_1
      have er15 : (o15, v15) = sp_rns [10] (o12, v12) := by rw [eo15, ev15]
      obtain ⟨of15, oz15⟩ := sp_rns_out [10] (o12, v12) e22
      rw [← eo15] at of15 oz15
      have e22 := oz15
      have e23 := (of15 23 (by decide)).trans e23
      have e24 := (of15 24 (by decide)).trans e24
      have e25 := (of15 25 (by decide)).trans e25
      refine mh_iconst (pc := 28) F dX12_fills_28 ?_
      refine mh_iload1 (pc := 29) F dX12_fills_29 ?_
      refine mh_aload0 (pc := 30) F dX12_fills_30 ?_
      refine mh_getir (pc := 31) F sh_81 (by decide) fw_RX12_354_12 dX12_fills_31 rfl q13_0 ?_
      refine mh_iadd (pc := 34) F dX12_fills_34 ?_
      refine mh_imul (pc := 35) F dX12_fills_35 ?_
      exact mh_ireturn F Z dX12_fills_36 ⟨(mh_sv (by unfold sp_fi; first | (rw [if_pos (by omega)]; omega) | (rw [if_neg (by omega)]; omega))), F13, (fr14.mono (by simp)), (q13_0.trans (congrArg Prod.fst (show (o15, v15) = sp_rns (tr_fi κ) (o, v) from by rw [er15, er12]; unfold tr_fi; first | rfl | (rw [if_pos (by omega)]; done) | (rw [if_pos (by omega)]; rfl) | (rw [if_neg (by omega)]; done) | (rw [if_neg (by omega)]; rfl) | (rw [if_neg (by omega), if_pos (by omega)]; done) | (rw [if_neg (by omega), if_pos (by omega)]; rfl) | (rw [if_neg (by omega), if_neg (by omega)]; done) | (rw [if_neg (by omega), if_neg (by omega)]; rfl)))), (q13_1.trans (congrArg Prod.snd (show (o15, v15) = sp_rns (tr_fi κ) (o, v) from by rw [er15, er12]; unfold tr_fi; first | rfl | (rw [if_pos (by omega)]; done) | (rw [if_pos (by omega)]; rfl) | (rw [if_neg (by omega)]; done) | (rw [if_neg (by omega)]; rfl) | (rw [if_neg (by omega), if_pos (by omega)]; done) | (rw [if_neg (by omega), if_pos (by omega)]; rfl) | (rw [if_neg (by omega), if_neg (by omega)]; done) | (rw [if_neg (by omega), if_neg (by omega)]; rfl))))⟩

set_option maxRecDepth 100000 in
set_option maxHeartbeats 4000000 in
theorem k_plainShakes {g : mh_G} {d : Nat} (hd : 3 ≤ d) {h : Nat → Int → Int} (hF : mh_FX h) {o : Int → Int} (r81 : h 81 = o) {v : Int → Int} (r91 : h 91 = v) {x : Int} {κ n mm : Int} (e22 : 0 ≤ o 22 ∧ o 22 ≤ 40) (e23 : o 23 = κ) (e24 : o 24 = n) (e25 : o 25 = mm) (hκ : 0 ≤ κ ∧ κ ≤ 6) : mh_M g d yX12_plainShakes cX12_plainShakes 2 (some .int) 96 0 0 [.ref 81, .int (Int32.ofInt (x))] h (fun r h2 => r = some (.int (Int32.ofInt (2 * sp_fi κ n x))) ∧ mh_FX h2 ∧ mh_fr [81, 91] h h2 ∧ h2 81 = (sp_rns (tr_ps κ) (o, v)).1 ∧ h2 91 = (sp_rns (tr_ps κ) (o, v)).2) := by
  refine mh_M_of RX12 rfl (by decide +kernel) [some (.ref 81), some (.int (Int32.ofInt (x)))] rfl (Nat.le_of_ble_eq_true rfl) (fun f F Z hn0 hR => ?_)
  refine mh_aload0 (pc := 0) F dX12_plainShakes_0 ?_
  refine mh_bipush (pc := 1) F dX12_plainShakes_1 rfl ?_
  refine mh_callV0 (pc := 3) (As := [.int (Int32.ofInt (11))]) (st := []) F (by omega) (k_runs (by omega) hF r81 r91 e22) wv_RX12_351_yX12_runs dX12_plainShakes_3 sh_81 rfl (by decide) rfl rfl (Nat.le_of_ble_eq_true rfl) ⟨Nat.zero_le _, Nat.zero_le _⟩ (fun r1 h1 q1 => ?_)
  obtain ⟨rfl, F1, fr1, q1_0, q1_1⟩ := q1
  have fr2 : mh_fr [81, 91] h h1 := (mh_fr.tr mh_fr.rf fr1).mono (by simp)
  obtain ⟨o3, eo3⟩ : ∃ z : Int → Int, z = (sp_rns [11] (o, v)).1 := ⟨_, rfl⟩
  obtain ⟨v3, ev3⟩ : ∃ z : Int → Int, z = (sp_rns [11] (o, v)).2 := ⟨_, rfl⟩
  rw [← eo3] at q1_0
  rw [← ev3] at q1_1
  have er3 : (o3, v3) = sp_rns [11] (o, v) := by rw [eo3, ev3]
  obtain ⟨of3, oz3⟩ := sp_rns_out [11] (o, v) e22
  rw [← eo3] at of3 oz3
  have e22 := oz3
  have e23 := (of3 23 (by decide)).trans e23
  have e24 := (of3 24 (by decide)).trans e24
  have e25 := (of3 25 (by decide)).trans e25
  refine mh_iconst (pc := 6) F dX12_plainShakes_6 ?_
  refine mh_aload0 (pc := 7) F dX12_plainShakes_7 ?_
  refine mh_iload1 (pc := 8) F dX12_plainShakes_8 ?_
  refine mh_callV0 (pc := 9) (As := [.int (Int32.ofInt (x))]) (st := [.int (Int32.ofInt (2))]) F (by omega) (k_fills (by omega) F1 q1_0 q1_1 e22 e23 e24 e25 hκ) wv_RX12_357_yX12_fills dX12_plainShakes_9 sh_81 rfl (by decide) rfl rfl (Nat.le_of_ble_eq_true rfl) ⟨Nat.zero_le _, Nat.zero_le _⟩ (fun r4 h4 q4 => ?_)
  obtain ⟨rfl, F4, fr4, q4_0, q4_1⟩ := q4
  have fr5 : mh_fr [81, 91] h h4 := (mh_fr.tr fr2 fr4).mono (by simp)
  obtain ⟨o6, eo6⟩ : ∃ z : Int → Int, z = (sp_rns (tr_fi κ) (o3, v3)).1 := ⟨_, rfl⟩
  obtain ⟨v6, ev6⟩ : ∃ z : Int → Int, z = (sp_rns (tr_fi κ) (o3, v3)).2 := ⟨_, rfl⟩
  rw [← eo6] at q4_0
  rw [← ev6] at q4_1
  have er6 : (o6, v6) = sp_rns (tr_fi κ) (o3, v3) := by rw [eo6, ev6]
  obtain ⟨of6, oz6⟩ := sp_rns_out (tr_fi κ) (o3, v3) e22
  rw [← eo6] at of6 oz6
  have e22 := oz6
  have e23 := (of6 23 (by decide)).trans e23
  have e24 := (of6 24 (by decide)).trans e24
  have e25 := (of6 25 (by decide)).trans e25
  refine mh_imul (pc := 12) F dX12_plainShakes_12 ?_
  exact mh_ireturn F Z dX12_plainShakes_13 ⟨rfl, F4, (fr5.mono (by simp)), (q4_0.trans (congrArg Prod.fst (show (o6, v6) = sp_rns (tr_ps κ) (o, v) from by rw [er6, er3]; unfold tr_ps; first | rfl | (rw [if_pos (by omega)]; done) | (rw [if_pos (by omega)]; rfl) | (rw [if_neg (by omega)]; done) | (rw [if_neg (by omega)]; rfl) | (rw [if_neg (by omega), if_pos (by omega)]; done) | (rw [if_neg (by omega), if_pos (by omega)]; rfl) | (rw [if_neg (by omega), if_neg (by omega)]; done) | (rw [if_neg (by omega), if_neg (by omega)]; rfl)))), (q4_1.trans (congrArg Prod.snd (show (o6, v6) = sp_rns (tr_ps κ) (o, v) from by rw [er6, er3]; unfold tr_ps; first | rfl | (rw [if_pos (by omega)]; done) | (rw [if_pos (by omega)]; rfl) | (rw [if_neg (by omega)]; done) | (rw [if_neg (by omega)]; rfl) | (rw [if_neg (by omega), if_pos (by omega)]; done) | (rw [if_neg (by omega), if_pos (by omega)]; rfl) | (rw [if_neg (by omega), if_neg (by omega)]; done) | (rw [if_neg (by omega), if_neg (by omega)]; rfl))))⟩

set_option maxRecDepth 100000 in
set_option maxHeartbeats 4000000 in
theorem k_plainCools {g : mh_G} {d : Nat} (hd : 2 ≤ d) {h : Nat → Int → Int} (hF : mh_FX h) {o : Int → Int} (r81 : h 81 = o) {v : Int → Int} (r91 : h 91 = v) {x : Int} {κ n mm : Int} (e22 : 0 ≤ o 22 ∧ o 22 ≤ 40) (e23 : o 23 = κ) (e24 : o 24 = n) (e25 : o 25 = mm) (hκ : 0 ≤ κ ∧ κ ≤ 6) : mh_M g d yX12_plainCools cX12_plainCools 2 (some .int) 96 0 0 [.ref 81, .int (Int32.ofInt (x))] h (fun r h2 => r = some (.int (Int32.ofInt (x - mm))) ∧ mh_FX h2 ∧ mh_fr [81, 91] h h2 ∧ h2 81 = (sp_rns ([12]) (o, v)).1 ∧ h2 91 = (sp_rns ([12]) (o, v)).2) := by
  refine mh_M_of RX12 rfl (by decide +kernel) [some (.ref 81), some (.int (Int32.ofInt (x)))] rfl (Nat.le_of_ble_eq_true rfl) (fun f F Z hn0 hR => ?_)
  refine mh_aload0 (pc := 0) F dX12_plainCools_0 ?_
  refine mh_bipush (pc := 1) F dX12_plainCools_1 rfl ?_
  refine mh_callV0 (pc := 3) (As := [.int (Int32.ofInt (12))]) (st := []) F (by omega) (k_runs (by omega) hF r81 r91 e22) wv_RX12_351_yX12_runs dX12_plainCools_3 sh_81 rfl (by decide) rfl rfl (Nat.le_of_ble_eq_true rfl) ⟨Nat.zero_le _, Nat.zero_le _⟩ (fun r1 h1 q1 => ?_)
  obtain ⟨rfl, F1, fr1, q1_0, q1_1⟩ := q1
  have fr2 : mh_fr [81, 91] h h1 := (mh_fr.tr mh_fr.rf fr1).mono (by simp)
  obtain ⟨o3, eo3⟩ : ∃ z : Int → Int, z = (sp_rns [12] (o, v)).1 := ⟨_, rfl⟩
  obtain ⟨v3, ev3⟩ : ∃ z : Int → Int, z = (sp_rns [12] (o, v)).2 := ⟨_, rfl⟩
  rw [← eo3] at q1_0
  rw [← ev3] at q1_1
  have er3 : (o3, v3) = sp_rns [12] (o, v) := by rw [eo3, ev3]
  obtain ⟨of3, oz3⟩ := sp_rns_out [12] (o, v) e22
  rw [← eo3] at of3 oz3
  have e22 := oz3
  have e23 := (of3 23 (by decide)).trans e23
  have e24 := (of3 24 (by decide)).trans e24
  have e25 := (of3 25 (by decide)).trans e25
  refine mh_iload1 (pc := 6) F dX12_plainCools_6 ?_
  refine mh_aload0 (pc := 7) F dX12_plainCools_7 ?_
  refine mh_getir (pc := 8) F sh_81 (by decide) fw_RX12_369_12 dX12_plainCools_8 rfl q1_0 ?_
  refine mh_isub (pc := 11) F dX12_plainCools_11 ?_
  exact mh_ireturn F Z dX12_plainCools_12 ⟨(mh_sv (by omega)), F1, (fr2.mono (by simp)), (q1_0.trans (congrArg Prod.fst (show (o3, v3) = sp_rns ([12]) (o, v) from by rw [er3]))), (q1_1.trans (congrArg Prod.snd (show (o3, v3) = sp_rns ([12]) (o, v) from by rw [er3])))⟩

set_option maxRecDepth 100000 in
set_option maxHeartbeats 4000000 in
theorem k_creamedCools {g : mh_G} {d : Nat} (hd : 3 ≤ d) {h : Nat → Int → Int} (hF : mh_FX h) {o : Int → Int} (r81 : h 81 = o) {v : Int → Int} (r91 : h 91 = v) {x : Int} {κ n mm : Int} (e22 : 0 ≤ o 22 ∧ o 22 ≤ 40) (e23 : o 23 = κ) (e24 : o 24 = n) (e25 : o 25 = mm) (hκ : 0 ≤ κ ∧ κ ≤ 6) : mh_M g d yX12_creamedCools cX12_creamedCools 2 (some .int) 96 0 0 [.ref 81, .int (Int32.ofInt (x))] h (fun r h2 => r = some (.int (Int32.ofInt (-(x - mm)))) ∧ mh_FX h2 ∧ mh_fr [81, 91] h h2 ∧ h2 81 = (sp_rns ([40, 12]) (o, v)).1 ∧ h2 91 = (sp_rns ([40, 12]) (o, v)).2) := by
  refine mh_M_of RX12 rfl (by decide +kernel) [some (.ref 81), some (.int (Int32.ofInt (x)))] rfl (Nat.le_of_ble_eq_true rfl) (fun f F Z hn0 hR => ?_)
  refine mh_aload0 (pc := 0) F dX12_creamedCools_0 ?_
  refine mh_bipush (pc := 1) F dX12_creamedCools_1 rfl ?_
  refine mh_callV0 (pc := 3) (As := [.int (Int32.ofInt (40))]) (st := []) F (by omega) (k_runs (by omega) hF r81 r91 e22) wv_RX12_351_yX12_runs dX12_creamedCools_3 sh_81 rfl (by decide) rfl rfl (Nat.le_of_ble_eq_true rfl) ⟨Nat.zero_le _, Nat.zero_le _⟩ (fun r1 h1 q1 => ?_)
  obtain ⟨rfl, F1, fr1, q1_0, q1_1⟩ := q1
  have fr2 : mh_fr [81, 91] h h1 := (mh_fr.tr mh_fr.rf fr1).mono (by simp)
  obtain ⟨o3, eo3⟩ : ∃ z : Int → Int, z = (sp_rns [40] (o, v)).1 := ⟨_, rfl⟩
  obtain ⟨v3, ev3⟩ : ∃ z : Int → Int, z = (sp_rns [40] (o, v)).2 := ⟨_, rfl⟩
  rw [← eo3] at q1_0
  rw [← ev3] at q1_1
  have er3 : (o3, v3) = sp_rns [40] (o, v) := by rw [eo3, ev3]
  obtain ⟨of3, oz3⟩ := sp_rns_out [40] (o, v) e22
  rw [← eo3] at of3 oz3
  have e22 := oz3
  have e23 := (of3 23 (by decide)).trans e23
  have e24 := (of3 24 (by decide)).trans e24
  have e25 := (of3 25 (by decide)).trans e25
  refine mh_aload0 (pc := 6) F dX12_creamedCools_6 ?_
  refine mh_iload1 (pc := 7) F dX12_creamedCools_7 ?_
  refine mh_callV0 (pc := 8) (As := [.int (Int32.ofInt (x))]) (st := []) F (by omega) (k_plainCools (by omega) F1 q1_0 q1_1 e22 e23 e24 e25 hκ) wv_RX12_372_yX12_plainCools dX12_creamedCools_8 sh_81 rfl (by decide) rfl rfl (Nat.le_of_ble_eq_true rfl) ⟨Nat.zero_le _, Nat.zero_le _⟩ (fun r4 h4 q4 => ?_)
  obtain ⟨rfl, F4, fr4, q4_0, q4_1⟩ := q4
  have fr5 : mh_fr [81, 91] h h4 := (mh_fr.tr fr2 fr4).mono (by simp)
  obtain ⟨o6, eo6⟩ : ∃ z : Int → Int, z = (sp_rns ([12]) (o3, v3)).1 := ⟨_, rfl⟩
  obtain ⟨v6, ev6⟩ : ∃ z : Int → Int, z = (sp_rns ([12]) (o3, v3)).2 := ⟨_, rfl⟩
  rw [← eo6] at q4_0
  rw [← ev6] at q4_1
  have er6 : (o6, v6) = sp_rns ([12]) (o3, v3) := by rw [eo6, ev6]
  obtain ⟨of6, oz6⟩ := sp_rns_out ([12]) (o3, v3) e22
  rw [← eo6] at of6 oz6
  have e22 := oz6
  have e23 := (of6 23 (by decide)).trans e23
  have e24 := (of6 24 (by decide)).trans e24
  have e25 := (of6 25 (by decide)).trans e25
  refine mh_ineg (pc := 11) F dX12_creamedCools_11 ?_
  exact mh_ireturn F Z dX12_creamedCools_12 ⟨rfl, F4, (fr5.mono (by simp)), (q4_0.trans (congrArg Prod.fst (show (o6, v6) = sp_rns ([40, 12]) (o, v) from by rw [er6, er3]; rfl))), (q4_1.trans (congrArg Prod.snd (show (o6, v6) = sp_rns ([40, 12]) (o, v) from by rw [er6, er3]; rfl)))⟩

set_option maxRecDepth 100000 in
set_option maxHeartbeats 4000000 in
theorem k_cools {g : mh_G} {d : Nat} (hd : 4 ≤ d) {h : Nat → Int → Int} (hF : mh_FX h) {o : Int → Int} (r81 : h 81 = o) {v : Int → Int} (r91 : h 91 = v) {x : Int} {κ n mm : Int} (e22 : 0 ≤ o 22 ∧ o 22 ≤ 40) (e23 : o 23 = κ) (e24 : o 24 = n) (e25 : o 25 = mm) (hκ : 0 ≤ κ ∧ κ ≤ 6) : mh_M g d yX12_cools cX12_cools 2 (some .int) 96 0 0 [.ref 81, .int (Int32.ofInt (x))] h (fun r h2 => r = some (.int (Int32.ofInt (sp_co κ n mm x))) ∧ mh_FX h2 ∧ mh_fr [81, 91] h h2 ∧ h2 81 = (sp_rns (tr_co κ) (o, v)).1 ∧ h2 91 = (sp_rns (tr_co κ) (o, v)).2) := by
  refine mh_M_of RX12 rfl (by decide +kernel) [some (.ref 81), some (.int (Int32.ofInt (x)))] rfl (Nat.le_of_ble_eq_true rfl) (fun f F Z hn0 hR => ?_)
  refine mh_aload0 (pc := 0) F dX12_cools_0 ?_
  refine mh_getir (pc := 1) F sh_81 (by decide) fw_RX12_348_12 dX12_cools_1 rfl r81 ?_
  refine mh_bipush (pc := 4) F dX12_cools_4 rfl ?_
  refine mh_icmp_ne (pc := 6) (tgt := 26) F dX12_cools_6 rfl (by omega) (by omega) (fun c_6 => ?_) (fun c_6 => ?_)
  · refine mh_aload0 (pc := 26) F dX12_cools_26 ?_
    refine mh_getir (pc := 27) F sh_81 (by decide) fw_RX12_348_12 dX12_cools_27 rfl r81 ?_
    refine mh_iconst (pc := 30) F dX12_cools_30 ?_
    refine mh_icmp_ne (pc := 31) (tgt := 42) F dX12_cools_31 rfl (by omega) (by omega) (fun c_31 => ?_) (fun c_31 => ?_)
    · refine mh_aload0 (pc := 42) F dX12_cools_42 ?_
      refine mh_iload1 (pc := 43) F dX12_cools_43 ?_
      refine mh_callV0 (pc := 44) (As := [.int (Int32.ofInt (x))]) (st := []) F (by omega) (k_plainCools (by omega) hF r81 r91 e22 e23 e24 e25 hκ) wv_RX12_372_yX12_plainCools dX12_cools_44 sh_81 rfl (by decide) rfl rfl (Nat.le_of_ble_eq_true rfl) ⟨Nat.zero_le _, Nat.zero_le _⟩ (fun r1 h1 q1 => ?_)
      obtain ⟨rfl, F1, fr1, q1_0, q1_1⟩ := q1
      have fr2 : mh_fr [81, 91] h h1 := (mh_fr.tr mh_fr.rf fr1).mono (by simp)
      obtain ⟨o3, eo3⟩ : ∃ z : Int → Int, z = (sp_rns ([12]) (o, v)).1 := ⟨_, rfl⟩
      obtain ⟨v3, ev3⟩ : ∃ z : Int → Int, z = (sp_rns ([12]) (o, v)).2 := ⟨_, rfl⟩
      rw [← eo3] at q1_0
      rw [← ev3] at q1_1
      have er3 : (o3, v3) = sp_rns ([12]) (o, v) := by rw [eo3, ev3]
      obtain ⟨of3, oz3⟩ := sp_rns_out ([12]) (o, v) e22
      rw [← eo3] at of3 oz3
      have e22 := oz3
      have e23 := (of3 23 (by decide)).trans e23
      have e24 := (of3 24 (by decide)).trans e24
      have e25 := (of3 25 (by decide)).trans e25
      exact mh_ireturn F Z dX12_cools_47 ⟨(mh_sv (by unfold sp_co; first | (rw [if_pos (by omega), e24]; done) | (rw [if_neg (by omega), if_pos (by omega)]; done) | (rw [if_neg (by omega), if_neg (by omega)]; done))), F1, (fr2.mono (by simp)), (q1_0.trans (congrArg Prod.fst (show (o3, v3) = sp_rns (tr_co κ) (o, v) from by rw [er3]; unfold tr_co; first | rfl | (rw [if_pos (by omega)]; done) | (rw [if_pos (by omega)]; rfl) | (rw [if_neg (by omega)]; done) | (rw [if_neg (by omega)]; rfl) | (rw [if_neg (by omega), if_pos (by omega)]; done) | (rw [if_neg (by omega), if_pos (by omega)]; rfl) | (rw [if_neg (by omega), if_neg (by omega)]; done) | (rw [if_neg (by omega), if_neg (by omega)]; rfl)))), (q1_1.trans (congrArg Prod.snd (show (o3, v3) = sp_rns (tr_co κ) (o, v) from by rw [er3]; unfold tr_co; first | rfl | (rw [if_pos (by omega)]; done) | (rw [if_pos (by omega)]; rfl) | (rw [if_neg (by omega)]; done) | (rw [if_neg (by omega)]; rfl) | (rw [if_neg (by omega), if_pos (by omega)]; done) | (rw [if_neg (by omega), if_pos (by omega)]; rfl) | (rw [if_neg (by omega), if_neg (by omega)]; done) | (rw [if_neg (by omega), if_neg (by omega)]; rfl))))⟩
    · refine mh_aload0 (pc := 34) F dX12_cools_34 ?_
      refine mh_iload1 (pc := 35) F dX12_cools_35 ?_
      refine mh_callV0 (pc := 36) (As := [.int (Int32.ofInt (x))]) (st := []) F (by omega) (k_creamedCools (by omega) hF r81 r91 e22 e23 e24 e25 hκ) wv_RX12_375_yX12_creamedCools dX12_cools_36 sh_81 rfl (by decide) rfl rfl (Nat.le_of_ble_eq_true rfl) ⟨Nat.zero_le _, Nat.zero_le _⟩ (fun r4 h4 q4 => ?_)
      obtain ⟨rfl, F4, fr4, q4_0, q4_1⟩ := q4
      have fr5 : mh_fr [81, 91] h h4 := (mh_fr.tr mh_fr.rf fr4).mono (by simp)
      obtain ⟨o6, eo6⟩ : ∃ z : Int → Int, z = (sp_rns ([40, 12]) (o, v)).1 := ⟨_, rfl⟩
      obtain ⟨v6, ev6⟩ : ∃ z : Int → Int, z = (sp_rns ([40, 12]) (o, v)).2 := ⟨_, rfl⟩
      rw [← eo6] at q4_0
      rw [← ev6] at q4_1
      have er6 : (o6, v6) = sp_rns ([40, 12]) (o, v) := by rw [eo6, ev6]
      obtain ⟨of6, oz6⟩ := sp_rns_out ([40, 12]) (o, v) e22
      rw [← eo6] at of6 oz6
      have e22 := oz6
      have e23 := (of6 23 (by decide)).trans e23
      have e24 := (of6 24 (by decide)).trans e24
      have e25 := (of6 25 (by decide)).trans e25
      refine mh_goto (pc := 39) (tgt := 47) F dX12_cools_39 rfl ?_
      exact mh_ireturn F Z dX12_cools_47 ⟨(mh_sv (by unfold sp_co; first | (rw [if_pos (by omega), e24]; done) | (rw [if_neg (by omega), if_pos (by omega)]; done) | (rw [if_neg (by omega), if_neg (by omega)]; done))), F4, (fr5.mono (by simp)), (q4_0.trans (congrArg Prod.fst (show (o6, v6) = sp_rns (tr_co κ) (o, v) from by rw [er6]; unfold tr_co; first | rfl | (rw [if_pos (by omega)]; done) | (rw [if_pos (by omega)]; rfl) | (rw [if_neg (by omega)]; done) | (rw [if_neg (by omega)]; rfl) | (rw [if_neg (by omega), if_pos (by omega)]; done) | (rw [if_neg (by omega), if_pos (by omega)]; rfl) | (rw [if_neg (by omega), if_neg (by omega)]; done) | (rw [if_neg (by omega), if_neg (by omega)]; rfl)))), (q4_1.trans (congrArg Prod.snd (show (o6, v6) = sp_rns (tr_co κ) (o, v) from by rw [er6]; unfold tr_co; first | rfl | (rw [if_pos (by omega)]; done) | (rw [if_pos (by omega)]; rfl) | (rw [if_neg (by omega)]; done) | (rw [if_neg (by omega)]; rfl) | (rw [if_neg (by omega), if_pos (by omega)]; done) | (rw [if_neg (by omega), if_pos (by omega)]; rfl) | (rw [if_neg (by omega), if_neg (by omega)]; done) | (rw [if_neg (by omega), if_neg (by omega)]; rfl))))⟩
  · refine mh_aload0 (pc := 9) F dX12_cools_9 ?_
    refine mh_bipush (pc := 10) F dX12_cools_10 rfl ?_
    refine mh_callV0 (pc := 12) (As := [.int (Int32.ofInt (70))]) (st := []) F (by omega) (k_runs (by omega) hF r81 r91 e22) wv_RX12_351_yX12_runs dX12_cools_12 sh_81 rfl (by decide) rfl rfl (Nat.le_of_ble_eq_true rfl) ⟨Nat.zero_le _, Nat.zero_le _⟩ (fun r7 h7 q7 => ?_)
    obtain ⟨rfl, F7, fr7, q7_0, q7_1⟩ := q7
    have fr8 : mh_fr [81, 91] h h7 := (mh_fr.tr mh_fr.rf fr7).mono (by simp)
    obtain ⟨o9, eo9⟩ : ∃ z : Int → Int, z = (sp_rns [70] (o, v)).1 := ⟨_, rfl⟩
    obtain ⟨v9, ev9⟩ : ∃ z : Int → Int, z = (sp_rns [70] (o, v)).2 := ⟨_, rfl⟩
    rw [← eo9] at q7_0
    rw [← ev9] at q7_1
    have er9 : (o9, v9) = sp_rns [70] (o, v) := by rw [eo9, ev9]
    obtain ⟨of9, oz9⟩ := sp_rns_out [70] (o, v) e22
    rw [← eo9] at of9 oz9
    have e22 := oz9
    have e23 := (of9 23 (by decide)).trans e23
    have e24 := (of9 24 (by decide)).trans e24
    have e25 := (of9 25 (by decide)).trans e25
    refine mh_aload0 (pc := 15) F dX12_cools_15 ?_
    refine mh_iload1 (pc := 16) F dX12_cools_16 ?_
    refine mh_callV0 (pc := 17) (As := [.int (Int32.ofInt (x))]) (st := []) F (by omega) (k_creamedCools (by omega) F7 q7_0 q7_1 e22 e23 e24 e25 hκ) wv_RX12_375_yX12_creamedCools dX12_cools_17 sh_81 rfl (by decide) rfl rfl (Nat.le_of_ble_eq_true rfl) ⟨Nat.zero_le _, Nat.zero_le _⟩ (fun r10 h10 q10 => ?_)
    obtain ⟨rfl, F10, fr10, q10_0, q10_1⟩ := q10
    have fr11 : mh_fr [81, 91] h h10 := (mh_fr.tr fr8 fr10).mono (by simp)
    obtain ⟨o12, eo12⟩ : ∃ z : Int → Int, z = (sp_rns ([40, 12]) (o9, v9)).1 := ⟨_, rfl⟩
    obtain ⟨v12, ev12⟩ : ∃ z : Int → Int, z = (sp_rns ([40, 12]) (o9, v9)).2 := ⟨_, rfl⟩
    rw [← eo12] at q10_0
    rw [← ev12] at q10_1
    have er12 : (o12, v12) = sp_rns ([40, 12]) (o9, v9) := by rw [eo12, ev12]
    obtain ⟨of12, oz12⟩ := sp_rns_out ([40, 12]) (o9, v9) e22
    rw [← eo12] at of12 oz12
    have e22 := oz12
    have e23 := (of12 23 (by decide)).trans e23
    have e24 := (of12 24 (by decide)).trans e24
    have e25 := (of12 25 (by decide)).trans e25
    refine mh_aload0 (pc := 20) F dX12_cools_20 ?_
    refine mh_getir (pc := 21) F sh_81 (by decide) fw_RX12_354_12 dX12_cools_21 rfl q10_0 ?_
    refine mh_ixor (pc := 24) F dX12_cools_24 ?_
    exact mh_ireturn F Z dX12_cools_25 ⟨(mh_sv (by unfold sp_co; first | (rw [if_pos (by omega), e24]; done) | (rw [if_neg (by omega), if_pos (by omega)]; done) | (rw [if_neg (by omega), if_neg (by omega)]; done))), F10, (fr11.mono (by simp)), (q10_0.trans (congrArg Prod.fst (show (o12, v12) = sp_rns (tr_co κ) (o, v) from by rw [er12, er9]; unfold tr_co; first | rfl | (rw [if_pos (by omega)]; done) | (rw [if_pos (by omega)]; rfl) | (rw [if_neg (by omega)]; done) | (rw [if_neg (by omega)]; rfl) | (rw [if_neg (by omega), if_pos (by omega)]; done) | (rw [if_neg (by omega), if_pos (by omega)]; rfl) | (rw [if_neg (by omega), if_neg (by omega)]; done) | (rw [if_neg (by omega), if_neg (by omega)]; rfl)))), (q10_1.trans (congrArg Prod.snd (show (o12, v12) = sp_rns (tr_co κ) (o, v) from by rw [er12, er9]; unfold tr_co; first | rfl | (rw [if_pos (by omega)]; done) | (rw [if_pos (by omega)]; rfl) | (rw [if_neg (by omega)]; done) | (rw [if_neg (by omega)]; rfl) | (rw [if_neg (by omega), if_pos (by omega)]; done) | (rw [if_neg (by omega), if_pos (by omega)]; rfl) | (rw [if_neg (by omega), if_neg (by omega)]; done) | (rw [if_neg (by omega), if_neg (by omega)]; rfl))))⟩

set_option maxRecDepth 100000 in
set_option maxHeartbeats 4000000 in
theorem k_goatsShakes {g : mh_G} {d : Nat} (hd : 5 ≤ d) {h : Nat → Int → Int} (hF : mh_FX h) {o : Int → Int} (r81 : h 81 = o) {v : Int → Int} (r91 : h 91 = v) {x : Int} {κ n mm : Int} (e22 : 0 ≤ o 22 ∧ o 22 ≤ 40) (e23 : o 23 = κ) (e24 : o 24 = n) (e25 : o 25 = mm) (hκ : 0 ≤ κ ∧ κ ≤ 6) : mh_M g d yX12_goatsShakes cX12_goatsShakes 3 (some .int) 96 0 0 [.ref 81, .int (Int32.ofInt (x))] h (fun r h2 => r = some (.int (Int32.ofInt (sp_gs κ n mm x))) ∧ mh_FX h2 ∧ mh_fr [81, 91] h h2 ∧ h2 81 = (sp_rns (tr_gs κ) (o, v)).1 ∧ h2 91 = (sp_rns (tr_gs κ) (o, v)).2) := by
  refine mh_M_of RX12 rfl (by decide +kernel) [some (.ref 81), some (.int (Int32.ofInt (x))), none] rfl (Nat.le_of_ble_eq_true rfl) (fun f F Z hn0 hR => ?_)
  refine mh_aload0 (pc := 0) F dX12_goatsShakes_0 ?_
  refine mh_bipush (pc := 1) F dX12_goatsShakes_1 rfl ?_
  refine mh_callV0 (pc := 3) (As := [.int (Int32.ofInt (20))]) (st := []) F (by omega) (k_runs (by omega) hF r81 r91 e22) wv_RX12_351_yX12_runs dX12_goatsShakes_3 sh_81 rfl (by decide) rfl rfl (Nat.le_of_ble_eq_true rfl) ⟨Nat.zero_le _, Nat.zero_le _⟩ (fun r1 h1 q1 => ?_)
  obtain ⟨rfl, F1, fr1, q1_0, q1_1⟩ := q1
  have fr2 : mh_fr [81, 91] h h1 := (mh_fr.tr mh_fr.rf fr1).mono (by simp)
  obtain ⟨o3, eo3⟩ : ∃ z : Int → Int, z = (sp_rns [20] (o, v)).1 := ⟨_, rfl⟩
  obtain ⟨v3, ev3⟩ : ∃ z : Int → Int, z = (sp_rns [20] (o, v)).2 := ⟨_, rfl⟩
  rw [← eo3] at q1_0
  rw [← ev3] at q1_1
  have er3 : (o3, v3) = sp_rns [20] (o, v) := by rw [eo3, ev3]
  obtain ⟨of3, oz3⟩ := sp_rns_out [20] (o, v) e22
  rw [← eo3] at of3 oz3
  have e22 := oz3
  have e23 := (of3 23 (by decide)).trans e23
  have e24 := (of3 24 (by decide)).trans e24
  have e25 := (of3 25 (by decide)).trans e25
  refine mh_aload0 (pc := 6) F dX12_goatsShakes_6 ?_
  refine mh_iload1 (pc := 7) F dX12_goatsShakes_7 ?_
  refine mh_callV0 (pc := 8) (As := [.int (Int32.ofInt (x))]) (st := []) F (by omega) (k_plainShakes (by omega) F1 q1_0 q1_1 e22 e23 e24 e25 hκ) wv_RX12_360_yX12_plainShakes dX12_goatsShakes_8 sh_81 rfl (by decide) rfl rfl (Nat.le_of_ble_eq_true rfl) ⟨Nat.zero_le _, Nat.zero_le _⟩ (fun r4 h4 q4 => ?_)
  obtain ⟨rfl, F4, fr4, q4_0, q4_1⟩ := q4
  have fr5 : mh_fr [81, 91] h h4 := (mh_fr.tr fr2 fr4).mono (by simp)
  obtain ⟨o6, eo6⟩ : ∃ z : Int → Int, z = (sp_rns (tr_ps κ) (o3, v3)).1 := ⟨_, rfl⟩
  obtain ⟨v6, ev6⟩ : ∃ z : Int → Int, z = (sp_rns (tr_ps κ) (o3, v3)).2 := ⟨_, rfl⟩
  rw [← eo6] at q4_0
  rw [← ev6] at q4_1
  have er6 : (o6, v6) = sp_rns (tr_ps κ) (o3, v3) := by rw [eo6, ev6]
  obtain ⟨of6, oz6⟩ := sp_rns_out (tr_ps κ) (o3, v3) e22
  rw [← eo6] at of6 oz6
  have e22 := oz6
  have e23 := (of6 23 (by decide)).trans e23
  have e24 := (of6 24 (by decide)).trans e24
  have e25 := (of6 25 (by decide)).trans e25
  refine mh_istore2 (pc := 11) F dX12_goatsShakes_11 rfl (by decide) ?_
  refine mh_iload2 (pc := 12) F dX12_goatsShakes_12 ?_
  refine mh_aload0 (pc := 13) F dX12_goatsShakes_13 ?_
  refine mh_iconst (pc := 14) F dX12_goatsShakes_14 ?_
  refine mh_callV0 (pc := 15) (As := [.int (Int32.ofInt (1))]) (st := [.int (Int32.ofInt (2 * sp_fi κ n x))]) F (by omega) (k_cools (by omega) F4 q4_0 q4_1 e22 e23 e24 e25 hκ) wv_RX12_363_yX12_cools dX12_goatsShakes_15 sh_81 rfl (by decide) rfl rfl (Nat.le_of_ble_eq_true rfl) ⟨Nat.zero_le _, Nat.zero_le _⟩ (fun r7 h7 q7 => ?_)
  obtain ⟨rfl, F7, fr7, q7_0, q7_1⟩ := q7
  have fr8 : mh_fr [81, 91] h h7 := (mh_fr.tr fr5 fr7).mono (by simp)
  obtain ⟨o9, eo9⟩ : ∃ z : Int → Int, z = (sp_rns (tr_co κ) (o6, v6)).1 := ⟨_, rfl⟩
  obtain ⟨v9, ev9⟩ : ∃ z : Int → Int, z = (sp_rns (tr_co κ) (o6, v6)).2 := ⟨_, rfl⟩
  rw [← eo9] at q7_0
  rw [← ev9] at q7_1
  have er9 : (o9, v9) = sp_rns (tr_co κ) (o6, v6) := by rw [eo9, ev9]
  obtain ⟨of9, oz9⟩ := sp_rns_out (tr_co κ) (o6, v6) e22
  rw [← eo9] at of9 oz9
  have e22 := oz9
  have e23 := (of9 23 (by decide)).trans e23
  have e24 := (of9 24 (by decide)).trans e24
  have e25 := (of9 25 (by decide)).trans e25
  refine mh_isub (pc := 18) F dX12_goatsShakes_18 ?_
  exact mh_ireturn F Z dX12_goatsShakes_19 ⟨rfl, F7, (fr8.mono (by simp)), (q7_0.trans (congrArg Prod.fst (show (o9, v9) = sp_rns (tr_gs κ) (o, v) from by rw [er9, er6, er3]; unfold tr_gs; show _ = sp_rns (tr_ps κ ++ tr_co κ) _; rw [sp_rns_app]; rfl))), (q7_1.trans (congrArg Prod.snd (show (o9, v9) = sp_rns (tr_gs κ) (o, v) from by rw [er9, er6, er3]; unfold tr_gs; show _ = sp_rns (tr_ps κ ++ tr_co κ) _; rw [sp_rns_app]; rfl)))⟩

set_option maxRecDepth 100000 in
set_option maxHeartbeats 4000000 in
theorem k_shakes {g : mh_G} {d : Nat} (hd : 6 ≤ d) {h : Nat → Int → Int} (hF : mh_FX h) {o : Int → Int} (r81 : h 81 = o) {v : Int → Int} (r91 : h 91 = v) {x : Int} {κ n mm : Int} (e22 : 0 ≤ o 22 ∧ o 22 ≤ 40) (e23 : o 23 = κ) (e24 : o 24 = n) (e25 : o 25 = mm) (hκ : 0 ≤ κ ∧ κ ≤ 6) : mh_M g d yX12_shakes cX12_shakes 2 (some .int) 96 0 0 [.ref 81, .int (Int32.ofInt (x))] h (fun r h2 => r = some (.int (Int32.ofInt (sp_sh κ n mm x))) ∧ mh_FX h2 ∧ mh_fr [81, 91] h h2 ∧ h2 81 = (sp_rns (tr_sh κ) (o, v)).1 ∧ h2 91 = (sp_rns (tr_sh κ) (o, v)).2) := by
  refine mh_M_of RX12 rfl (by decide +kernel) [some (.ref 81), some (.int (Int32.ofInt (x)))] rfl (Nat.le_of_ble_eq_true rfl) (fun f F Z hn0 hR => ?_)
  refine mh_aload0 (pc := 0) F dX12_shakes_0 ?_
  refine mh_getir (pc := 1) F sh_81 (by decide) fw_RX12_348_12 dX12_shakes_1 rfl r81 ?_
  refine mh_iconst (pc := 4) F dX12_shakes_4 ?_
  refine mh_icmp_ne (pc := 5) (tgt := 22) F dX12_shakes_5 rfl (by omega) (by omega) (fun c_5 => ?_) (fun c_5 => ?_)
  · refine mh_aload0 (pc := 22) F dX12_shakes_22 ?_
    refine mh_getir (pc := 23) F sh_81 (by decide) fw_RX12_348_12 dX12_shakes_23 rfl r81 ?_
    refine mh_iconst (pc := 26) F dX12_shakes_26 ?_
    refine mh_icmp_ne (pc := 27) (tgt := 38) F dX12_shakes_27 rfl (by omega) (by omega) (fun c_27 => ?_) (fun c_27 => ?_)
    · refine mh_aload0 (pc := 38) F dX12_shakes_38 ?_
      refine mh_iload1 (pc := 39) F dX12_shakes_39 ?_
      refine mh_callV0 (pc := 40) (As := [.int (Int32.ofInt (x))]) (st := []) F (by omega) (k_plainShakes (by omega) hF r81 r91 e22 e23 e24 e25 hκ) wv_RX12_360_yX12_plainShakes dX12_shakes_40 sh_81 rfl (by decide) rfl rfl (Nat.le_of_ble_eq_true rfl) ⟨Nat.zero_le _, Nat.zero_le _⟩ (fun r1 h1 q1 => ?_)
      obtain ⟨rfl, F1, fr1, q1_0, q1_1⟩ := q1
      have fr2 : mh_fr [81, 91] h h1 := (mh_fr.tr mh_fr.rf fr1).mono (by simp)
      obtain ⟨o3, eo3⟩ : ∃ z : Int → Int, z = (sp_rns (tr_ps κ) (o, v)).1 := ⟨_, rfl⟩
      obtain ⟨v3, ev3⟩ : ∃ z : Int → Int, z = (sp_rns (tr_ps κ) (o, v)).2 := ⟨_, rfl⟩
      rw [← eo3] at q1_0
      rw [← ev3] at q1_1
      have er3 : (o3, v3) = sp_rns (tr_ps κ) (o, v) := by rw [eo3, ev3]
      obtain ⟨of3, oz3⟩ := sp_rns_out (tr_ps κ) (o, v) e22
      rw [← eo3] at of3 oz3
      have e22 := oz3
      have e23 := (of3 23 (by decide)).trans e23
      have e24 := (of3 24 (by decide)).trans e24
      have e25 := (of3 25 (by decide)).trans e25
      exact mh_ireturn F Z dX12_shakes_43 ⟨(mh_sv (by unfold sp_sh; first | (rw [if_pos (by omega)]; done) | (rw [if_neg (by omega), if_pos (by omega)]; done) | (rw [if_neg (by omega), if_neg (by omega)]; done))), F1, (fr2.mono (by simp)), (q1_0.trans (congrArg Prod.fst (show (o3, v3) = sp_rns (tr_sh κ) (o, v) from by rw [er3]; unfold tr_sh; first | rfl | (rw [if_pos (by omega)]; done) | (rw [if_pos (by omega)]; rfl) | (rw [if_neg (by omega)]; done) | (rw [if_neg (by omega)]; rfl) | (rw [if_neg (by omega), if_pos (by omega)]; done) | (rw [if_neg (by omega), if_pos (by omega)]; rfl) | (rw [if_neg (by omega), if_neg (by omega)]; done) | (rw [if_neg (by omega), if_neg (by omega)]; rfl)))), (q1_1.trans (congrArg Prod.snd (show (o3, v3) = sp_rns (tr_sh κ) (o, v) from by rw [er3]; unfold tr_sh; first | rfl | (rw [if_pos (by omega)]; done) | (rw [if_pos (by omega)]; rfl) | (rw [if_neg (by omega)]; done) | (rw [if_neg (by omega)]; rfl) | (rw [if_neg (by omega), if_pos (by omega)]; done) | (rw [if_neg (by omega), if_pos (by omega)]; rfl) | (rw [if_neg (by omega), if_neg (by omega)]; done) | (rw [if_neg (by omega), if_neg (by omega)]; rfl))))⟩
    · refine mh_aload0 (pc := 30) F dX12_shakes_30 ?_
      refine mh_iload1 (pc := 31) F dX12_shakes_31 ?_
      refine mh_callV0 (pc := 32) (As := [.int (Int32.ofInt (x))]) (st := []) F (by omega) (k_goatsShakes (by omega) hF r81 r91 e22 e23 e24 e25 hκ) wv_RX12_366_yX12_goatsShakes dX12_shakes_32 sh_81 rfl (by decide) rfl rfl (Nat.le_of_ble_eq_true rfl) ⟨Nat.zero_le _, Nat.zero_le _⟩ (fun r4 h4 q4 => ?_)
      obtain ⟨rfl, F4, fr4, q4_0, q4_1⟩ := q4
      have fr5 : mh_fr [81, 91] h h4 := (mh_fr.tr mh_fr.rf fr4).mono (by simp)
      obtain ⟨o6, eo6⟩ : ∃ z : Int → Int, z = (sp_rns (tr_gs κ) (o, v)).1 := ⟨_, rfl⟩
      obtain ⟨v6, ev6⟩ : ∃ z : Int → Int, z = (sp_rns (tr_gs κ) (o, v)).2 := ⟨_, rfl⟩
      rw [← eo6] at q4_0
      rw [← ev6] at q4_1
      have er6 : (o6, v6) = sp_rns (tr_gs κ) (o, v) := by rw [eo6, ev6]
      obtain ⟨of6, oz6⟩ := sp_rns_out (tr_gs κ) (o, v) e22
      rw [← eo6] at of6 oz6
      have e22 := oz6
      have e23 := (of6 23 (by decide)).trans e23
      have e24 := (of6 24 (by decide)).trans e24
      have e25 := (of6 25 (by decide)).trans e25
      refine mh_goto (pc := 35) (tgt := 43) F dX12_shakes_35 rfl ?_
      exact mh_ireturn F Z dX12_shakes_43 ⟨(mh_sv (by unfold sp_sh; first | (rw [if_pos (by omega)]; done) | (rw [if_neg (by omega), if_pos (by omega)]; done) | (rw [if_neg (by omega), if_neg (by omega)]; done))), F4, (fr5.mono (by simp)), (q4_0.trans (congrArg Prod.fst (show (o6, v6) = sp_rns (tr_sh κ) (o, v) from by rw [er6]; unfold tr_sh; first | rfl | (rw [if_pos (by omega)]; done) | (rw [if_pos (by omega)]; rfl) | (rw [if_neg (by omega)]; done) | (rw [if_neg (by omega)]; rfl) | (rw [if_neg (by omega), if_pos (by omega)]; done) | (rw [if_neg (by omega), if_pos (by omega)]; rfl) | (rw [if_neg (by omega), if_neg (by omega)]; done) | (rw [if_neg (by omega), if_neg (by omega)]; rfl)))), (q4_1.trans (congrArg Prod.snd (show (o6, v6) = sp_rns (tr_sh κ) (o, v) from by rw [er6]; unfold tr_sh; first | rfl | (rw [if_pos (by omega)]; done) | (rw [if_pos (by omega)]; rfl) | (rw [if_neg (by omega)]; done) | (rw [if_neg (by omega)]; rfl) | (rw [if_neg (by omega), if_pos (by omega)]; done) | (rw [if_neg (by omega), if_pos (by omega)]; rfl) | (rw [if_neg (by omega), if_neg (by omega)]; done) | (rw [if_neg (by omega), if_neg (by omega)]; rfl))))⟩
  · refine mh_aload0 (pc := 8) F dX12_shakes_8 ?_
    refine mh_bipush (pc := 9) F dX12_shakes_9 rfl ?_
    refine mh_callV0 (pc := 11) (As := [.int (Int32.ofInt (50))]) (st := []) F (by omega) (k_runs (by omega) hF r81 r91 e22) wv_RX12_351_yX12_runs dX12_shakes_11 sh_81 rfl (by decide) rfl rfl (Nat.le_of_ble_eq_true rfl) ⟨Nat.zero_le _, Nat.zero_le _⟩ (fun r7 h7 q7 => ?_)
    obtain ⟨rfl, F7, fr7, q7_0, q7_1⟩ := q7
    have fr8 : mh_fr [81, 91] h h7 := (mh_fr.tr mh_fr.rf fr7).mono (by simp)
    obtain ⟨o9, eo9⟩ : ∃ z : Int → Int, z = (sp_rns [50] (o, v)).1 := ⟨_, rfl⟩
    obtain ⟨v9, ev9⟩ : ∃ z : Int → Int, z = (sp_rns [50] (o, v)).2 := ⟨_, rfl⟩
    rw [← eo9] at q7_0
    rw [← ev9] at q7_1
    have er9 : (o9, v9) = sp_rns [50] (o, v) := by rw [eo9, ev9]
    obtain ⟨of9, oz9⟩ := sp_rns_out [50] (o, v) e22
    rw [← eo9] at of9 oz9
    have e22 := oz9
    have e23 := (of9 23 (by decide)).trans e23
    have e24 := (of9 24 (by decide)).trans e24
    have e25 := (of9 25 (by decide)).trans e25
    refine mh_aload0 (pc := 14) F dX12_shakes_14 ?_
    refine mh_iload1 (pc := 15) F dX12_shakes_15 ?_
    refine mh_iconst (pc := 16) F dX12_shakes_16 ?_
    refine mh_iadd (pc := 17) F dX12_shakes_17 ?_
    refine mh_callV0 (pc := 18) (As := [.int (Int32.ofInt (x + 1))]) (st := []) F (by omega) (k_goatsShakes (by omega) F7 q7_0 q7_1 e22 e23 e24 e25 hκ) wv_RX12_366_yX12_goatsShakes dX12_shakes_18 sh_81 rfl (by decide) rfl rfl (Nat.le_of_ble_eq_true rfl) ⟨Nat.zero_le _, Nat.zero_le _⟩ (fun r10 h10 q10 => ?_)
    obtain ⟨rfl, F10, fr10, q10_0, q10_1⟩ := q10
    have fr11 : mh_fr [81, 91] h h10 := (mh_fr.tr fr8 fr10).mono (by simp)
    obtain ⟨o12, eo12⟩ : ∃ z : Int → Int, z = (sp_rns (tr_gs κ) (o9, v9)).1 := ⟨_, rfl⟩
    obtain ⟨v12, ev12⟩ : ∃ z : Int → Int, z = (sp_rns (tr_gs κ) (o9, v9)).2 := ⟨_, rfl⟩
    rw [← eo12] at q10_0
    rw [← ev12] at q10_1
    have er12 : (o12, v12) = sp_rns (tr_gs κ) (o9, v9) := by rw [eo12, ev12]
    obtain ⟨of12, oz12⟩ := sp_rns_out (tr_gs κ) (o9, v9) e22
    rw [← eo12] at of12 oz12
    have e22 := oz12
    have e23 := (of12 23 (by decide)).trans e23
    have e24 := (of12 24 (by decide)).trans e24
    have e25 := (of12 25 (by decide)).trans e25
    exact mh_ireturn F Z dX12_shakes_21 ⟨(mh_sv (by unfold sp_sh; first | (rw [if_pos (by omega)]; done) | (rw [if_neg (by omega), if_pos (by omega)]; done) | (rw [if_neg (by omega), if_neg (by omega)]; done))), F10, (fr11.mono (by simp)), (q10_0.trans (congrArg Prod.fst (show (o12, v12) = sp_rns (tr_sh κ) (o, v) from by rw [er12, er9]; unfold tr_sh; first | rfl | (rw [if_pos (by omega)]; done) | (rw [if_pos (by omega)]; rfl) | (rw [if_neg (by omega)]; done) | (rw [if_neg (by omega)]; rfl) | (rw [if_neg (by omega), if_pos (by omega)]; done) | (rw [if_neg (by omega), if_pos (by omega)]; rfl) | (rw [if_neg (by omega), if_neg (by omega)]; done) | (rw [if_neg (by omega), if_neg (by omega)]; rfl)))), (q10_1.trans (congrArg Prod.snd (show (o12, v12) = sp_rns (tr_sh κ) (o, v) from by rw [er12, er9]; unfold tr_sh; first | rfl | (rw [if_pos (by omega)]; done) | (rw [if_pos (by omega)]; rfl) | (rw [if_neg (by omega)]; done) | (rw [if_neg (by omega)]; rfl) | (rw [if_neg (by omega), if_pos (by omega)]; done) | (rw [if_neg (by omega), if_pos (by omega)]; rfl) | (rw [if_neg (by omega), if_neg (by omega)]; done) | (rw [if_neg (by omega), if_neg (by omega)]; rfl))))⟩

set_option maxRecDepth 100000 in
set_option maxHeartbeats 4000000 in
theorem k_plainTells {g : mh_G} {d : Nat} (hd : 7 ≤ d) {h : Nat → Int → Int} (hF : mh_FX h) {o : Int → Int} (r81 : h 81 = o) {v : Int → Int} (r91 : h 91 = v) {x : Int} {κ n mm : Int} (e22 : 0 ≤ o 22 ∧ o 22 ≤ 40) (e23 : o 23 = κ) (e24 : o 24 = n) (e25 : o 25 = mm) (hκ : 0 ≤ κ ∧ κ ≤ 6) : mh_M g d yX12_plainTells cX12_plainTells 3 (some .int) 96 0 0 [.ref 81, .int (Int32.ofInt (x))] h (fun r h2 => r = some (.int (Int32.ofInt (sp_pt κ n mm x))) ∧ mh_FX h2 ∧ mh_fr [81, 91] h h2 ∧ h2 81 = (sp_rns (tr_pt κ) (o, v)).1 ∧ h2 91 = (sp_rns (tr_pt κ) (o, v)).2) := by
  refine mh_M_of RX12 rfl (by decide +kernel) [some (.ref 81), some (.int (Int32.ofInt (x))), none] rfl (Nat.le_of_ble_eq_true rfl) (fun f F Z hn0 hR => ?_)
  refine mh_aload0 (pc := 0) F dX12_plainTells_0 ?_
  refine mh_bipush (pc := 1) F dX12_plainTells_1 rfl ?_
  refine mh_callV0 (pc := 3) (As := [.int (Int32.ofInt (13))]) (st := []) F (by omega) (k_runs (by omega) hF r81 r91 e22) wv_RX12_351_yX12_runs dX12_plainTells_3 sh_81 rfl (by decide) rfl rfl (Nat.le_of_ble_eq_true rfl) ⟨Nat.zero_le _, Nat.zero_le _⟩ (fun r1 h1 q1 => ?_)
  obtain ⟨rfl, F1, fr1, q1_0, q1_1⟩ := q1
  have fr2 : mh_fr [81, 91] h h1 := (mh_fr.tr mh_fr.rf fr1).mono (by simp)
  obtain ⟨o3, eo3⟩ : ∃ z : Int → Int, z = (sp_rns [13] (o, v)).1 := ⟨_, rfl⟩
  obtain ⟨v3, ev3⟩ : ∃ z : Int → Int, z = (sp_rns [13] (o, v)).2 := ⟨_, rfl⟩
  rw [← eo3] at q1_0
  rw [← ev3] at q1_1
  have er3 : (o3, v3) = sp_rns [13] (o, v) := by rw [eo3, ev3]
  obtain ⟨of3, oz3⟩ := sp_rns_out [13] (o, v) e22
  rw [← eo3] at of3 oz3
  have e22 := oz3
  have e23 := (of3 23 (by decide)).trans e23
  have e24 := (of3 24 (by decide)).trans e24
  have e25 := (of3 25 (by decide)).trans e25
  refine mh_aload0 (pc := 6) F dX12_plainTells_6 ?_
  refine mh_iload1 (pc := 7) F dX12_plainTells_7 ?_
  refine mh_callV0 (pc := 8) (As := [.int (Int32.ofInt (x))]) (st := []) F (by omega) (k_shakes (by omega) F1 q1_0 q1_1 e22 e23 e24 e25 hκ) wv_RX12_378_yX12_shakes dX12_plainTells_8 sh_81 rfl (by decide) rfl rfl (Nat.le_of_ble_eq_true rfl) ⟨Nat.zero_le _, Nat.zero_le _⟩ (fun r4 h4 q4 => ?_)
  obtain ⟨rfl, F4, fr4, q4_0, q4_1⟩ := q4
  have fr5 : mh_fr [81, 91] h h4 := (mh_fr.tr fr2 fr4).mono (by simp)
  obtain ⟨o6, eo6⟩ : ∃ z : Int → Int, z = (sp_rns (tr_sh κ) (o3, v3)).1 := ⟨_, rfl⟩
  obtain ⟨v6, ev6⟩ : ∃ z : Int → Int, z = (sp_rns (tr_sh κ) (o3, v3)).2 := ⟨_, rfl⟩
  rw [← eo6] at q4_0
  rw [← ev6] at q4_1
  have er6 : (o6, v6) = sp_rns (tr_sh κ) (o3, v3) := by rw [eo6, ev6]
  obtain ⟨of6, oz6⟩ := sp_rns_out (tr_sh κ) (o3, v3) e22
  rw [← eo6] at of6 oz6
  have e22 := oz6
  have e23 := (of6 23 (by decide)).trans e23
  have e24 := (of6 24 (by decide)).trans e24
  have e25 := (of6 25 (by decide)).trans e25
  refine mh_istore2 (pc := 11) F dX12_plainTells_11 rfl (by decide) ?_
  refine mh_iload2 (pc := 12) F dX12_plainTells_12 ?_
  refine mh_aload0 (pc := 13) F dX12_plainTells_13 ?_
  refine mh_iload1 (pc := 14) F dX12_plainTells_14 ?_
  refine mh_callV0 (pc := 15) (As := [.int (Int32.ofInt (x))]) (st := [.int (Int32.ofInt (sp_sh κ n mm x))]) F (by omega) (k_cools (by omega) F4 q4_0 q4_1 e22 e23 e24 e25 hκ) wv_RX12_363_yX12_cools dX12_plainTells_15 sh_81 rfl (by decide) rfl rfl (Nat.le_of_ble_eq_true rfl) ⟨Nat.zero_le _, Nat.zero_le _⟩ (fun r7 h7 q7 => ?_)
  obtain ⟨rfl, F7, fr7, q7_0, q7_1⟩ := q7
  have fr8 : mh_fr [81, 91] h h7 := (mh_fr.tr fr5 fr7).mono (by simp)
  obtain ⟨o9, eo9⟩ : ∃ z : Int → Int, z = (sp_rns (tr_co κ) (o6, v6)).1 := ⟨_, rfl⟩
  obtain ⟨v9, ev9⟩ : ∃ z : Int → Int, z = (sp_rns (tr_co κ) (o6, v6)).2 := ⟨_, rfl⟩
  rw [← eo9] at q7_0
  rw [← ev9] at q7_1
  have er9 : (o9, v9) = sp_rns (tr_co κ) (o6, v6) := by rw [eo9, ev9]
  obtain ⟨of9, oz9⟩ := sp_rns_out (tr_co κ) (o6, v6) e22
  rw [← eo9] at of9 oz9
  have e22 := oz9
  have e23 := (of9 23 (by decide)).trans e23
  have e24 := (of9 24 (by decide)).trans e24
  have e25 := (of9 25 (by decide)).trans e25
  refine mh_ixor (pc := 18) F dX12_plainTells_18 ?_
  exact mh_ireturn F Z dX12_plainTells_19 ⟨rfl, F7, (fr8.mono (by simp)), (q7_0.trans (congrArg Prod.fst (show (o9, v9) = sp_rns (tr_pt κ) (o, v) from by rw [er9, er6, er3]; unfold tr_pt; show _ = sp_rns (tr_sh κ ++ tr_co κ) _; rw [sp_rns_app]; rfl))), (q7_1.trans (congrArg Prod.snd (show (o9, v9) = sp_rns (tr_pt κ) (o, v) from by rw [er9, er6, er3]; unfold tr_pt; show _ = sp_rns (tr_sh κ ++ tr_co κ) _; rw [sp_rns_app]; rfl)))⟩

set_option maxRecDepth 100000 in
set_option maxHeartbeats 4000000 in
theorem k_tells {g : mh_G} {d : Nat} (hd : 8 ≤ d) {h : Nat → Int → Int} (hF : mh_FX h) {o : Int → Int} (r81 : h 81 = o) {v : Int → Int} (r91 : h 91 = v) {x : Int} {κ n mm : Int} (e22 : 0 ≤ o 22 ∧ o 22 ≤ 40) (e23 : o 23 = κ) (e24 : o 24 = n) (e25 : o 25 = mm) (hκ : 0 ≤ κ ∧ κ ≤ 6) : mh_M g d yX12_tells cX12_tells 3 (some .int) 96 0 0 [.ref 81, .int (Int32.ofInt (x))] h (fun r h2 => r = some (.int (Int32.ofInt (sp_te κ n mm x))) ∧ mh_FX h2 ∧ mh_fr [81, 91] h h2 ∧ h2 81 = (sp_rns (tr_te κ) (o, v)).1 ∧ h2 91 = (sp_rns (tr_te κ) (o, v)).2) := by
  refine mh_M_of RX12 rfl (by decide +kernel) [some (.ref 81), some (.int (Int32.ofInt (x))), none] rfl (Nat.le_of_ble_eq_true rfl) (fun f F Z hn0 hR => ?_)
  refine mh_aload0 (pc := 0) F dX12_tells_0 ?_
  refine mh_getir (pc := 1) F sh_81 (by decide) fw_RX12_348_12 dX12_tells_1 rfl r81 ?_
  refine mh_iconst (pc := 4) F dX12_tells_4 ?_
  refine mh_icmp_ne (pc := 5) (tgt := 28) F dX12_tells_5 rfl (by omega) (by omega) (fun c_5 => ?_) (fun c_5 => ?_)
  · refine mh_aload0 (pc := 28) F dX12_tells_28 ?_
    refine mh_getir (pc := 29) F sh_81 (by decide) fw_RX12_348_12 dX12_tells_29 rfl r81 ?_
    refine mh_bipush (pc := 32) F dX12_tells_32 rfl ?_
    refine mh_icmp_ne (pc := 34) (tgt := 57) F dX12_tells_34 rfl (by omega) (by omega) (fun c_34 => ?_) (fun c_34 => ?_)
    · refine mh_aload0 (pc := 57) F dX12_tells_57 ?_
      refine mh_iload1 (pc := 58) F dX12_tells_58 ?_
      refine mh_callV0 (pc := 59) (As := [.int (Int32.ofInt (x))]) (st := []) F (by omega) (k_plainTells (by omega) hF r81 r91 e22 e23 e24 e25 hκ) wv_RX12_381_yX12_plainTells dX12_tells_59 sh_81 rfl (by decide) rfl rfl (Nat.le_of_ble_eq_true rfl) ⟨Nat.zero_le _, Nat.zero_le _⟩ (fun r1 h1 q1 => ?_)
      obtain ⟨rfl, F1, fr1, q1_0, q1_1⟩ := q1
      have fr2 : mh_fr [81, 91] h h1 := (mh_fr.tr mh_fr.rf fr1).mono (by simp)
      obtain ⟨o3, eo3⟩ : ∃ z : Int → Int, z = (sp_rns (tr_pt κ) (o, v)).1 := ⟨_, rfl⟩
      obtain ⟨v3, ev3⟩ : ∃ z : Int → Int, z = (sp_rns (tr_pt κ) (o, v)).2 := ⟨_, rfl⟩
      rw [← eo3] at q1_0
      rw [← ev3] at q1_1
      have er3 : (o3, v3) = sp_rns (tr_pt κ) (o, v) := by rw [eo3, ev3]
      obtain ⟨of3, oz3⟩ := sp_rns_out (tr_pt κ) (o, v) e22
      rw [← eo3] at of3 oz3
      have e22 := oz3
      have e23 := (of3 23 (by decide)).trans e23
      have e24 := (of3 24 (by decide)).trans e24
      have e25 := (of3 25 (by decide)).trans e25
      exact mh_ireturn F Z dX12_tells_62 ⟨(mh_sv (by unfold sp_te; first | (rw [if_pos (by omega)]; done) | (rw [if_neg (by omega), if_pos (by omega)]; done) | (rw [if_neg (by omega), if_neg (by omega)]; done))), F1, (fr2.mono (by simp)), (q1_0.trans (congrArg Prod.fst (show (o3, v3) = sp_rns (tr_te κ) (o, v) from by rw [er3]; unfold tr_te; first | (rw [if_pos (by omega)]; show _ = sp_rns (tr_pt κ ++ tr_fi κ) _; rw [sp_rns_app]; rfl) | (rw [if_neg (by omega), if_pos (by omega)]; show _ = sp_rns (tr_sh κ ++ tr_pt κ) _; rw [sp_rns_app]; rfl) | (rw [if_neg (by omega), if_neg (by omega)]; done)))), (q1_1.trans (congrArg Prod.snd (show (o3, v3) = sp_rns (tr_te κ) (o, v) from by rw [er3]; unfold tr_te; first | (rw [if_pos (by omega)]; show _ = sp_rns (tr_pt κ ++ tr_fi κ) _; rw [sp_rns_app]; rfl) | (rw [if_neg (by omega), if_pos (by omega)]; show _ = sp_rns (tr_sh κ ++ tr_pt κ) _; rw [sp_rns_app]; rfl) | (rw [if_neg (by omega), if_neg (by omega)]; done))))⟩
    · refine mh_aload0 (pc := 37) F dX12_tells_37 ?_
      refine mh_bipush (pc := 38) F dX12_tells_38 rfl ?_
      refine mh_callV0 (pc := 40) (As := [.int (Int32.ofInt (71))]) (st := []) F (by omega) (k_runs (by omega) hF r81 r91 e22) wv_RX12_351_yX12_runs dX12_tells_40 sh_81 rfl (by decide) rfl rfl (Nat.le_of_ble_eq_true rfl) ⟨Nat.zero_le _, Nat.zero_le _⟩ (fun r4 h4 q4 => ?_)
      obtain ⟨rfl, F4, fr4, q4_0, q4_1⟩ := q4
      have fr5 : mh_fr [81, 91] h h4 := (mh_fr.tr mh_fr.rf fr4).mono (by simp)
      obtain ⟨o6, eo6⟩ : ∃ z : Int → Int, z = (sp_rns [71] (o, v)).1 := ⟨_, rfl⟩
      obtain ⟨v6, ev6⟩ : ∃ z : Int → Int, z = (sp_rns [71] (o, v)).2 := ⟨_, rfl⟩
      rw [← eo6] at q4_0
      rw [← ev6] at q4_1
      have er6 : (o6, v6) = sp_rns [71] (o, v) := by rw [eo6, ev6]
      obtain ⟨of6, oz6⟩ := sp_rns_out [71] (o, v) e22
      rw [← eo6] at of6 oz6
      have e22 := oz6
      have e23 := (of6 23 (by decide)).trans e23
      have e24 := (of6 24 (by decide)).trans e24
      have e25 := (of6 25 (by decide)).trans e25
      refine mh_aload0 (pc := 43) F dX12_tells_43 ?_
      refine mh_iload1 (pc := 44) F dX12_tells_44 ?_
      refine mh_callV0 (pc := 45) (As := [.int (Int32.ofInt (x))]) (st := []) F (by omega) (k_shakes (by omega) F4 q4_0 q4_1 e22 e23 e24 e25 hκ) wv_RX12_378_yX12_shakes dX12_tells_45 sh_81 rfl (by decide) rfl rfl (Nat.le_of_ble_eq_true rfl) ⟨Nat.zero_le _, Nat.zero_le _⟩ (fun r7 h7 q7 => ?_)
      obtain ⟨rfl, F7, fr7, q7_0, q7_1⟩ := q7
      have fr8 : mh_fr [81, 91] h h7 := (mh_fr.tr fr5 fr7).mono (by simp)
      obtain ⟨o9, eo9⟩ : ∃ z : Int → Int, z = (sp_rns (tr_sh κ) (o6, v6)).1 := ⟨_, rfl⟩
      obtain ⟨v9, ev9⟩ : ∃ z : Int → Int, z = (sp_rns (tr_sh κ) (o6, v6)).2 := ⟨_, rfl⟩
      rw [← eo9] at q7_0
      rw [← ev9] at q7_1
      have er9 : (o9, v9) = sp_rns (tr_sh κ) (o6, v6) := by rw [eo9, ev9]
      obtain ⟨of9, oz9⟩ := sp_rns_out (tr_sh κ) (o6, v6) e22
      rw [← eo9] at of9 oz9
      have e22 := oz9
      have e23 := (of9 23 (by decide)).trans e23
      have e24 := (of9 24 (by decide)).trans e24
      have e25 := (of9 25 (by decide)).trans e25
      refine mh_istore2 (pc := 48) F dX12_tells_48 rfl (by decide) ?_
      refine mh_iload2 (pc := 49) F dX12_tells_49 ?_
      refine mh_aload0 (pc := 50) F dX12_tells_50 ?_
      refine mh_iload1 (pc := 51) F dX12_tells_51 ?_
      refine mh_callV0 (pc := 52) (As := [.int (Int32.ofInt (x))]) (st := [.int (Int32.ofInt (sp_sh κ n mm x))]) F (by omega) (k_plainTells (by omega) F7 q7_0 q7_1 e22 e23 e24 e25 hκ) wv_RX12_381_yX12_plainTells dX12_tells_52 sh_81 rfl (by decide) rfl rfl (Nat.le_of_ble_eq_true rfl) ⟨Nat.zero_le _, Nat.zero_le _⟩ (fun r10 h10 q10 => ?_)
      obtain ⟨rfl, F10, fr10, q10_0, q10_1⟩ := q10
      have fr11 : mh_fr [81, 91] h h10 := (mh_fr.tr fr8 fr10).mono (by simp)
      obtain ⟨o12, eo12⟩ : ∃ z : Int → Int, z = (sp_rns (tr_pt κ) (o9, v9)).1 := ⟨_, rfl⟩
      obtain ⟨v12, ev12⟩ : ∃ z : Int → Int, z = (sp_rns (tr_pt κ) (o9, v9)).2 := ⟨_, rfl⟩
      rw [← eo12] at q10_0
      rw [← ev12] at q10_1
      have er12 : (o12, v12) = sp_rns (tr_pt κ) (o9, v9) := by rw [eo12, ev12]
      obtain ⟨of12, oz12⟩ := sp_rns_out (tr_pt κ) (o9, v9) e22
      rw [← eo12] at of12 oz12
      have e22 := oz12
      have e23 := (of12 23 (by decide)).trans e23
      have e24 := (of12 24 (by decide)).trans e24
      have e25 := (of12 25 (by decide)).trans e25
      refine mh_isub (pc := 55) F dX12_tells_55 ?_
      exact mh_ireturn F Z dX12_tells_56 ⟨(mh_sv (by unfold sp_te; first | (rw [if_pos (by omega)]; done) | (rw [if_neg (by omega), if_pos (by omega)]; done) | (rw [if_neg (by omega), if_neg (by omega)]; done))), F10, (fr11.mono (by simp)), (q10_0.trans (congrArg Prod.fst (show (o12, v12) = sp_rns (tr_te κ) (o, v) from by rw [er12, er9, er6]; unfold tr_te; first | (rw [if_pos (by omega)]; show _ = sp_rns (tr_pt κ ++ tr_fi κ) _; rw [sp_rns_app]; rfl) | (rw [if_neg (by omega), if_pos (by omega)]; show _ = sp_rns (tr_sh κ ++ tr_pt κ) _; rw [sp_rns_app]; rfl) | (rw [if_neg (by omega), if_neg (by omega)]; done)))), (q10_1.trans (congrArg Prod.snd (show (o12, v12) = sp_rns (tr_te κ) (o, v) from by rw [er12, er9, er6]; unfold tr_te; first | (rw [if_pos (by omega)]; show _ = sp_rns (tr_pt κ ++ tr_fi κ) _; rw [sp_rns_app]; rfl) | (rw [if_neg (by omega), if_pos (by omega)]; show _ = sp_rns (tr_sh κ ++ tr_pt κ) _; rw [sp_rns_app]; rfl) | (rw [if_neg (by omega), if_neg (by omega)]; done))))⟩
  · refine mh_aload0 (pc := 8) F dX12_tells_8 ?_
    refine mh_bipush (pc := 9) F dX12_tells_9 rfl ?_
    refine mh_callV0 (pc := 11) (As := [.int (Int32.ofInt (60))]) (st := []) F (by omega) (k_runs (by omega) hF r81 r91 e22) wv_RX12_351_yX12_runs dX12_tells_11 sh_81 rfl (by decide) rfl rfl (Nat.le_of_ble_eq_true rfl) ⟨Nat.zero_le _, Nat.zero_le _⟩ (fun r13 h13 q13 => ?_)
    obtain ⟨rfl, F13, fr13, q13_0, q13_1⟩ := q13
    have fr14 : mh_fr [81, 91] h h13 := (mh_fr.tr mh_fr.rf fr13).mono (by simp)
    obtain ⟨o15, eo15⟩ : ∃ z : Int → Int, z = (sp_rns [60] (o, v)).1 := ⟨_, rfl⟩
    obtain ⟨v15, ev15⟩ : ∃ z : Int → Int, z = (sp_rns [60] (o, v)).2 := ⟨_, rfl⟩
    rw [← eo15] at q13_0
    rw [← ev15] at q13_1
    have er15 : (o15, v15) = sp_rns [60] (o, v) := by rw [eo15, ev15]
    obtain ⟨of15, oz15⟩ := sp_rns_out [60] (o, v) e22
    rw [← eo15] at of15 oz15
    have e22 := oz15
    have e23 := (of15 23 (by decide)).trans e23
    have e24 := (of15 24 (by decide)).trans e24
    have e25 := (of15 25 (by decide)).trans e25
    refine mh_aload0 (pc := 14) F dX12_tells_14 ?_
    refine mh_iload1 (pc := 15) F dX12_tells_15 ?_
    refine mh_callV0 (pc := 16) (As := [.int (Int32.ofInt (x))]) (st := []) F (by omega) (k_plainTells (by omega) F13 q13_0 q13_1 e22 e23 e24 e25 hκ) wv_RX12_381_yX12_plainTells dX12_tells_16 sh_81 rfl (by decide) rfl rfl (Nat.le_of_ble_eq_true rfl) ⟨Nat.zero_le _, Nat.zero_le _⟩ (fun r16 h16 q16 => ?_)
    obtain ⟨rfl, F16, fr16, q16_0, q16_1⟩ := q16
    have fr17 : mh_fr [81, 91] h h16 := (mh_fr.tr fr14 fr16).mono (by simp)
    obtain ⟨o18, eo18⟩ : ∃ z : Int → Int, z = (sp_rns (tr_pt κ) (o15, v15)).1 := ⟨_, rfl⟩
    obtain ⟨v18, ev18⟩ : ∃ z : Int → Int, z = (sp_rns (tr_pt κ) (o15, v15)).2 := ⟨_, rfl⟩
    rw [← eo18] at q16_0
    rw [← ev18] at q16_1
    have er18 : (o18, v18) = sp_rns (tr_pt κ) (o15, v15) := by rw [eo18, ev18]
    obtain ⟨of18, oz18⟩ := sp_rns_out (tr_pt κ) (o15, v15) e22
    rw [← eo18] at of18 oz18
    have e22 := oz18
    have e23 := (of18 23 (by decide)).trans e23
    have e24 := (of18 24 (by decide)).trans e24
    have e25 := (of18 25 (by decide)).trans e25
    refine mh_istore2 (pc := 19) F dX12_tells_19 rfl (by decide) ?_
    refine mh_iload2 (pc := 20) F dX12_tells_20 ?_
    refine mh_aload0 (pc := 21) F dX12_tells_21 ?_
    refine mh_iconst (pc := 22) F dX12_tells_22 ?_
    refine mh_callV0 (pc := 23) (As := [.int (Int32.ofInt (2))]) (st := [.int (Int32.ofInt (sp_pt κ n mm x))]) F (by omega) (k_fills (by omega) F16 q16_0 q16_1 e22 e23 e24 e25 hκ) wv_RX12_357_yX12_fills dX12_tells_23 sh_81 rfl (by decide) rfl rfl (Nat.le_of_ble_eq_true rfl) ⟨Nat.zero_le _, Nat.zero_le _⟩ (fun r19 h19 q19 => ?_)
    obtain ⟨rfl, F19, fr19, q19_0, q19_1⟩ := q19
    have fr20 : mh_fr [81, 91] h h19 := (mh_fr.tr fr17 fr19).mono (by simp)
    obtain ⟨o21, eo21⟩ : ∃ z : Int → Int, z = (sp_rns (tr_fi κ) (o18, v18)).1 := ⟨_, rfl⟩
    obtain ⟨v21, ev21⟩ : ∃ z : Int → Int, z = (sp_rns (tr_fi κ) (o18, v18)).2 := ⟨_, rfl⟩
    rw [← eo21] at q19_0
    rw [← ev21] at q19_1
    have er21 : (o21, v21) = sp_rns (tr_fi κ) (o18, v18) := by rw [eo21, ev21]
    obtain ⟨of21, oz21⟩ := sp_rns_out (tr_fi κ) (o18, v18) e22
    rw [← eo21] at of21 oz21
    have e22 := oz21
    have e23 := (of21 23 (by decide)).trans e23
    have e24 := (of21 24 (by decide)).trans e24
    have e25 := (of21 25 (by decide)).trans e25
    refine mh_isub (pc := 26) F dX12_tells_26 ?_
    exact mh_ireturn F Z dX12_tells_27 ⟨(mh_sv (by unfold sp_te; first | (rw [if_pos (by omega)]; done) | (rw [if_neg (by omega), if_pos (by omega)]; done) | (rw [if_neg (by omega), if_neg (by omega)]; done))), F19, (fr20.mono (by simp)), (q19_0.trans (congrArg Prod.fst (show (o21, v21) = sp_rns (tr_te κ) (o, v) from by rw [er21, er18, er15]; unfold tr_te; first | (rw [if_pos (by omega)]; show _ = sp_rns (tr_pt κ ++ tr_fi κ) _; rw [sp_rns_app]; rfl) | (rw [if_neg (by omega), if_pos (by omega)]; show _ = sp_rns (tr_sh κ ++ tr_pt κ) _; rw [sp_rns_app]; rfl) | (rw [if_neg (by omega), if_neg (by omega)]; done)))), (q19_1.trans (congrArg Prod.snd (show (o21, v21) = sp_rns (tr_te κ) (o, v) from by rw [er21, er18, er15]; unfold tr_te; first | (rw [if_pos (by omega)]; show _ = sp_rns (tr_pt κ ++ tr_fi κ) _; rw [sp_rns_app]; rfl) | (rw [if_neg (by omega), if_pos (by omega)]; show _ = sp_rns (tr_sh κ ++ tr_pt κ) _; rw [sp_rns_app]; rfl) | (rw [if_neg (by omega), if_neg (by omega)]; done))))⟩

