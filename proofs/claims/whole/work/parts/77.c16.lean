/-! images -/
theorem mh_FX.cp {h : Nat → Int → Int} (H : mh_FX h) {a0 a1 : Nat} {sp dp n : Int} (hne : mh_fx.all (fun q => q.1 != a1) = true) : mh_FX (mh_cpH h a0 a1 sp dp n) := H.of (fun q hq => by
  have := List.all_eq_true.mp hne q hq
  rw [mh_cpH_row (by simpa using this)])
theorem mh_fr.cp {h h2 : Nat → Int → Int} {a0 a1 : Nat} {sp dp n : Int} (e : h2 = mh_cpH h a0 a1 sp dp n) : mh_fr [a1] h h2 := fun b hb => by rw [e]; exact mh_cpH_row (by simpa using hb)
theorem mh_cpR_at {u v : Int → Int} {sp dp n j : Int} (h : dp ≤ j ∧ j < dp + n) : mh_cpR u v sp dp n j = u (sp + (j - dp)) := if_pos h
theorem mh_cpR_no {u v : Int → Int} {sp dp n j : Int} (h : ¬ (dp ≤ j ∧ j < dp + n)) : mh_cpR u v sp dp n j = v j := if_neg h
set_option maxRecDepth 100000 in
set_option maxHeartbeats 4000000 in
theorem k16_tcopy_58 {g : mh_G} {d : Nat} (hd : 1 ≤ d) {h : Nat → Int → Int} (hF : mh_FX h)   : mh_M g d yX9_copy cX9_copy 2 none 96 0 0 [.ref 58, .ref 33] h (fun r h2 => r = none ∧ mh_FX h2 ∧ mh_fr [58, 59] h h2 ∧ h2 59 = mh_cpR (h 34) (h 59) 0 0 50 ∧ h2 58 = mh_ur (h 58) 3 (h 33 3)) := by
  refine mh_M_of RX9 rfl (by decide +kernel) [some (.ref 58), some (.ref 33)] rfl (Nat.le_of_ble_eq_true rfl) (fun f F Z hn0 hR => ?_)
  refine mh_aload1 (pc := 0) F dX9_copy_0 ?_
  refine mh_getr (b := 34) (pc := 1) F sh_33 (by decide) fw_RX9_9_9 dX9_copy_1 rfl (fx_33_2 hF) ?_
  refine mh_iconst (pc := 4) F dX9_copy_4 ?_
  refine mh_aload0 (pc := 5) F dX9_copy_5 ?_
  refine mh_getr (b := 59) (pc := 6) F sh_58 (by decide) fw_RX9_9_9 dX9_copy_6 rfl (fx_58_2 hF) ?_
  refine mh_iconst (pc := 9) F dX9_copy_9 ?_
  refine mh_bipush (pc := 10) F dX9_copy_10 rfl ?_
  refine mh_copy (pc := 12) F (by omega) sh_34 sh_59 (by decide) (by decide) (by decide) cw_RX9 cw_nat cw_stat cw_ini (by omega) (by omega) (by omega) (by omega) (by omega) (fun _ _ _ => rfl) dX9_copy_12 (Nat.le_of_ble_eq_true rfl) ?_
  refine mh_nmh (fun h1 e1 => ?_)
  have F1 : mh_FX h1 := by rw [e1]; exact hF.cp rfl
  have frc1 : mh_fr [59] h h1 := mh_fr.cp e1
  have fr2 : mh_fr [59] h h1 := (mh_fr.tr mh_fr.rf frc1).mono (by simp)
  refine mh_aload0 (pc := 15) F dX9_copy_15 ?_
  refine mh_aload1 (pc := 16) F dX9_copy_16 ?_
  refine mh_geti (pc := 17) F sh_33 (by decide) fw_RX9_49_9 dX9_copy_17 rfl ?_
  refine mh_puti (pc := 20) F sh_58 (by decide) pw_RX9_49_9 dX9_copy_20 ?_
  refine mh_nmh (fun h3 e3 => ?_)
  have F3 : mh_FX h3 := by rw [e3]; exact F1.upz rfl
  have fr3 : mh_fr [58, 59] h h3 := mh_fr.up fr2 e3
  exact mh_return F Z dX9_copy_23 ⟨rfl, F3, (fr3.mono (by simp)), (by rw [e3, mh_up_row (by decide), e1, mh_cpH_rs]), (by rw [e3, mh_up_rs, e1, mh_cpH_row (by decide), mh_cpH_row (by decide)])⟩

set_option maxRecDepth 100000 in
set_option maxHeartbeats 4000000 in
theorem k16_tcopy_63 {g : mh_G} {d : Nat} (hd : 1 ≤ d) {h : Nat → Int → Int} (hF : mh_FX h)   : mh_M g d yX9_copy cX9_copy 2 none 96 0 0 [.ref 63, .ref 38] h (fun r h2 => r = none ∧ mh_FX h2 ∧ mh_fr [63, 64] h h2 ∧ h2 64 = mh_cpR (h 39) (h 64) 0 0 50 ∧ h2 63 = mh_ur (h 63) 3 (h 38 3)) := by
  refine mh_M_of RX9 rfl (by decide +kernel) [some (.ref 63), some (.ref 38)] rfl (Nat.le_of_ble_eq_true rfl) (fun f F Z hn0 hR => ?_)
  refine mh_aload1 (pc := 0) F dX9_copy_0 ?_
  refine mh_getr (b := 39) (pc := 1) F sh_38 (by decide) fw_RX9_9_9 dX9_copy_1 rfl (fx_38_2 hF) ?_
  refine mh_iconst (pc := 4) F dX9_copy_4 ?_
  refine mh_aload0 (pc := 5) F dX9_copy_5 ?_
  refine mh_getr (b := 64) (pc := 6) F sh_63 (by decide) fw_RX9_9_9 dX9_copy_6 rfl (fx_63_2 hF) ?_
  refine mh_iconst (pc := 9) F dX9_copy_9 ?_
  refine mh_bipush (pc := 10) F dX9_copy_10 rfl ?_
  refine mh_copy (pc := 12) F (by omega) sh_39 sh_64 (by decide) (by decide) (by decide) cw_RX9 cw_nat cw_stat cw_ini (by omega) (by omega) (by omega) (by omega) (by omega) (fun _ _ _ => rfl) dX9_copy_12 (Nat.le_of_ble_eq_true rfl) ?_
  refine mh_nmh (fun h1 e1 => ?_)
  have F1 : mh_FX h1 := by rw [e1]; exact hF.cp rfl
  have frc1 : mh_fr [64] h h1 := mh_fr.cp e1
  have fr2 : mh_fr [64] h h1 := (mh_fr.tr mh_fr.rf frc1).mono (by simp)
  refine mh_aload0 (pc := 15) F dX9_copy_15 ?_
  refine mh_aload1 (pc := 16) F dX9_copy_16 ?_
  refine mh_geti (pc := 17) F sh_38 (by decide) fw_RX9_49_9 dX9_copy_17 rfl ?_
  refine mh_puti (pc := 20) F sh_63 (by decide) pw_RX9_49_9 dX9_copy_20 ?_
  refine mh_nmh (fun h3 e3 => ?_)
  have F3 : mh_FX h3 := by rw [e3]; exact F1.upz rfl
  have fr3 : mh_fr [63, 64] h h3 := mh_fr.up fr2 e3
  exact mh_return F Z dX9_copy_23 ⟨rfl, F3, (fr3.mono (by simp)), (by rw [e3, mh_up_row (by decide), e1, mh_cpH_rs]), (by rw [e3, mh_up_rs, e1, mh_cpH_row (by decide), mh_cpH_row (by decide)])⟩

set_option maxRecDepth 100000 in
set_option maxHeartbeats 4000000 in
theorem k16_tcopy_33 {g : mh_G} {d : Nat} (hd : 1 ≤ d) {h : Nat → Int → Int} (hF : mh_FX h)   : mh_M g d yX9_copy cX9_copy 2 none 96 0 0 [.ref 33, .ref 58] h (fun r h2 => r = none ∧ mh_FX h2 ∧ mh_fr [33, 34] h h2 ∧ h2 34 = mh_cpR (h 59) (h 34) 0 0 50 ∧ h2 33 = mh_ur (h 33) 3 (h 58 3)) := by
  refine mh_M_of RX9 rfl (by decide +kernel) [some (.ref 33), some (.ref 58)] rfl (Nat.le_of_ble_eq_true rfl) (fun f F Z hn0 hR => ?_)
  refine mh_aload1 (pc := 0) F dX9_copy_0 ?_
  refine mh_getr (b := 59) (pc := 1) F sh_58 (by decide) fw_RX9_9_9 dX9_copy_1 rfl (fx_58_2 hF) ?_
  refine mh_iconst (pc := 4) F dX9_copy_4 ?_
  refine mh_aload0 (pc := 5) F dX9_copy_5 ?_
  refine mh_getr (b := 34) (pc := 6) F sh_33 (by decide) fw_RX9_9_9 dX9_copy_6 rfl (fx_33_2 hF) ?_
  refine mh_iconst (pc := 9) F dX9_copy_9 ?_
  refine mh_bipush (pc := 10) F dX9_copy_10 rfl ?_
  refine mh_copy (pc := 12) F (by omega) sh_59 sh_34 (by decide) (by decide) (by decide) cw_RX9 cw_nat cw_stat cw_ini (by omega) (by omega) (by omega) (by omega) (by omega) (fun _ _ _ => rfl) dX9_copy_12 (Nat.le_of_ble_eq_true rfl) ?_
  refine mh_nmh (fun h1 e1 => ?_)
  have F1 : mh_FX h1 := by rw [e1]; exact hF.cp rfl
  have frc1 : mh_fr [34] h h1 := mh_fr.cp e1
  have fr2 : mh_fr [34] h h1 := (mh_fr.tr mh_fr.rf frc1).mono (by simp)
  refine mh_aload0 (pc := 15) F dX9_copy_15 ?_
  refine mh_aload1 (pc := 16) F dX9_copy_16 ?_
  refine mh_geti (pc := 17) F sh_58 (by decide) fw_RX9_49_9 dX9_copy_17 rfl ?_
  refine mh_puti (pc := 20) F sh_33 (by decide) pw_RX9_49_9 dX9_copy_20 ?_
  refine mh_nmh (fun h3 e3 => ?_)
  have F3 : mh_FX h3 := by rw [e3]; exact F1.upz rfl
  have fr3 : mh_fr [33, 34] h h3 := mh_fr.up fr2 e3
  exact mh_return F Z dX9_copy_23 ⟨rfl, F3, (fr3.mono (by simp)), (by rw [e3, mh_up_row (by decide), e1, mh_cpH_rs]), (by rw [e3, mh_up_rs, e1, mh_cpH_row (by decide), mh_cpH_row (by decide)])⟩

set_option maxRecDepth 100000 in
set_option maxHeartbeats 4000000 in
theorem k16_tcopy_38 {g : mh_G} {d : Nat} (hd : 1 ≤ d) {h : Nat → Int → Int} (hF : mh_FX h)   : mh_M g d yX9_copy cX9_copy 2 none 96 0 0 [.ref 38, .ref 63] h (fun r h2 => r = none ∧ mh_FX h2 ∧ mh_fr [38, 39] h h2 ∧ h2 39 = mh_cpR (h 64) (h 39) 0 0 50 ∧ h2 38 = mh_ur (h 38) 3 (h 63 3)) := by
  refine mh_M_of RX9 rfl (by decide +kernel) [some (.ref 38), some (.ref 63)] rfl (Nat.le_of_ble_eq_true rfl) (fun f F Z hn0 hR => ?_)
  refine mh_aload1 (pc := 0) F dX9_copy_0 ?_
  refine mh_getr (b := 64) (pc := 1) F sh_63 (by decide) fw_RX9_9_9 dX9_copy_1 rfl (fx_63_2 hF) ?_
  refine mh_iconst (pc := 4) F dX9_copy_4 ?_
  refine mh_aload0 (pc := 5) F dX9_copy_5 ?_
  refine mh_getr (b := 39) (pc := 6) F sh_38 (by decide) fw_RX9_9_9 dX9_copy_6 rfl (fx_38_2 hF) ?_
  refine mh_iconst (pc := 9) F dX9_copy_9 ?_
  refine mh_bipush (pc := 10) F dX9_copy_10 rfl ?_
  refine mh_copy (pc := 12) F (by omega) sh_64 sh_39 (by decide) (by decide) (by decide) cw_RX9 cw_nat cw_stat cw_ini (by omega) (by omega) (by omega) (by omega) (by omega) (fun _ _ _ => rfl) dX9_copy_12 (Nat.le_of_ble_eq_true rfl) ?_
  refine mh_nmh (fun h1 e1 => ?_)
  have F1 : mh_FX h1 := by rw [e1]; exact hF.cp rfl
  have frc1 : mh_fr [39] h h1 := mh_fr.cp e1
  have fr2 : mh_fr [39] h h1 := (mh_fr.tr mh_fr.rf frc1).mono (by simp)
  refine mh_aload0 (pc := 15) F dX9_copy_15 ?_
  refine mh_aload1 (pc := 16) F dX9_copy_16 ?_
  refine mh_geti (pc := 17) F sh_63 (by decide) fw_RX9_49_9 dX9_copy_17 rfl ?_
  refine mh_puti (pc := 20) F sh_38 (by decide) pw_RX9_49_9 dX9_copy_20 ?_
  refine mh_nmh (fun h3 e3 => ?_)
  have F3 : mh_FX h3 := by rw [e3]; exact F1.upz rfl
  have fr3 : mh_fr [38, 39] h h3 := mh_fr.up fr2 e3
  exact mh_return F Z dX9_copy_23 ⟨rfl, F3, (fr3.mono (by simp)), (by rw [e3, mh_up_row (by decide), e1, mh_cpH_rs]), (by rw [e3, mh_up_rs, e1, mh_cpH_row (by decide), mh_cpH_row (by decide)])⟩

theorem mh_fitb {x : Int} (h : -128 ≤ x ∧ x ≤ 127) : fits (mh_ty 2) (.int (Int32.ofInt x)) = true := by
  have q : ∀ y : Fin 256, fits (mh_ty 2) (.int (Int32.ofInt ((y.val : Int) - 128))) = true := by decide +kernel
  have e := q ⟨(x + 128).toNat, by omega⟩
  rw [show (((⟨(x + 128).toNat, by omega⟩ : Fin 256).val : Int) - 128) = x by show (((x + 128).toNat : Nat) : Int) - 128 = x; omega] at e
  exact e
set_option maxRecDepth 100000 in
set_option maxHeartbeats 4000000 in
theorem k16_world_50 {g : mh_G} {d : Nat} (hd : 6 ≤ d) {h : Nat → Int → Int} (hF : mh_FX h)  (hco : ∀ j : Int, 0 ≤ j → j < 6 → sc_ok (h (44 + j.toNat))) (hby : ∀ i, 0 ≤ i → i < 50 → -128 ≤ h 32 i ∧ h 32 i ≤ 127) : mh_M g d yX10_copy cX10_copy 3 none 96 0 0 [.ref 50, .ref 25] h (fun r h2 => r = none ∧ mh_FX h2 ∧ mh_fr [51, 52, 53, 54, 55, 69, 70, 71, 72, 73, 74, 50, 57, 58, 59, 63, 64, 68] h h2 ∧ h2 51 = mh_cpR (h 26) (h 51) 0 0 9 ∧ h2 52 = mh_cpR (h 27) (h 52) 0 0 9 ∧ h2 53 = mh_cpR (h 28) (h 53) 0 0 9 ∧ h2 54 = mh_cpR (h 29) (h 54) 0 0 4 ∧ h2 55 = mh_cpR (h 30) (h 55) 0 0 4 ∧ h2 69 = sc_cp (h 69) (h 44) ∧ h2 70 = sc_cp (h 70) (h 45) ∧ h2 71 = sc_cp (h 71) (h 46) ∧ h2 72 = sc_cp (h 72) (h 47) ∧ h2 73 = sc_cp (h 73) (h 48) ∧ h2 74 = sc_cp (h 74) (h 49) ∧ h2 50 = mh_ur (mh_ur (mh_ur (mh_ur (mh_ur (mh_ur (h 50) 6 (h 25 6)) 7 (h 25 7)) 8 (h 25 8)) 10 (h 25 10)) 14 (h 25 14)) 15 (h 25 15) ∧ h2 57 = mh_cpR (h 32) (h 57) 0 0 50 ∧ h2 58 = mh_ur (h 58) 3 (h 33 3) ∧ h2 59 = mh_cpR (h 34) (h 59) 0 0 50 ∧ h2 63 = mh_ur (h 63) 3 (h 38 3) ∧ h2 64 = mh_cpR (h 39) (h 64) 0 0 50 ∧ h2 68 = mh_cpR (h 43) (h 68) 0 0 20) := by
  refine mh_M_of RX10 rfl (by decide +kernel) [some (.ref 50), some (.ref 25), none] rfl (Nat.le_of_ble_eq_true rfl) (fun f F Z hn0 hR => ?_)
  refine mh_aload1 (pc := 0) F dX10_copy_0 ?_
  refine mh_getr (b := 26) (pc := 1) F sh_25 (by decide) fw_RX10_9_10 dX10_copy_1 rfl (fx_25_0 hF) ?_
  refine mh_iconst (pc := 4) F dX10_copy_4 ?_
  refine mh_aload0 (pc := 5) F dX10_copy_5 ?_
  refine mh_getr (b := 51) (pc := 6) F sh_50 (by decide) fw_RX10_9_10 dX10_copy_6 rfl (fx_50_0 hF) ?_
  refine mh_iconst (pc := 9) F dX10_copy_9 ?_
  refine mh_bipush (pc := 10) F dX10_copy_10 rfl ?_
  have frz : mh_fr [] h h := mh_fr.rf
  refine mh_copy (pc := 12) F (by omega) sh_26 sh_51 (by decide) (by decide) (by decide) cw_RX10 cw_nat cw_stat cw_ini (by omega) (by omega) (by omega) (by omega) (by omega) (fun _ _ _ => rfl) dX10_copy_12 (Nat.le_of_ble_eq_true rfl) ?_
  refine mh_nmh (fun h1 e1 => ?_)
  have F1 : mh_FX h1 := by rw [e1]; exact hF.cp rfl
  have frc1 : mh_fr [51] h h1 := mh_fr.cp e1
  have r50_2 : h1 50 = h 50 := (frc1 _ (by decide)).trans rfl
  have fr2 : mh_fr [51] h h1 := (mh_fr.tr mh_fr.rf frc1).mono (by simp)
  have r51_x : h1 51 = mh_cpR (h 26) (h 51) 0 0 9 := by rw [e1, mh_cpH_rs, frz 26 (by simp), frz 51 (by simp)]
  refine mh_aload1 (pc := 15) F dX10_copy_15 ?_
  refine mh_getr (b := 27) (pc := 16) F sh_25 (by decide) fw_RX10_15_10 dX10_copy_16 rfl (fx_25_1 F1) ?_
  refine mh_iconst (pc := 19) F dX10_copy_19 ?_
  refine mh_aload0 (pc := 20) F dX10_copy_20 ?_
  refine mh_getr (b := 52) (pc := 21) F sh_50 (by decide) fw_RX10_15_10 dX10_copy_21 rfl (fx_50_1 F1) ?_
  refine mh_iconst (pc := 24) F dX10_copy_24 ?_
  refine mh_bipush (pc := 25) F dX10_copy_25 rfl ?_
  refine mh_copy (pc := 27) F (by omega) sh_27 sh_52 (by decide) (by decide) (by decide) cw_RX10 cw_nat cw_stat cw_ini (by omega) (by omega) (by omega) (by omega) (by omega) (fun _ _ _ => rfl) dX10_copy_27 (Nat.le_of_ble_eq_true rfl) ?_
  refine mh_nmh (fun h3 e3 => ?_)
  have F3 : mh_FX h3 := by rw [e3]; exact F1.cp rfl
  have frc3 : mh_fr [52] h1 h3 := mh_fr.cp e3
  have r50_4 : h3 50 = h 50 := (frc3 _ (by decide)).trans r50_2
  have r51_4 : h3 51 = mh_cpR (h 26) (h 51) 0 0 9 := (frc3 _ (by decide)).trans r51_x
  have fr4 : mh_fr [52, 51] h h3 := (mh_fr.tr fr2 frc3).mono (by simp)
  have r52_x : h3 52 = mh_cpR (h 27) (h 52) 0 0 9 := by rw [e3, mh_cpH_rs, fr2 27 (by simp), fr2 52 (by simp)]
  refine mh_aload1 (pc := 30) F dX10_copy_30 ?_
  refine mh_getr (b := 28) (pc := 31) F sh_25 (by decide) fw_RX10_18_10 dX10_copy_31 rfl (fx_25_2 F3) ?_
  refine mh_iconst (pc := 34) F dX10_copy_34 ?_
  refine mh_aload0 (pc := 35) F dX10_copy_35 ?_
  refine mh_getr (b := 53) (pc := 36) F sh_50 (by decide) fw_RX10_18_10 dX10_copy_36 rfl (fx_50_2 F3) ?_
  refine mh_iconst (pc := 39) F dX10_copy_39 ?_
  refine mh_bipush (pc := 40) F dX10_copy_40 rfl ?_
  refine mh_copy (pc := 42) F (by omega) sh_28 sh_53 (by decide) (by decide) (by decide) cw_RX10 cw_nat cw_stat cw_ini (by omega) (by omega) (by omega) (by omega) (by omega) (fun _ _ _ => rfl) dX10_copy_42 (Nat.le_of_ble_eq_true rfl) ?_
  refine mh_nmh (fun h5 e5 => ?_)
  have F5 : mh_FX h5 := by rw [e5]; exact F3.cp rfl
  have frc5 : mh_fr [53] h3 h5 := mh_fr.cp e5
  have r50_6 : h5 50 = h 50 := (frc5 _ (by decide)).trans r50_4
  have r51_6 : h5 51 = mh_cpR (h 26) (h 51) 0 0 9 := (frc5 _ (by decide)).trans r51_4
  have r52_6 : h5 52 = mh_cpR (h 27) (h 52) 0 0 9 := (frc5 _ (by decide)).trans r52_x
  have fr6 : mh_fr [53, 52, 51] h h5 := (mh_fr.tr fr4 frc5).mono (by simp)
  have r53_x : h5 53 = mh_cpR (h 28) (h 53) 0 0 9 := by rw [e5, mh_cpH_rs, fr4 28 (by simp), fr4 53 (by simp)]
  refine mh_aload1 (pc := 45) F dX10_copy_45 ?_
  refine mh_getr (b := 29) (pc := 46) F sh_25 (by decide) fw_RX10_21_10 dX10_copy_46 rfl (fx_25_3 F5) ?_
  refine mh_iconst (pc := 49) F dX10_copy_49 ?_
  refine mh_aload0 (pc := 50) F dX10_copy_50 ?_
  refine mh_getr (b := 54) (pc := 51) F sh_50 (by decide) fw_RX10_21_10 dX10_copy_51 rfl (fx_50_3 F5) ?_
  refine mh_iconst (pc := 54) F dX10_copy_54 ?_
  refine mh_iconst (pc := 55) F dX10_copy_55 ?_
  refine mh_copy (pc := 56) F (by omega) sh_29 sh_54 (by decide) (by decide) (by decide) cw_RX10 cw_nat cw_stat cw_ini (by omega) (by omega) (by omega) (by omega) (by omega) (fun _ _ _ => rfl) dX10_copy_56 (Nat.le_of_ble_eq_true rfl) ?_
  refine mh_nmh (fun h7 e7 => ?_)
  have F7 : mh_FX h7 := by rw [e7]; exact F5.cp rfl
  have frc7 : mh_fr [54] h5 h7 := mh_fr.cp e7
  have r50_8 : h7 50 = h 50 := (frc7 _ (by decide)).trans r50_6
  have r51_8 : h7 51 = mh_cpR (h 26) (h 51) 0 0 9 := (frc7 _ (by decide)).trans r51_6
  have r52_8 : h7 52 = mh_cpR (h 27) (h 52) 0 0 9 := (frc7 _ (by decide)).trans r52_6
  have r53_8 : h7 53 = mh_cpR (h 28) (h 53) 0 0 9 := (frc7 _ (by decide)).trans r53_x
  have fr8 : mh_fr [54, 53, 52, 51] h h7 := (mh_fr.tr fr6 frc7).mono (by simp)
  have r54_x : h7 54 = mh_cpR (h 29) (h 54) 0 0 4 := by rw [e7, mh_cpH_rs, fr6 29 (by simp), fr6 54 (by simp)]
  refine mh_aload1 (pc := 59) F dX10_copy_59 ?_
  refine mh_getr (b := 30) (pc := 60) F sh_25 (by decide) fw_RX10_24_10 dX10_copy_60 rfl (fx_25_4 F7) ?_
  refine mh_iconst (pc := 63) F dX10_copy_63 ?_
  refine mh_aload0 (pc := 64) F dX10_copy_64 ?_
  refine mh_getr (b := 55) (pc := 65) F sh_50 (by decide) fw_RX10_24_10 dX10_copy_65 rfl (fx_50_4 F7) ?_
  refine mh_iconst (pc := 68) F dX10_copy_68 ?_
  refine mh_iconst (pc := 69) F dX10_copy_69 ?_
  refine mh_copy (pc := 70) F (by omega) sh_30 sh_55 (by decide) (by decide) (by decide) cw_RX10 cw_nat cw_stat cw_ini (by omega) (by omega) (by omega) (by omega) (by omega) (fun _ _ _ => rfl) dX10_copy_70 (Nat.le_of_ble_eq_true rfl) ?_
  refine mh_nmh (fun h9 e9 => ?_)
  have F9 : mh_FX h9 := by rw [e9]; exact F7.cp rfl
  have frc9 : mh_fr [55] h7 h9 := mh_fr.cp e9
  have r50_10 : h9 50 = h 50 := (frc9 _ (by decide)).trans r50_8
  have r51_10 : h9 51 = mh_cpR (h 26) (h 51) 0 0 9 := (frc9 _ (by decide)).trans r51_8
  have r52_10 : h9 52 = mh_cpR (h 27) (h 52) 0 0 9 := (frc9 _ (by decide)).trans r52_8
  have r53_10 : h9 53 = mh_cpR (h 28) (h 53) 0 0 9 := (frc9 _ (by decide)).trans r53_8
  have r54_10 : h9 54 = mh_cpR (h 29) (h 54) 0 0 4 := (frc9 _ (by decide)).trans r54_x
  have fr10 : mh_fr [55, 54, 53, 52, 51] h h9 := (mh_fr.tr fr8 frc9).mono (by simp)
  have r55_x : h9 55 = mh_cpR (h 30) (h 55) 0 0 4 := by rw [e9, mh_cpH_rs, fr8 30 (by simp), fr8 55 (by simp)]
  refine mh_iconst (pc := 73) F dX10_copy_73 ?_
  refine mh_istore2 (pc := 74) F dX10_copy_74 rfl (by decide) ?_
  refine mh_iload2 (pc := 75) F dX10_copy_75 ?_
  refine mh_bipush (pc := 76) F dX10_copy_76 rfl ?_
  refine mh_icmp_ge (pc := 78) (tgt := 102) F dX10_copy_78 rfl (by omega) (by omega) (fun c_78 => ?_) (fun c_78 => ?_)
  · exact absurd c_78 (by decide)
  · refine mh_aload0 (pc := 81) F dX10_copy_81 ?_
    refine mh_getr (b := 56) (pc := 82) F sh_50 (by decide) fw_RX10_29_10 dX10_copy_82 rfl (fx_50_5 F9) ?_
    refine mh_iload2 (pc := 85) F dX10_copy_85 ?_
    refine mh_aaload (b := 69) (pc := 86) F sh_56 (by decide) (by decide) (by omega) dX10_copy_86 (fx_56_0 F9) ?_
    refine mh_aload1 (pc := 87) F dX10_copy_87 ?_
    refine mh_getr (b := 31) (pc := 88) F sh_25 (by decide) fw_RX10_29_10 dX10_copy_88 rfl (fx_25_5 F9) ?_
    refine mh_iload2 (pc := 91) F dX10_copy_91 ?_
    refine mh_aaload (b := 44) (pc := 92) F sh_31 (by decide) (by decide) (by omega) dX10_copy_92 (fx_31_0 F9) ?_
    refine mh_callV0 (pc := 93) (As := [.ref 44]) (st := []) F (by omega) (k0_copy (by omega) F9 rfl rfl (show sc_A 69 by unfold sc_A; omega) (show sc_A 44 by unfold sc_A; omega) (by decide) (by rw [fr10 44 (by simp)]; exact hco 0 (by decide) (by decide))) wv_RX10_79_yX0_copy dX10_copy_93 sh_69 rfl (by decide) rfl rfl (Nat.le_of_ble_eq_true rfl) ⟨Nat.zero_le _, Nat.zero_le _⟩ (fun r11 h11 q11 => ?_)
    obtain ⟨rfl, F11, frc69, qC69⟩ := q11
    rw [fr10 69 (by simp), fr10 44 (by simp)] at qC69
    have r50_12 : h11 50 = h 50 := (frc69 _ (by decide)).trans r50_10
    have r51_12 : h11 51 = mh_cpR (h 26) (h 51) 0 0 9 := (frc69 _ (by decide)).trans r51_10
    have r52_12 : h11 52 = mh_cpR (h 27) (h 52) 0 0 9 := (frc69 _ (by decide)).trans r52_10
    have r53_12 : h11 53 = mh_cpR (h 28) (h 53) 0 0 9 := (frc69 _ (by decide)).trans r53_10
    have r54_12 : h11 54 = mh_cpR (h 29) (h 54) 0 0 4 := (frc69 _ (by decide)).trans r54_10
    have r55_12 : h11 55 = mh_cpR (h 30) (h 55) 0 0 4 := (frc69 _ (by decide)).trans r55_x
    have fr12 : mh_fr [69, 55, 54, 53, 52, 51] h h11 := (mh_fr.tr fr10 frc69).mono (by simp)
    refine mh_iinc2 (pc := 96) F dX10_copy_96 rfl (by decide) ?_
    refine mh_goto (pc := 99) (tgt := 75) F dX10_copy_99 rfl ?_
    refine mh_iload2 (pc := 75) F dX10_copy_75 ?_
    refine mh_bipush (pc := 76) F dX10_copy_76 rfl ?_
    refine mh_icmp_ge (pc := 78) (tgt := 102) F dX10_copy_78 rfl (by omega) (by omega) (fun c_78 => ?_) (fun c_78 => ?_)
    · exact absurd c_78 (by decide)
    · refine mh_aload0 (pc := 81) F dX10_copy_81 ?_
      refine mh_getr (b := 56) (pc := 82) F sh_50 (by decide) fw_RX10_29_10 dX10_copy_82 rfl (fx_50_5 F11) ?_
      refine mh_iload2 (pc := 85) F dX10_copy_85 ?_
      refine mh_aaload (b := 70) (pc := 86) F sh_56 (by decide) (by decide) (by omega) dX10_copy_86 (fx_56_1 F11) ?_
      refine mh_aload1 (pc := 87) F dX10_copy_87 ?_
      refine mh_getr (b := 31) (pc := 88) F sh_25 (by decide) fw_RX10_29_10 dX10_copy_88 rfl (fx_25_5 F11) ?_
      refine mh_iload2 (pc := 91) F dX10_copy_91 ?_
      refine mh_aaload (b := 45) (pc := 92) F sh_31 (by decide) (by decide) (by omega) dX10_copy_92 (fx_31_1 F11) ?_
      refine mh_callV0 (pc := 93) (As := [.ref 45]) (st := []) F (by omega) (k0_copy (by omega) F11 rfl rfl (show sc_A 70 by unfold sc_A; omega) (show sc_A 45 by unfold sc_A; omega) (by decide) (by rw [fr12 45 (by simp)]; exact hco 1 (by decide) (by decide))) wv_RX10_79_yX0_copy dX10_copy_93 sh_70 rfl (by decide) rfl rfl (Nat.le_of_ble_eq_true rfl) ⟨Nat.zero_le _, Nat.zero_le _⟩ (fun r13 h13 q13 => ?_)
      obtain ⟨rfl, F13, frc70, qC70⟩ := q13
      rw [fr12 70 (by simp), fr12 45 (by simp)] at qC70
      have r50_14 : h13 50 = h 50 := (frc70 _ (by decide)).trans r50_12
      have r51_14 : h13 51 = mh_cpR (h 26) (h 51) 0 0 9 := (frc70 _ (by decide)).trans r51_12
      have r52_14 : h13 52 = mh_cpR (h 27) (h 52) 0 0 9 := (frc70 _ (by decide)).trans r52_12
      have r53_14 : h13 53 = mh_cpR (h 28) (h 53) 0 0 9 := (frc70 _ (by decide)).trans r53_12
      have r54_14 : h13 54 = mh_cpR (h 29) (h 54) 0 0 4 := (frc70 _ (by decide)).trans r54_12
      have r55_14 : h13 55 = mh_cpR (h 30) (h 55) 0 0 4 := (frc70 _ (by decide)).trans r55_12
      have r69_14 : h13 69 = sc_cp (h 69) (h 44) := (frc70 _ (by decide)).trans qC69
      have fr14 : mh_fr [70, 69, 55, 54, 53, 52, 51] h h13 := (mh_fr.tr fr12 frc70).mono (by simp)
      refine mh_iinc2 (pc := 96) F dX10_copy_96 rfl (by decide) ?_
      refine mh_goto (pc := 99) (tgt := 75) F dX10_copy_99 rfl ?_
      refine mh_iload2 (pc := 75) F dX10_copy_75 ?_
      refine mh_bipush (pc := 76) F dX10_copy_76 rfl ?_
      refine mh_icmp_ge (pc := 78) (tgt := 102) F dX10_copy_78 rfl (by omega) (by omega) (fun c_78 => ?_) (fun c_78 => ?_)
      · exact absurd c_78 (by decide)
      · refine mh_aload0 (pc := 81) F dX10_copy_81 ?_
        refine mh_getr (b := 56) (pc := 82) F sh_50 (by decide) fw_RX10_29_10 dX10_copy_82 rfl (fx_50_5 F13) ?_
        refine mh_iload2 (pc := 85) F dX10_copy_85 ?_
        refine mh_aaload (b := 71) (pc := 86) F sh_56 (by decide) (by decide) (by omega) dX10_copy_86 (fx_56_2 F13) ?_
        refine mh_aload1 (pc := 87) F dX10_copy_87 ?_
        refine mh_getr (b := 31) (pc := 88) F sh_25 (by decide) fw_RX10_29_10 dX10_copy_88 rfl (fx_25_5 F13) ?_
        refine mh_iload2 (pc := 91) F dX10_copy_91 ?_
        refine mh_aaload (b := 46) (pc := 92) F sh_31 (by decide) (by decide) (by omega) dX10_copy_92 (fx_31_2 F13) ?_
        refine mh_callV0 (pc := 93) (As := [.ref 46]) (st := []) F (by omega) (k0_copy (by omega) F13 rfl rfl (show sc_A 71 by unfold sc_A; omega) (show sc_A 46 by unfold sc_A; omega) (by decide) (by rw [fr14 46 (by simp)]; exact hco 2 (by decide) (by decide))) wv_RX10_79_yX0_copy dX10_copy_93 sh_71 rfl (by decide) rfl rfl (Nat.le_of_ble_eq_true rfl) ⟨Nat.zero_le _, Nat.zero_le _⟩ (fun r15 h15 q15 => ?_)
        obtain ⟨rfl, F15, frc71, qC71⟩ := q15
        rw [fr14 71 (by simp), fr14 46 (by simp)] at qC71
        have r50_16 : h15 50 = h 50 := (frc71 _ (by decide)).trans r50_14
        have r51_16 : h15 51 = mh_cpR (h 26) (h 51) 0 0 9 := (frc71 _ (by decide)).trans r51_14
        have r52_16 : h15 52 = mh_cpR (h 27) (h 52) 0 0 9 := (frc71 _ (by decide)).trans r52_14
        have r53_16 : h15 53 = mh_cpR (h 28) (h 53) 0 0 9 := (frc71 _ (by decide)).trans r53_14
        have r54_16 : h15 54 = mh_cpR (h 29) (h 54) 0 0 4 := (frc71 _ (by decide)).trans r54_14
        have r55_16 : h15 55 = mh_cpR (h 30) (h 55) 0 0 4 := (frc71 _ (by decide)).trans r55_14
        have r69_16 : h15 69 = sc_cp (h 69) (h 44) := (frc71 _ (by decide)).trans r69_14
        have r70_16 : h15 70 = sc_cp (h 70) (h 45) := (frc71 _ (by decide)).trans qC70
        have fr16 : mh_fr [71, 70, 69, 55, 54, 53, 52, 51] h h15 := (mh_fr.tr fr14 frc71).mono (by simp)
        refine mh_iinc2 (pc := 96) F dX10_copy_96 rfl (by decide) ?_
        refine mh_goto (pc := 99) (tgt := 75) F dX10_copy_99 rfl ?_
        refine mh_iload2 (pc := 75) F dX10_copy_75 ?_
        refine mh_bipush (pc := 76) F dX10_copy_76 rfl ?_
        refine mh_icmp_ge (pc := 78) (tgt := 102) F dX10_copy_78 rfl (by omega) (by omega) (fun c_78 => ?_) (fun c_78 => ?_)
        · exact absurd c_78 (by decide)
        · refine mh_aload0 (pc := 81) F dX10_copy_81 ?_
          refine mh_getr (b := 56) (pc := 82) F sh_50 (by decide) fw_RX10_29_10 dX10_copy_82 rfl (fx_50_5 F15) ?_
          refine mh_iload2 (pc := 85) F dX10_copy_85 ?_
          refine mh_aaload (b := 72) (pc := 86) F sh_56 (by decide) (by decide) (by omega) dX10_copy_86 (fx_56_3 F15) ?_
          refine mh_aload1 (pc := 87) F dX10_copy_87 ?_
          refine mh_getr (b := 31) (pc := 88) F sh_25 (by decide) fw_RX10_29_10 dX10_copy_88 rfl (fx_25_5 F15) ?_
          refine mh_iload2 (pc := 91) F dX10_copy_91 ?_
          refine mh_aaload (b := 47) (pc := 92) F sh_31 (by decide) (by decide) (by omega) dX10_copy_92 (fx_31_3 F15) ?_
          refine mh_callV0 (pc := 93) (As := [.ref 47]) (st := []) F (by omega) (k0_copy (by omega) F15 rfl rfl (show sc_A 72 by unfold sc_A; omega) (show sc_A 47 by unfold sc_A; omega) (by decide) (by rw [fr16 47 (by simp)]; exact hco 3 (by decide) (by decide))) wv_RX10_79_yX0_copy dX10_copy_93 sh_72 rfl (by decide) rfl rfl (Nat.le_of_ble_eq_true rfl) ⟨Nat.zero_le _, Nat.zero_le _⟩ (fun r17 h17 q17 => ?_)
          obtain ⟨rfl, F17, frc72, qC72⟩ := q17
          rw [fr16 72 (by simp), fr16 47 (by simp)] at qC72
          have r50_18 : h17 50 = h 50 := (frc72 _ (by decide)).trans r50_16
          have r51_18 : h17 51 = mh_cpR (h 26) (h 51) 0 0 9 := (frc72 _ (by decide)).trans r51_16
          have r52_18 : h17 52 = mh_cpR (h 27) (h 52) 0 0 9 := (frc72 _ (by decide)).trans r52_16
          have r53_18 : h17 53 = mh_cpR (h 28) (h 53) 0 0 9 := (frc72 _ (by decide)).trans r53_16
          have r54_18 : h17 54 = mh_cpR (h 29) (h 54) 0 0 4 := (frc72 _ (by decide)).trans r54_16
          have r55_18 : h17 55 = mh_cpR (h 30) (h 55) 0 0 4 := (frc72 _ (by decide)).trans r55_16
          have r69_18 : h17 69 = sc_cp (h 69) (h 44) := (frc72 _ (by decide)).trans r69_16
          have r70_18 : h17 70 = sc_cp (h 70) (h 45) := (frc72 _ (by decide)).trans r70_16
          have r71_18 : h17 71 = sc_cp (h 71) (h 46) := (frc72 _ (by decide)).trans qC71
          have fr18 : mh_fr [72, 71, 70, 69, 55, 54, 53, 52, 51] h h17 := (mh_fr.tr fr16 frc72).mono (by simp)
          refine mh_iinc2 (pc := 96) F dX10_copy_96 rfl (by decide) ?_
          refine mh_goto (pc := 99) (tgt := 75) F dX10_copy_99 rfl ?_
          refine mh_iload2 (pc := 75) F dX10_copy_75 ?_
          refine mh_bipush (pc := 76) F dX10_copy_76 rfl ?_
          refine mh_icmp_ge (pc := 78) (tgt := 102) F dX10_copy_78 rfl (by omega) (by omega) (fun c_78 => ?_) (fun c_78 => ?_)
          · exact absurd c_78 (by decide)
          · refine mh_aload0 (pc := 81) F dX10_copy_81 ?_
            refine mh_getr (b := 56) (pc := 82) F sh_50 (by decide) fw_RX10_29_10 dX10_copy_82 rfl (fx_50_5 F17) ?_
            refine mh_iload2 (pc := 85) F dX10_copy_85 ?_
            refine mh_aaload (b := 73) (pc := 86) F sh_56 (by decide) (by decide) (by omega) dX10_copy_86 (fx_56_4 F17) ?_
            refine mh_aload1 (pc := 87) F dX10_copy_87 ?_
            refine mh_getr (b := 31) (pc := 88) F sh_25 (by decide) fw_RX10_29_10 dX10_copy_88 rfl (fx_25_5 F17) ?_
            refine mh_iload2 (pc := 91) F dX10_copy_91 ?_
            refine mh_aaload (b := 48) (pc := 92) F sh_31 (by decide) (by decide) (by omega) dX10_copy_92 (fx_31_4 F17) ?_
            refine mh_callV0 (pc := 93) (As := [.ref 48]) (st := []) F (by omega) (k0_copy (by omega) F17 rfl rfl (show sc_A 73 by unfold sc_A; omega) (show sc_A 48 by unfold sc_A; omega) (by decide) (by rw [fr18 48 (by simp)]; exact hco 4 (by decide) (by decide))) wv_RX10_79_yX0_copy dX10_copy_93 sh_73 rfl (by decide) rfl rfl (Nat.le_of_ble_eq_true rfl) ⟨Nat.zero_le _, Nat.zero_le _⟩ (fun r19 h19 q19 => ?_)
            obtain ⟨rfl, F19, frc73, qC73⟩ := q19
            rw [fr18 73 (by simp), fr18 48 (by simp)] at qC73
            have r50_20 : h19 50 = h 50 := (frc73 _ (by decide)).trans r50_18
            have r51_20 : h19 51 = mh_cpR (h 26) (h 51) 0 0 9 := (frc73 _ (by decide)).trans r51_18
            have r52_20 : h19 52 = mh_cpR (h 27) (h 52) 0 0 9 := (frc73 _ (by decide)).trans r52_18
            have r53_20 : h19 53 = mh_cpR (h 28) (h 53) 0 0 9 := (frc73 _ (by decide)).trans r53_18
            have r54_20 : h19 54 = mh_cpR (h 29) (h 54) 0 0 4 := (frc73 _ (by decide)).trans r54_18
            have r55_20 : h19 55 = mh_cpR (h 30) (h 55) 0 0 4 := (frc73 _ (by decide)).trans r55_18
            have r69_20 : h19 69 = sc_cp (h 69) (h 44) := (frc73 _ (by decide)).trans r69_18
            have r70_20 : h19 70 = sc_cp (h 70) (h 45) := (frc73 _ (by decide)).trans r70_18
            have r71_20 : h19 71 = sc_cp (h 71) (h 46) := (frc73 _ (by decide)).trans r71_18
            have r72_20 : h19 72 = sc_cp (h 72) (h 47) := (frc73 _ (by decide)).trans qC72
            have fr20 : mh_fr [73, 72, 71, 70, 69, 55, 54, 53, 52, 51] h h19 := (mh_fr.tr fr18 frc73).mono (by simp)
            refine mh_iinc2 (pc := 96) F dX10_copy_96 rfl (by decide) ?_
            refine mh_goto (pc := 99) (tgt := 75) F dX10_copy_99 rfl ?_
            refine mh_iload2 (pc := 75) F dX10_copy_75 ?_
            refine mh_bipush (pc := 76) F dX10_copy_76 rfl ?_
            refine mh_icmp_ge (pc := 78) (tgt := 102) F dX10_copy_78 rfl (by omega) (by omega) (fun c_78 => ?_) (fun c_78 => ?_)
            · exact absurd c_78 (by decide)
            · refine mh_aload0 (pc := 81) F dX10_copy_81 ?_
              refine mh_getr (b := 56) (pc := 82) F sh_50 (by decide) fw_RX10_29_10 dX10_copy_82 rfl (fx_50_5 F19) ?_
              refine mh_iload2 (pc := 85) F dX10_copy_85 ?_
              refine mh_aaload (b := 74) (pc := 86) F sh_56 (by decide) (by decide) (by omega) dX10_copy_86 (fx_56_5 F19) ?_
              refine mh_aload1 (pc := 87) F dX10_copy_87 ?_
              refine mh_getr (b := 31) (pc := 88) F sh_25 (by decide) fw_RX10_29_10 dX10_copy_88 rfl (fx_25_5 F19) ?_
              refine mh_iload2 (pc := 91) F dX10_copy_91 ?_
              refine mh_aaload (b := 49) (pc := 92) F sh_31 (by decide) (by decide) (by omega) dX10_copy_92 (fx_31_5 F19) ?_
              refine mh_callV0 (pc := 93) (As := [.ref 49]) (st := []) F (by omega) (k0_copy (by omega) F19 rfl rfl (show sc_A 74 by unfold sc_A; omega) (show sc_A 49 by unfold sc_A; omega) (by decide) (by rw [fr20 49 (by simp)]; exact hco 5 (by decide) (by decide))) wv_RX10_79_yX0_copy dX10_copy_93 sh_74 rfl (by decide) rfl rfl (Nat.le_of_ble_eq_true rfl) ⟨Nat.zero_le _, Nat.zero_le _⟩ (fun r21 h21 q21 => ?_)
              obtain ⟨rfl, F21, frc74, qC74⟩ := q21
              rw [fr20 74 (by simp), fr20 49 (by simp)] at qC74
              have r50_22 : h21 50 = h 50 := (frc74 _ (by decide)).trans r50_20
              have r51_22 : h21 51 = mh_cpR (h 26) (h 51) 0 0 9 := (frc74 _ (by decide)).trans r51_20
              have r52_22 : h21 52 = mh_cpR (h 27) (h 52) 0 0 9 := (frc74 _ (by decide)).trans r52_20
              have r53_22 : h21 53 = mh_cpR (h 28) (h 53) 0 0 9 := (frc74 _ (by decide)).trans r53_20
              have r54_22 : h21 54 = mh_cpR (h 29) (h 54) 0 0 4 := (frc74 _ (by decide)).trans r54_20
              have r55_22 : h21 55 = mh_cpR (h 30) (h 55) 0 0 4 := (frc74 _ (by decide)).trans r55_20
              have r69_22 : h21 69 = sc_cp (h 69) (h 44) := (frc74 _ (by decide)).trans r69_20
              have r70_22 : h21 70 = sc_cp (h 70) (h 45) := (frc74 _ (by decide)).trans r70_20
              have r71_22 : h21 71 = sc_cp (h 71) (h 46) := (frc74 _ (by decide)).trans r71_20
              have r72_22 : h21 72 = sc_cp (h 72) (h 47) := (frc74 _ (by decide)).trans r72_20
              have r73_22 : h21 73 = sc_cp (h 73) (h 48) := (frc74 _ (by decide)).trans qC73
              have fr22 : mh_fr [74, 73, 72, 71, 70, 69, 55, 54, 53, 52, 51] h h21 := (mh_fr.tr fr20 frc74).mono (by simp)
              refine mh_iinc2 (pc := 96) F dX10_copy_96 rfl (by decide) ?_
              refine mh_goto (pc := 99) (tgt := 75) F dX10_copy_99 rfl ?_
              refine mh_iload2 (pc := 75) F dX10_copy_75 ?_
              refine mh_bipush (pc := 76) F dX10_copy_76 rfl ?_
              refine mh_icmp_ge (pc := 78) (tgt := 102) F dX10_copy_78 rfl (by omega) (by omega) (fun c_78 => ?_) (fun c_78 => ?_)
              · refine mh_aload0 (pc := 102) F dX10_copy_102 ?_
                refine mh_aload1 (pc := 103) F dX10_copy_103 ?_
                refine mh_geti (pc := 104) F sh_25 (by decide) fw_RX10_83_10 dX10_copy_104 rfl ?_
                refine mh_top (y := h 25 6) (mh_eqI (congrFun (fr22 25 (by simp)) 6)) ?_
                refine mh_puti (pc := 107) F sh_50 (by decide) pw_RX10_83_10 dX10_copy_107 ?_
                refine mh_nmh (fun h23 e23 => ?_)
                have F23 : mh_FX h23 := by rw [e23]; exact F21.upz rfl
                have r50_23 : h23 50 = mh_ur (h 50) 6 (h 25 6) := by rw [e23, mh_up_rs, r50_22] <;> rfl
                have r51_23 : h23 51 = mh_cpR (h 26) (h 51) 0 0 9 := by rw [e23, mh_up_row (by decide)]; exact r51_22
                have r52_23 : h23 52 = mh_cpR (h 27) (h 52) 0 0 9 := by rw [e23, mh_up_row (by decide)]; exact r52_22
                have r53_23 : h23 53 = mh_cpR (h 28) (h 53) 0 0 9 := by rw [e23, mh_up_row (by decide)]; exact r53_22
                have r54_23 : h23 54 = mh_cpR (h 29) (h 54) 0 0 4 := by rw [e23, mh_up_row (by decide)]; exact r54_22
                have r55_23 : h23 55 = mh_cpR (h 30) (h 55) 0 0 4 := by rw [e23, mh_up_row (by decide)]; exact r55_22
                have r69_23 : h23 69 = sc_cp (h 69) (h 44) := by rw [e23, mh_up_row (by decide)]; exact r69_22
                have r70_23 : h23 70 = sc_cp (h 70) (h 45) := by rw [e23, mh_up_row (by decide)]; exact r70_22
                have r71_23 : h23 71 = sc_cp (h 71) (h 46) := by rw [e23, mh_up_row (by decide)]; exact r71_22
                have r72_23 : h23 72 = sc_cp (h 72) (h 47) := by rw [e23, mh_up_row (by decide)]; exact r72_22
                have r73_23 : h23 73 = sc_cp (h 73) (h 48) := by rw [e23, mh_up_row (by decide)]; exact r73_22
                have r74_23 : h23 74 = sc_cp (h 74) (h 49) := by rw [e23, mh_up_row (by decide)]; exact qC74
                have fr23 : mh_fr [50, 74, 73, 72, 71, 70, 69, 55, 54, 53, 52, 51] h h23 := mh_fr.up fr22 e23
                refine mh_aload0 (pc := 110) F dX10_copy_110 ?_
                refine mh_aload1 (pc := 111) F dX10_copy_111 ?_
                refine mh_geti (pc := 112) F sh_25 (by decide) fw_RX10_86_10 dX10_copy_112 rfl ?_
                refine mh_top (y := h 25 7) (mh_eqI (congrFun (fr23 25 (by simp)) 7)) ?_
                refine mh_puti (pc := 115) F sh_50 (by decide) pw_RX10_86_10 dX10_copy_115 ?_
                refine mh_nmh (fun h24 e24 => ?_)
                have F24 : mh_FX h24 := by rw [e24]; exact F23.upz rfl
                have r50_24 : h24 50 = mh_ur (mh_ur (h 50) 6 (h 25 6)) 7 (h 25 7) := by rw [e24, mh_up_rs, r50_23] <;> rfl
                have r51_24 : h24 51 = mh_cpR (h 26) (h 51) 0 0 9 := by rw [e24, mh_up_row (by decide)]; exact r51_23
                have r52_24 : h24 52 = mh_cpR (h 27) (h 52) 0 0 9 := by rw [e24, mh_up_row (by decide)]; exact r52_23
                have r53_24 : h24 53 = mh_cpR (h 28) (h 53) 0 0 9 := by rw [e24, mh_up_row (by decide)]; exact r53_23
                have r54_24 : h24 54 = mh_cpR (h 29) (h 54) 0 0 4 := by rw [e24, mh_up_row (by decide)]; exact r54_23
                have r55_24 : h24 55 = mh_cpR (h 30) (h 55) 0 0 4 := by rw [e24, mh_up_row (by decide)]; exact r55_23
                have r69_24 : h24 69 = sc_cp (h 69) (h 44) := by rw [e24, mh_up_row (by decide)]; exact r69_23
                have r70_24 : h24 70 = sc_cp (h 70) (h 45) := by rw [e24, mh_up_row (by decide)]; exact r70_23
                have r71_24 : h24 71 = sc_cp (h 71) (h 46) := by rw [e24, mh_up_row (by decide)]; exact r71_23
                have r72_24 : h24 72 = sc_cp (h 72) (h 47) := by rw [e24, mh_up_row (by decide)]; exact r72_23
                have r73_24 : h24 73 = sc_cp (h 73) (h 48) := by rw [e24, mh_up_row (by decide)]; exact r73_23
                have r74_24 : h24 74 = sc_cp (h 74) (h 49) := by rw [e24, mh_up_row (by decide)]; exact r74_23
                have fr24 : mh_fr [50, 74, 73, 72, 71, 70, 69, 55, 54, 53, 52, 51] h h24 := mh_fr.upi fr23 e24 (by simp)
                refine mh_aload0 (pc := 118) F dX10_copy_118 ?_
                refine mh_aload1 (pc := 119) F dX10_copy_119 ?_
                refine mh_geti (pc := 120) F sh_25 (by decide) fw_RX10_89_10 dX10_copy_120 rfl ?_
                refine mh_top (y := h 25 8) (mh_eqI (congrFun (fr24 25 (by simp)) 8)) ?_
                refine mh_puti (pc := 123) F sh_50 (by decide) pw_RX10_89_10 dX10_copy_123 ?_
                refine mh_nmh (fun h25 e25 => ?_)
                have F25 : mh_FX h25 := by rw [e25]; exact F24.upz rfl
                have r50_25 : h25 50 = mh_ur (mh_ur (mh_ur (h 50) 6 (h 25 6)) 7 (h 25 7)) 8 (h 25 8) := by rw [e25, mh_up_rs, r50_24] <;> rfl
                have r51_25 : h25 51 = mh_cpR (h 26) (h 51) 0 0 9 := by rw [e25, mh_up_row (by decide)]; exact r51_24
                have r52_25 : h25 52 = mh_cpR (h 27) (h 52) 0 0 9 := by rw [e25, mh_up_row (by decide)]; exact r52_24
                have r53_25 : h25 53 = mh_cpR (h 28) (h 53) 0 0 9 := by rw [e25, mh_up_row (by decide)]; exact r53_24
                have r54_25 : h25 54 = mh_cpR (h 29) (h 54) 0 0 4 := by rw [e25, mh_up_row (by decide)]; exact r54_24
                have r55_25 : h25 55 = mh_cpR (h 30) (h 55) 0 0 4 := by rw [e25, mh_up_row (by decide)]; exact r55_24
                have r69_25 : h25 69 = sc_cp (h 69) (h 44) := by rw [e25, mh_up_row (by decide)]; exact r69_24
                have r70_25 : h25 70 = sc_cp (h 70) (h 45) := by rw [e25, mh_up_row (by decide)]; exact r70_24
                have r71_25 : h25 71 = sc_cp (h 71) (h 46) := by rw [e25, mh_up_row (by decide)]; exact r71_24
                have r72_25 : h25 72 = sc_cp (h 72) (h 47) := by rw [e25, mh_up_row (by decide)]; exact r72_24
                have r73_25 : h25 73 = sc_cp (h 73) (h 48) := by rw [e25, mh_up_row (by decide)]; exact r73_24
                have r74_25 : h25 74 = sc_cp (h 74) (h 49) := by rw [e25, mh_up_row (by decide)]; exact r74_24
                have fr25 : mh_fr [50, 74, 73, 72, 71, 70, 69, 55, 54, 53, 52, 51] h h25 := mh_fr.upi fr24 e25 (by simp)
                refine mh_aload1 (pc := 126) F dX10_copy_126 ?_
                refine mh_getr (b := 32) (pc := 127) F sh_25 (by decide) fw_RX10_33_10 dX10_copy_127 rfl (fx_25_9 F25) ?_
                refine mh_iconst (pc := 130) F dX10_copy_130 ?_
                refine mh_aload0 (pc := 131) F dX10_copy_131 ?_
                refine mh_getr (b := 57) (pc := 132) F sh_50 (by decide) fw_RX10_33_10 dX10_copy_132 rfl (fx_50_9 F25) ?_
                refine mh_iconst (pc := 135) F dX10_copy_135 ?_
                refine mh_bipush (pc := 136) F dX10_copy_136 rfl ?_
                refine mh_copy (pc := 138) F (by omega) sh_32 sh_57 (by decide) (by decide) (by decide) cw_RX10 cw_nat cw_stat cw_ini (by omega) (by omega) (by omega) (by omega) (by omega) (fun i i0 i1 => by rw [congrFun (fr25 32 (by simp)) i]; exact mh_fitb (hby i i0 (by omega))) dX10_copy_138 (Nat.le_of_ble_eq_true rfl) ?_
                refine mh_nmh (fun h26 e26 => ?_)
                have F26 : mh_FX h26 := by rw [e26]; exact F25.cp rfl
                have frc26 : mh_fr [57] h25 h26 := mh_fr.cp e26
                have r50_27 : h26 50 = mh_ur (mh_ur (mh_ur (h 50) 6 (h 25 6)) 7 (h 25 7)) 8 (h 25 8) := (frc26 _ (by decide)).trans r50_25
                have r51_27 : h26 51 = mh_cpR (h 26) (h 51) 0 0 9 := (frc26 _ (by decide)).trans r51_25
                have r52_27 : h26 52 = mh_cpR (h 27) (h 52) 0 0 9 := (frc26 _ (by decide)).trans r52_25
                have r53_27 : h26 53 = mh_cpR (h 28) (h 53) 0 0 9 := (frc26 _ (by decide)).trans r53_25
                have r54_27 : h26 54 = mh_cpR (h 29) (h 54) 0 0 4 := (frc26 _ (by decide)).trans r54_25
                have r55_27 : h26 55 = mh_cpR (h 30) (h 55) 0 0 4 := (frc26 _ (by decide)).trans r55_25
                have r69_27 : h26 69 = sc_cp (h 69) (h 44) := (frc26 _ (by decide)).trans r69_25
                have r70_27 : h26 70 = sc_cp (h 70) (h 45) := (frc26 _ (by decide)).trans r70_25
                have r71_27 : h26 71 = sc_cp (h 71) (h 46) := (frc26 _ (by decide)).trans r71_25
                have r72_27 : h26 72 = sc_cp (h 72) (h 47) := (frc26 _ (by decide)).trans r72_25
                have r73_27 : h26 73 = sc_cp (h 73) (h 48) := (frc26 _ (by decide)).trans r73_25
                have r74_27 : h26 74 = sc_cp (h 74) (h 49) := (frc26 _ (by decide)).trans r74_25
                have fr27 : mh_fr [57, 50, 74, 73, 72, 71, 70, 69, 55, 54, 53, 52, 51] h h26 := (mh_fr.tr fr25 frc26).mono (by simp)
                have r57_x : h26 57 = mh_cpR (h 32) (h 57) 0 0 50 := by rw [e26, mh_cpH_rs, fr25 32 (by simp), fr25 57 (by simp)]
                refine mh_aload0 (pc := 141) F dX10_copy_141 ?_
                refine mh_aload1 (pc := 142) F dX10_copy_142 ?_
                refine mh_geti (pc := 143) F sh_25 (by decide) fw_RX10_92_10 dX10_copy_143 rfl ?_
                refine mh_top (y := h 25 10) (mh_eqI (congrFun (fr27 25 (by simp)) 10)) ?_
                refine mh_puti (pc := 146) F sh_50 (by decide) pw_RX10_92_10 dX10_copy_146 ?_
                refine mh_nmh (fun h28 e28 => ?_)
                have F28 : mh_FX h28 := by rw [e28]; exact F26.upz rfl
                have r50_28 : h28 50 = mh_ur (mh_ur (mh_ur (mh_ur (h 50) 6 (h 25 6)) 7 (h 25 7)) 8 (h 25 8)) 10 (h 25 10) := by rw [e28, mh_up_rs, r50_27] <;> rfl
                have r51_28 : h28 51 = mh_cpR (h 26) (h 51) 0 0 9 := by rw [e28, mh_up_row (by decide)]; exact r51_27
                have r52_28 : h28 52 = mh_cpR (h 27) (h 52) 0 0 9 := by rw [e28, mh_up_row (by decide)]; exact r52_27
                have r53_28 : h28 53 = mh_cpR (h 28) (h 53) 0 0 9 := by rw [e28, mh_up_row (by decide)]; exact r53_27
                have r54_28 : h28 54 = mh_cpR (h 29) (h 54) 0 0 4 := by rw [e28, mh_up_row (by decide)]; exact r54_27
                have r55_28 : h28 55 = mh_cpR (h 30) (h 55) 0 0 4 := by rw [e28, mh_up_row (by decide)]; exact r55_27
                have r69_28 : h28 69 = sc_cp (h 69) (h 44) := by rw [e28, mh_up_row (by decide)]; exact r69_27
                have r70_28 : h28 70 = sc_cp (h 70) (h 45) := by rw [e28, mh_up_row (by decide)]; exact r70_27
                have r71_28 : h28 71 = sc_cp (h 71) (h 46) := by rw [e28, mh_up_row (by decide)]; exact r71_27
                have r72_28 : h28 72 = sc_cp (h 72) (h 47) := by rw [e28, mh_up_row (by decide)]; exact r72_27
                have r73_28 : h28 73 = sc_cp (h 73) (h 48) := by rw [e28, mh_up_row (by decide)]; exact r73_27
                have r74_28 : h28 74 = sc_cp (h 74) (h 49) := by rw [e28, mh_up_row (by decide)]; exact r74_27
                have r57_28 : h28 57 = mh_cpR (h 32) (h 57) 0 0 50 := by rw [e28, mh_up_row (by decide)]; exact r57_x
                have fr28 : mh_fr [57, 50, 74, 73, 72, 71, 70, 69, 55, 54, 53, 52, 51] h h28 := mh_fr.upi fr27 e28 (by simp)
                refine mh_aload0 (pc := 149) F dX10_copy_149 ?_
                refine mh_getr (b := 58) (pc := 150) F sh_50 (by decide) fw_RX10_46_10 dX10_copy_150 rfl (fx_50_11 F28) ?_
                refine mh_aload1 (pc := 153) F dX10_copy_153 ?_
                refine mh_getr (b := 33) (pc := 154) F sh_25 (by decide) fw_RX10_46_10 dX10_copy_154 rfl (fx_25_11 F28) ?_
                refine mh_callV0 (pc := 157) (As := [.ref 33]) (st := []) F (by omega) (k16_tcopy_58 (by omega) F28) wv_RX10_95_yX9_copy dX10_copy_157 sh_58 rfl (by decide) rfl rfl (Nat.le_of_ble_eq_true rfl) ⟨Nat.zero_le _, Nat.zero_le _⟩ (fun r29 h29 q29 => ?_)
                obtain ⟨rfl, F29, frt58, qc58, qt58⟩ := q29
                rw [fr28 34 (by simp), fr28 59 (by simp)] at qc58
                rw [fr28 58 (by simp), fr28 33 (by simp)] at qt58
                have r50_30 : h29 50 = mh_ur (mh_ur (mh_ur (mh_ur (h 50) 6 (h 25 6)) 7 (h 25 7)) 8 (h 25 8)) 10 (h 25 10) := (frt58 _ (by decide)).trans r50_28
                have r51_30 : h29 51 = mh_cpR (h 26) (h 51) 0 0 9 := (frt58 _ (by decide)).trans r51_28
                have r52_30 : h29 52 = mh_cpR (h 27) (h 52) 0 0 9 := (frt58 _ (by decide)).trans r52_28
                have r53_30 : h29 53 = mh_cpR (h 28) (h 53) 0 0 9 := (frt58 _ (by decide)).trans r53_28
                have r54_30 : h29 54 = mh_cpR (h 29) (h 54) 0 0 4 := (frt58 _ (by decide)).trans r54_28
                have r55_30 : h29 55 = mh_cpR (h 30) (h 55) 0 0 4 := (frt58 _ (by decide)).trans r55_28
                have r69_30 : h29 69 = sc_cp (h 69) (h 44) := (frt58 _ (by decide)).trans r69_28
                have r70_30 : h29 70 = sc_cp (h 70) (h 45) := (frt58 _ (by decide)).trans r70_28
                have r71_30 : h29 71 = sc_cp (h 71) (h 46) := (frt58 _ (by decide)).trans r71_28
                have r72_30 : h29 72 = sc_cp (h 72) (h 47) := (frt58 _ (by decide)).trans r72_28
                have r73_30 : h29 73 = sc_cp (h 73) (h 48) := (frt58 _ (by decide)).trans r73_28
                have r74_30 : h29 74 = sc_cp (h 74) (h 49) := (frt58 _ (by decide)).trans r74_28
                have r57_30 : h29 57 = mh_cpR (h 32) (h 57) 0 0 50 := (frt58 _ (by decide)).trans r57_28
                have fr30 : mh_fr [58, 59, 57, 50, 74, 73, 72, 71, 70, 69, 55, 54, 53, 52, 51] h h29 := (mh_fr.tr fr28 frt58).mono (by simp)
                refine mh_aload0 (pc := 160) F dX10_copy_160 ?_
                refine mh_getr (b := 63) (pc := 161) F sh_50 (by decide) fw_RX10_54_10 dX10_copy_161 rfl (fx_50_12 F29) ?_
                refine mh_aload1 (pc := 164) F dX10_copy_164 ?_
                refine mh_getr (b := 38) (pc := 165) F sh_25 (by decide) fw_RX10_54_10 dX10_copy_165 rfl (fx_25_12 F29) ?_
                refine mh_callV0 (pc := 168) (As := [.ref 38]) (st := []) F (by omega) (k16_tcopy_63 (by omega) F29) wv_RX10_95_yX9_copy dX10_copy_168 sh_63 rfl (by decide) rfl rfl (Nat.le_of_ble_eq_true rfl) ⟨Nat.zero_le _, Nat.zero_le _⟩ (fun r31 h31 q31 => ?_)
                obtain ⟨rfl, F31, frt63, qc63, qt63⟩ := q31
                rw [fr30 39 (by simp), fr30 64 (by simp)] at qc63
                rw [fr30 63 (by simp), fr30 38 (by simp)] at qt63
                have r50_32 : h31 50 = mh_ur (mh_ur (mh_ur (mh_ur (h 50) 6 (h 25 6)) 7 (h 25 7)) 8 (h 25 8)) 10 (h 25 10) := (frt63 _ (by decide)).trans r50_30
                have r51_32 : h31 51 = mh_cpR (h 26) (h 51) 0 0 9 := (frt63 _ (by decide)).trans r51_30
                have r52_32 : h31 52 = mh_cpR (h 27) (h 52) 0 0 9 := (frt63 _ (by decide)).trans r52_30
                have r53_32 : h31 53 = mh_cpR (h 28) (h 53) 0 0 9 := (frt63 _ (by decide)).trans r53_30
                have r54_32 : h31 54 = mh_cpR (h 29) (h 54) 0 0 4 := (frt63 _ (by decide)).trans r54_30
                have r55_32 : h31 55 = mh_cpR (h 30) (h 55) 0 0 4 := (frt63 _ (by decide)).trans r55_30
                have r69_32 : h31 69 = sc_cp (h 69) (h 44) := (frt63 _ (by decide)).trans r69_30
                have r70_32 : h31 70 = sc_cp (h 70) (h 45) := (frt63 _ (by decide)).trans r70_30
                have r71_32 : h31 71 = sc_cp (h 71) (h 46) := (frt63 _ (by decide)).trans r71_30
                have r72_32 : h31 72 = sc_cp (h 72) (h 47) := (frt63 _ (by decide)).trans r72_30
                have r73_32 : h31 73 = sc_cp (h 73) (h 48) := (frt63 _ (by decide)).trans r73_30
                have r74_32 : h31 74 = sc_cp (h 74) (h 49) := (frt63 _ (by decide)).trans r74_30
                have r57_32 : h31 57 = mh_cpR (h 32) (h 57) 0 0 50 := (frt63 _ (by decide)).trans r57_30
                have r58_32 : h31 58 = mh_ur (h 58) 3 (h 33 3) := (frt63 _ (by decide)).trans qt58
                have r59_32 : h31 59 = mh_cpR (h 34) (h 59) 0 0 50 := (frt63 _ (by decide)).trans qc58
                have fr32 : mh_fr [63, 64, 58, 59, 57, 50, 74, 73, 72, 71, 70, 69, 55, 54, 53, 52, 51] h h31 := (mh_fr.tr fr30 frt63).mono (by simp)
                refine mh_aload1 (pc := 171) F dX10_copy_171 ?_
                refine mh_getr (b := 43) (pc := 172) F sh_25 (by decide) fw_RX10_57_10 dX10_copy_172 rfl (fx_25_13 F31) ?_
                refine mh_iconst (pc := 175) F dX10_copy_175 ?_
                refine mh_aload0 (pc := 176) F dX10_copy_176 ?_
                refine mh_getr (b := 68) (pc := 177) F sh_50 (by decide) fw_RX10_57_10 dX10_copy_177 rfl (fx_50_13 F31) ?_
                refine mh_iconst (pc := 180) F dX10_copy_180 ?_
                refine mh_bipush (pc := 181) F dX10_copy_181 rfl ?_
                refine mh_copy (pc := 183) F (by omega) sh_43 sh_68 (by decide) (by decide) (by decide) cw_RX10 cw_nat cw_stat cw_ini (by omega) (by omega) (by omega) (by omega) (by omega) (fun _ _ _ => rfl) dX10_copy_183 (Nat.le_of_ble_eq_true rfl) ?_
                refine mh_nmh (fun h33 e33 => ?_)
                have F33 : mh_FX h33 := by rw [e33]; exact F31.cp rfl
                have frc33 : mh_fr [68] h31 h33 := mh_fr.cp e33
                have r50_34 : h33 50 = mh_ur (mh_ur (mh_ur (mh_ur (h 50) 6 (h 25 6)) 7 (h 25 7)) 8 (h 25 8)) 10 (h 25 10) := (frc33 _ (by decide)).trans r50_32
                have r51_34 : h33 51 = mh_cpR (h 26) (h 51) 0 0 9 := (frc33 _ (by decide)).trans r51_32
                have r52_34 : h33 52 = mh_cpR (h 27) (h 52) 0 0 9 := (frc33 _ (by decide)).trans r52_32
                have r53_34 : h33 53 = mh_cpR (h 28) (h 53) 0 0 9 := (frc33 _ (by decide)).trans r53_32
                have r54_34 : h33 54 = mh_cpR (h 29) (h 54) 0 0 4 := (frc33 _ (by decide)).trans r54_32
                have r55_34 : h33 55 = mh_cpR (h 30) (h 55) 0 0 4 := (frc33 _ (by decide)).trans r55_32
                have r69_34 : h33 69 = sc_cp (h 69) (h 44) := (frc33 _ (by decide)).trans r69_32
                have r70_34 : h33 70 = sc_cp (h 70) (h 45) := (frc33 _ (by decide)).trans r70_32
                have r71_34 : h33 71 = sc_cp (h 71) (h 46) := (frc33 _ (by decide)).trans r71_32
                have r72_34 : h33 72 = sc_cp (h 72) (h 47) := (frc33 _ (by decide)).trans r72_32
                have r73_34 : h33 73 = sc_cp (h 73) (h 48) := (frc33 _ (by decide)).trans r73_32
                have r74_34 : h33 74 = sc_cp (h 74) (h 49) := (frc33 _ (by decide)).trans r74_32
                have r57_34 : h33 57 = mh_cpR (h 32) (h 57) 0 0 50 := (frc33 _ (by decide)).trans r57_32
                have r58_34 : h33 58 = mh_ur (h 58) 3 (h 33 3) := (frc33 _ (by decide)).trans r58_32
                have r59_34 : h33 59 = mh_cpR (h 34) (h 59) 0 0 50 := (frc33 _ (by decide)).trans r59_32
                have r63_34 : h33 63 = mh_ur (h 63) 3 (h 38 3) := (frc33 _ (by decide)).trans qt63
                have r64_34 : h33 64 = mh_cpR (h 39) (h 64) 0 0 50 := (frc33 _ (by decide)).trans qc63
                have fr34 : mh_fr [68, 63, 64, 58, 59, 57, 50, 74, 73, 72, 71, 70, 69, 55, 54, 53, 52, 51] h h33 := (mh_fr.tr fr32 frc33).mono (by simp)
                have r68_x : h33 68 = mh_cpR (h 43) (h 68) 0 0 20 := by rw [e33, mh_cpH_rs, fr32 43 (by simp), fr32 68 (by simp)]
                refine mh_aload0 (pc := 186) F dX10_copy_186 ?_
                refine mh_aload1 (pc := 187) F dX10_copy_187 ?_
                refine mh_geti (pc := 188) F sh_25 (by decide) fw_RX10_98_10 dX10_copy_188 rfl ?_
                refine mh_top (y := h 25 14) (mh_eqI (congrFun (fr34 25 (by simp)) 14)) ?_
                refine mh_puti (pc := 191) F sh_50 (by decide) pw_RX10_98_10 dX10_copy_191 ?_
                refine mh_nmh (fun h35 e35 => ?_)
                have F35 : mh_FX h35 := by rw [e35]; exact F33.upz rfl
                have r50_35 : h35 50 = mh_ur (mh_ur (mh_ur (mh_ur (mh_ur (h 50) 6 (h 25 6)) 7 (h 25 7)) 8 (h 25 8)) 10 (h 25 10)) 14 (h 25 14) := by rw [e35, mh_up_rs, r50_34] <;> rfl
                have r51_35 : h35 51 = mh_cpR (h 26) (h 51) 0 0 9 := by rw [e35, mh_up_row (by decide)]; exact r51_34
                have r52_35 : h35 52 = mh_cpR (h 27) (h 52) 0 0 9 := by rw [e35, mh_up_row (by decide)]; exact r52_34
                have r53_35 : h35 53 = mh_cpR (h 28) (h 53) 0 0 9 := by rw [e35, mh_up_row (by decide)]; exact r53_34
                have r54_35 : h35 54 = mh_cpR (h 29) (h 54) 0 0 4 := by rw [e35, mh_up_row (by decide)]; exact r54_34
                have r55_35 : h35 55 = mh_cpR (h 30) (h 55) 0 0 4 := by rw [e35, mh_up_row (by decide)]; exact r55_34
                have r69_35 : h35 69 = sc_cp (h 69) (h 44) := by rw [e35, mh_up_row (by decide)]; exact r69_34
                have r70_35 : h35 70 = sc_cp (h 70) (h 45) := by rw [e35, mh_up_row (by decide)]; exact r70_34
                have r71_35 : h35 71 = sc_cp (h 71) (h 46) := by rw [e35, mh_up_row (by decide)]; exact r71_34
                have r72_35 : h35 72 = sc_cp (h 72) (h 47) := by rw [e35, mh_up_row (by decide)]; exact r72_34
                have r73_35 : h35 73 = sc_cp (h 73) (h 48) := by rw [e35, mh_up_row (by decide)]; exact r73_34
                have r74_35 : h35 74 = sc_cp (h 74) (h 49) := by rw [e35, mh_up_row (by decide)]; exact r74_34
                have r57_35 : h35 57 = mh_cpR (h 32) (h 57) 0 0 50 := by rw [e35, mh_up_row (by decide)]; exact r57_34
                have r58_35 : h35 58 = mh_ur (h 58) 3 (h 33 3) := by rw [e35, mh_up_row (by decide)]; exact r58_34
                have r59_35 : h35 59 = mh_cpR (h 34) (h 59) 0 0 50 := by rw [e35, mh_up_row (by decide)]; exact r59_34
                have r63_35 : h35 63 = mh_ur (h 63) 3 (h 38 3) := by rw [e35, mh_up_row (by decide)]; exact r63_34
                have r64_35 : h35 64 = mh_cpR (h 39) (h 64) 0 0 50 := by rw [e35, mh_up_row (by decide)]; exact r64_34
                have r68_35 : h35 68 = mh_cpR (h 43) (h 68) 0 0 20 := by rw [e35, mh_up_row (by decide)]; exact r68_x
                have fr35 : mh_fr [68, 63, 64, 58, 59, 57, 50, 74, 73, 72, 71, 70, 69, 55, 54, 53, 52, 51] h h35 := mh_fr.upi fr34 e35 (by simp)
                refine mh_aload0 (pc := 194) F dX10_copy_194 ?_
                refine mh_aload1 (pc := 195) F dX10_copy_195 ?_
                refine mh_geti (pc := 196) F sh_25 (by decide) fw_RX10_60_10 dX10_copy_196 rfl ?_
                refine mh_top (y := h 25 15) (mh_eqI (congrFun (fr35 25 (by simp)) 15)) ?_
                refine mh_puti (pc := 199) F sh_50 (by decide) pw_RX10_60_10 dX10_copy_199 ?_
                refine mh_nmh (fun h36 e36 => ?_)
                have F36 : mh_FX h36 := by rw [e36]; exact F35.upz rfl
                have r50_36 : h36 50 = mh_ur (mh_ur (mh_ur (mh_ur (mh_ur (mh_ur (h 50) 6 (h 25 6)) 7 (h 25 7)) 8 (h 25 8)) 10 (h 25 10)) 14 (h 25 14)) 15 (h 25 15) := by rw [e36, mh_up_rs, r50_35] <;> rfl
                have r51_36 : h36 51 = mh_cpR (h 26) (h 51) 0 0 9 := by rw [e36, mh_up_row (by decide)]; exact r51_35
                have r52_36 : h36 52 = mh_cpR (h 27) (h 52) 0 0 9 := by rw [e36, mh_up_row (by decide)]; exact r52_35
                have r53_36 : h36 53 = mh_cpR (h 28) (h 53) 0 0 9 := by rw [e36, mh_up_row (by decide)]; exact r53_35
                have r54_36 : h36 54 = mh_cpR (h 29) (h 54) 0 0 4 := by rw [e36, mh_up_row (by decide)]; exact r54_35
                have r55_36 : h36 55 = mh_cpR (h 30) (h 55) 0 0 4 := by rw [e36, mh_up_row (by decide)]; exact r55_35
                have r69_36 : h36 69 = sc_cp (h 69) (h 44) := by rw [e36, mh_up_row (by decide)]; exact r69_35
                have r70_36 : h36 70 = sc_cp (h 70) (h 45) := by rw [e36, mh_up_row (by decide)]; exact r70_35
                have r71_36 : h36 71 = sc_cp (h 71) (h 46) := by rw [e36, mh_up_row (by decide)]; exact r71_35
                have r72_36 : h36 72 = sc_cp (h 72) (h 47) := by rw [e36, mh_up_row (by decide)]; exact r72_35
                have r73_36 : h36 73 = sc_cp (h 73) (h 48) := by rw [e36, mh_up_row (by decide)]; exact r73_35
                have r74_36 : h36 74 = sc_cp (h 74) (h 49) := by rw [e36, mh_up_row (by decide)]; exact r74_35
                have r57_36 : h36 57 = mh_cpR (h 32) (h 57) 0 0 50 := by rw [e36, mh_up_row (by decide)]; exact r57_35
                have r58_36 : h36 58 = mh_ur (h 58) 3 (h 33 3) := by rw [e36, mh_up_row (by decide)]; exact r58_35
                have r59_36 : h36 59 = mh_cpR (h 34) (h 59) 0 0 50 := by rw [e36, mh_up_row (by decide)]; exact r59_35
                have r63_36 : h36 63 = mh_ur (h 63) 3 (h 38 3) := by rw [e36, mh_up_row (by decide)]; exact r63_35
                have r64_36 : h36 64 = mh_cpR (h 39) (h 64) 0 0 50 := by rw [e36, mh_up_row (by decide)]; exact r64_35
                have r68_36 : h36 68 = mh_cpR (h 43) (h 68) 0 0 20 := by rw [e36, mh_up_row (by decide)]; exact r68_35
                have fr36 : mh_fr [68, 63, 64, 58, 59, 57, 50, 74, 73, 72, 71, 70, 69, 55, 54, 53, 52, 51] h h36 := mh_fr.upi fr35 e36 (by simp)
                exact mh_return F Z dX10_copy_202 ⟨rfl, F36, (fr36.mono (by simp)), r51_36, r52_36, r53_36, r54_36, r55_36, r69_36, r70_36, r71_36, r72_36, r73_36, r74_36, r50_36, r57_36, r58_36, r59_36, r63_36, r64_36, r68_36⟩
              · exact absurd c_78 (by decide)

set_option maxRecDepth 100000 in
set_option maxHeartbeats 4000000 in
theorem k16_world_25 {g : mh_G} {d : Nat} (hd : 6 ≤ d) {h : Nat → Int → Int} (hF : mh_FX h)  (hco : ∀ j : Int, 0 ≤ j → j < 6 → sc_ok (h (69 + j.toNat))) (hby : ∀ i, 0 ≤ i → i < 50 → -128 ≤ h 57 i ∧ h 57 i ≤ 127) : mh_M g d yX10_copy cX10_copy 3 none 96 0 0 [.ref 25, .ref 50] h (fun r h2 => r = none ∧ mh_FX h2 ∧ mh_fr [26, 27, 28, 29, 30, 44, 45, 46, 47, 48, 49, 25, 32, 33, 34, 38, 39, 43] h h2 ∧ h2 26 = mh_cpR (h 51) (h 26) 0 0 9 ∧ h2 27 = mh_cpR (h 52) (h 27) 0 0 9 ∧ h2 28 = mh_cpR (h 53) (h 28) 0 0 9 ∧ h2 29 = mh_cpR (h 54) (h 29) 0 0 4 ∧ h2 30 = mh_cpR (h 55) (h 30) 0 0 4 ∧ h2 44 = sc_cp (h 44) (h 69) ∧ h2 45 = sc_cp (h 45) (h 70) ∧ h2 46 = sc_cp (h 46) (h 71) ∧ h2 47 = sc_cp (h 47) (h 72) ∧ h2 48 = sc_cp (h 48) (h 73) ∧ h2 49 = sc_cp (h 49) (h 74) ∧ h2 25 = mh_ur (mh_ur (mh_ur (mh_ur (mh_ur (mh_ur (h 25) 6 (h 50 6)) 7 (h 50 7)) 8 (h 50 8)) 10 (h 50 10)) 14 (h 50 14)) 15 (h 50 15) ∧ h2 32 = mh_cpR (h 57) (h 32) 0 0 50 ∧ h2 33 = mh_ur (h 33) 3 (h 58 3) ∧ h2 34 = mh_cpR (h 59) (h 34) 0 0 50 ∧ h2 38 = mh_ur (h 38) 3 (h 63 3) ∧ h2 39 = mh_cpR (h 64) (h 39) 0 0 50 ∧ h2 43 = mh_cpR (h 68) (h 43) 0 0 20) := by
  refine mh_M_of RX10 rfl (by decide +kernel) [some (.ref 25), some (.ref 50), none] rfl (Nat.le_of_ble_eq_true rfl) (fun f F Z hn0 hR => ?_)
  refine mh_aload1 (pc := 0) F dX10_copy_0 ?_
  refine mh_getr (b := 51) (pc := 1) F sh_50 (by decide) fw_RX10_9_10 dX10_copy_1 rfl (fx_50_0 hF) ?_
  refine mh_iconst (pc := 4) F dX10_copy_4 ?_
  refine mh_aload0 (pc := 5) F dX10_copy_5 ?_
  refine mh_getr (b := 26) (pc := 6) F sh_25 (by decide) fw_RX10_9_10 dX10_copy_6 rfl (fx_25_0 hF) ?_
  refine mh_iconst (pc := 9) F dX10_copy_9 ?_
  refine mh_bipush (pc := 10) F dX10_copy_10 rfl ?_
  have frz : mh_fr [] h h := mh_fr.rf
  refine mh_copy (pc := 12) F (by omega) sh_51 sh_26 (by decide) (by decide) (by decide) cw_RX10 cw_nat cw_stat cw_ini (by omega) (by omega) (by omega) (by omega) (by omega) (fun _ _ _ => rfl) dX10_copy_12 (Nat.le_of_ble_eq_true rfl) ?_
  refine mh_nmh (fun h1 e1 => ?_)
  have F1 : mh_FX h1 := by rw [e1]; exact hF.cp rfl
  have frc1 : mh_fr [26] h h1 := mh_fr.cp e1
  have r25_2 : h1 25 = h 25 := (frc1 _ (by decide)).trans rfl
  have fr2 : mh_fr [26] h h1 := (mh_fr.tr mh_fr.rf frc1).mono (by simp)
  have r26_x : h1 26 = mh_cpR (h 51) (h 26) 0 0 9 := by rw [e1, mh_cpH_rs, frz 51 (by simp), frz 26 (by simp)]
  refine mh_aload1 (pc := 15) F dX10_copy_15 ?_
  refine mh_getr (b := 52) (pc := 16) F sh_50 (by decide) fw_RX10_15_10 dX10_copy_16 rfl (fx_50_1 F1) ?_
  refine mh_iconst (pc := 19) F dX10_copy_19 ?_
  refine mh_aload0 (pc := 20) F dX10_copy_20 ?_
  refine mh_getr (b := 27) (pc := 21) F sh_25 (by decide) fw_RX10_15_10 dX10_copy_21 rfl (fx_25_1 F1) ?_
  refine mh_iconst (pc := 24) F dX10_copy_24 ?_
  refine mh_bipush (pc := 25) F dX10_copy_25 rfl ?_
  refine mh_copy (pc := 27) F (by omega) sh_52 sh_27 (by decide) (by decide) (by decide) cw_RX10 cw_nat cw_stat cw_ini (by omega) (by omega) (by omega) (by omega) (by omega) (fun _ _ _ => rfl) dX10_copy_27 (Nat.le_of_ble_eq_true rfl) ?_
  refine mh_nmh (fun h3 e3 => ?_)
  have F3 : mh_FX h3 := by rw [e3]; exact F1.cp rfl
  have frc3 : mh_fr [27] h1 h3 := mh_fr.cp e3
  have r25_4 : h3 25 = h 25 := (frc3 _ (by decide)).trans r25_2
  have r26_4 : h3 26 = mh_cpR (h 51) (h 26) 0 0 9 := (frc3 _ (by decide)).trans r26_x
  have fr4 : mh_fr [27, 26] h h3 := (mh_fr.tr fr2 frc3).mono (by simp)
  have r27_x : h3 27 = mh_cpR (h 52) (h 27) 0 0 9 := by rw [e3, mh_cpH_rs, fr2 52 (by simp), fr2 27 (by simp)]
  refine mh_aload1 (pc := 30) F dX10_copy_30 ?_
  refine mh_getr (b := 53) (pc := 31) F sh_50 (by decide) fw_RX10_18_10 dX10_copy_31 rfl (fx_50_2 F3) ?_
  refine mh_iconst (pc := 34) F dX10_copy_34 ?_
  refine mh_aload0 (pc := 35) F dX10_copy_35 ?_
  refine mh_getr (b := 28) (pc := 36) F sh_25 (by decide) fw_RX10_18_10 dX10_copy_36 rfl (fx_25_2 F3) ?_
  refine mh_iconst (pc := 39) F dX10_copy_39 ?_
  refine mh_bipush (pc := 40) F dX10_copy_40 rfl ?_
  refine mh_copy (pc := 42) F (by omega) sh_53 sh_28 (by decide) (by decide) (by decide) cw_RX10 cw_nat cw_stat cw_ini (by omega) (by omega) (by omega) (by omega) (by omega) (fun _ _ _ => rfl) dX10_copy_42 (Nat.le_of_ble_eq_true rfl) ?_
  refine mh_nmh (fun h5 e5 => ?_)
  have F5 : mh_FX h5 := by rw [e5]; exact F3.cp rfl
  have frc5 : mh_fr [28] h3 h5 := mh_fr.cp e5
  have r25_6 : h5 25 = h 25 := (frc5 _ (by decide)).trans r25_4
  have r26_6 : h5 26 = mh_cpR (h 51) (h 26) 0 0 9 := (frc5 _ (by decide)).trans r26_4
  have r27_6 : h5 27 = mh_cpR (h 52) (h 27) 0 0 9 := (frc5 _ (by decide)).trans r27_x
  have fr6 : mh_fr [28, 27, 26] h h5 := (mh_fr.tr fr4 frc5).mono (by simp)
  have r28_x : h5 28 = mh_cpR (h 53) (h 28) 0 0 9 := by rw [e5, mh_cpH_rs, fr4 53 (by simp), fr4 28 (by simp)]
  refine mh_aload1 (pc := 45) F dX10_copy_45 ?_
  refine mh_getr (b := 54) (pc := 46) F sh_50 (by decide) fw_RX10_21_10 dX10_copy_46 rfl (fx_50_3 F5) ?_
  refine mh_iconst (pc := 49) F dX10_copy_49 ?_
  refine mh_aload0 (pc := 50) F dX10_copy_50 ?_
  refine mh_getr (b := 29) (pc := 51) F sh_25 (by decide) fw_RX10_21_10 dX10_copy_51 rfl (fx_25_3 F5) ?_
  refine mh_iconst (pc := 54) F dX10_copy_54 ?_
  refine mh_iconst (pc := 55) F dX10_copy_55 ?_
  refine mh_copy (pc := 56) F (by omega) sh_54 sh_29 (by decide) (by decide) (by decide) cw_RX10 cw_nat cw_stat cw_ini (by omega) (by omega) (by omega) (by omega) (by omega) (fun _ _ _ => rfl) dX10_copy_56 (Nat.le_of_ble_eq_true rfl) ?_
  refine mh_nmh (fun h7 e7 => ?_)
  have F7 : mh_FX h7 := by rw [e7]; exact F5.cp rfl
  have frc7 : mh_fr [29] h5 h7 := mh_fr.cp e7
  have r25_8 : h7 25 = h 25 := (frc7 _ (by decide)).trans r25_6
  have r26_8 : h7 26 = mh_cpR (h 51) (h 26) 0 0 9 := (frc7 _ (by decide)).trans r26_6
  have r27_8 : h7 27 = mh_cpR (h 52) (h 27) 0 0 9 := (frc7 _ (by decide)).trans r27_6
  have r28_8 : h7 28 = mh_cpR (h 53) (h 28) 0 0 9 := (frc7 _ (by decide)).trans r28_x
  have fr8 : mh_fr [29, 28, 27, 26] h h7 := (mh_fr.tr fr6 frc7).mono (by simp)
  have r29_x : h7 29 = mh_cpR (h 54) (h 29) 0 0 4 := by rw [e7, mh_cpH_rs, fr6 54 (by simp), fr6 29 (by simp)]
  refine mh_aload1 (pc := 59) F dX10_copy_59 ?_
  refine mh_getr (b := 55) (pc := 60) F sh_50 (by decide) fw_RX10_24_10 dX10_copy_60 rfl (fx_50_4 F7) ?_
  refine mh_iconst (pc := 63) F dX10_copy_63 ?_
  refine mh_aload0 (pc := 64) F dX10_copy_64 ?_
  refine mh_getr (b := 30) (pc := 65) F sh_25 (by decide) fw_RX10_24_10 dX10_copy_65 rfl (fx_25_4 F7) ?_
  refine mh_iconst (pc := 68) F dX10_copy_68 ?_
  refine mh_iconst (pc := 69) F dX10_copy_69 ?_
  refine mh_copy (pc := 70) F (by omega) sh_55 sh_30 (by decide) (by decide) (by decide) cw_RX10 cw_nat cw_stat cw_ini (by omega) (by omega) (by omega) (by omega) (by omega) (fun _ _ _ => rfl) dX10_copy_70 (Nat.le_of_ble_eq_true rfl) ?_
  refine mh_nmh (fun h9 e9 => ?_)
  have F9 : mh_FX h9 := by rw [e9]; exact F7.cp rfl
  have frc9 : mh_fr [30] h7 h9 := mh_fr.cp e9
  have r25_10 : h9 25 = h 25 := (frc9 _ (by decide)).trans r25_8
  have r26_10 : h9 26 = mh_cpR (h 51) (h 26) 0 0 9 := (frc9 _ (by decide)).trans r26_8
  have r27_10 : h9 27 = mh_cpR (h 52) (h 27) 0 0 9 := (frc9 _ (by decide)).trans r27_8
  have r28_10 : h9 28 = mh_cpR (h 53) (h 28) 0 0 9 := (frc9 _ (by decide)).trans r28_8
  have r29_10 : h9 29 = mh_cpR (h 54) (h 29) 0 0 4 := (frc9 _ (by decide)).trans r29_x
  have fr10 : mh_fr [30, 29, 28, 27, 26] h h9 := (mh_fr.tr fr8 frc9).mono (by simp)
  have r30_x : h9 30 = mh_cpR (h 55) (h 30) 0 0 4 := by rw [e9, mh_cpH_rs, fr8 55 (by simp), fr8 30 (by simp)]
  refine mh_iconst (pc := 73) F dX10_copy_73 ?_
  refine mh_istore2 (pc := 74) F dX10_copy_74 rfl (by decide) ?_
  refine mh_iload2 (pc := 75) F dX10_copy_75 ?_
  refine mh_bipush (pc := 76) F dX10_copy_76 rfl ?_
  refine mh_icmp_ge (pc := 78) (tgt := 102) F dX10_copy_78 rfl (by omega) (by omega) (fun c_78 => ?_) (fun c_78 => ?_)
  · exact absurd c_78 (by decide)
  · refine mh_aload0 (pc := 81) F dX10_copy_81 ?_
    refine mh_getr (b := 31) (pc := 82) F sh_25 (by decide) fw_RX10_29_10 dX10_copy_82 rfl (fx_25_5 F9) ?_
    refine mh_iload2 (pc := 85) F dX10_copy_85 ?_
    refine mh_aaload (b := 44) (pc := 86) F sh_31 (by decide) (by decide) (by omega) dX10_copy_86 (fx_31_0 F9) ?_
    refine mh_aload1 (pc := 87) F dX10_copy_87 ?_
    refine mh_getr (b := 56) (pc := 88) F sh_50 (by decide) fw_RX10_29_10 dX10_copy_88 rfl (fx_50_5 F9) ?_
    refine mh_iload2 (pc := 91) F dX10_copy_91 ?_
    refine mh_aaload (b := 69) (pc := 92) F sh_56 (by decide) (by decide) (by omega) dX10_copy_92 (fx_56_0 F9) ?_
    refine mh_callV0 (pc := 93) (As := [.ref 69]) (st := []) F (by omega) (k0_copy (by omega) F9 rfl rfl (show sc_A 44 by unfold sc_A; omega) (show sc_A 69 by unfold sc_A; omega) (by decide) (by rw [fr10 69 (by simp)]; exact hco 0 (by decide) (by decide))) wv_RX10_79_yX0_copy dX10_copy_93 sh_44 rfl (by decide) rfl rfl (Nat.le_of_ble_eq_true rfl) ⟨Nat.zero_le _, Nat.zero_le _⟩ (fun r11 h11 q11 => ?_)
    obtain ⟨rfl, F11, frc44, qC44⟩ := q11
    rw [fr10 44 (by simp), fr10 69 (by simp)] at qC44
    have r25_12 : h11 25 = h 25 := (frc44 _ (by decide)).trans r25_10
    have r26_12 : h11 26 = mh_cpR (h 51) (h 26) 0 0 9 := (frc44 _ (by decide)).trans r26_10
    have r27_12 : h11 27 = mh_cpR (h 52) (h 27) 0 0 9 := (frc44 _ (by decide)).trans r27_10
    have r28_12 : h11 28 = mh_cpR (h 53) (h 28) 0 0 9 := (frc44 _ (by decide)).trans r28_10
    have r29_12 : h11 29 = mh_cpR (h 54) (h 29) 0 0 4 := (frc44 _ (by decide)).trans r29_10
    have r30_12 : h11 30 = mh_cpR (h 55) (h 30) 0 0 4 := (frc44 _ (by decide)).trans r30_x
    have fr12 : mh_fr [44, 30, 29, 28, 27, 26] h h11 := (mh_fr.tr fr10 frc44).mono (by simp)
    refine mh_iinc2 (pc := 96) F dX10_copy_96 rfl (by decide) ?_
    refine mh_goto (pc := 99) (tgt := 75) F dX10_copy_99 rfl ?_
    refine mh_iload2 (pc := 75) F dX10_copy_75 ?_
    refine mh_bipush (pc := 76) F dX10_copy_76 rfl ?_
    refine mh_icmp_ge (pc := 78) (tgt := 102) F dX10_copy_78 rfl (by omega) (by omega) (fun c_78 => ?_) (fun c_78 => ?_)
    · exact absurd c_78 (by decide)
    · refine mh_aload0 (pc := 81) F dX10_copy_81 ?_
      refine mh_getr (b := 31) (pc := 82) F sh_25 (by decide) fw_RX10_29_10 dX10_copy_82 rfl (fx_25_5 F11) ?_
      refine mh_iload2 (pc := 85) F dX10_copy_85 ?_
      refine mh_aaload (b := 45) (pc := 86) F sh_31 (by decide) (by decide) (by omega) dX10_copy_86 (fx_31_1 F11) ?_
      refine mh_aload1 (pc := 87) F dX10_copy_87 ?_
      refine mh_getr (b := 56) (pc := 88) F sh_50 (by decide) fw_RX10_29_10 dX10_copy_88 rfl (fx_50_5 F11) ?_
      refine mh_iload2 (pc := 91) F dX10_copy_91 ?_
      refine mh_aaload (b := 70) (pc := 92) F sh_56 (by decide) (by decide) (by omega) dX10_copy_92 (fx_56_1 F11) ?_
      refine mh_callV0 (pc := 93) (As := [.ref 70]) (st := []) F (by omega) (k0_copy (by omega) F11 rfl rfl (show sc_A 45 by unfold sc_A; omega) (show sc_A 70 by unfold sc_A; omega) (by decide) (by rw [fr12 70 (by simp)]; exact hco 1 (by decide) (by decide))) wv_RX10_79_yX0_copy dX10_copy_93 sh_45 rfl (by decide) rfl rfl (Nat.le_of_ble_eq_true rfl) ⟨Nat.zero_le _, Nat.zero_le _⟩ (fun r13 h13 q13 => ?_)
      obtain ⟨rfl, F13, frc45, qC45⟩ := q13
      rw [fr12 45 (by simp), fr12 70 (by simp)] at qC45
      have r25_14 : h13 25 = h 25 := (frc45 _ (by decide)).trans r25_12
      have r26_14 : h13 26 = mh_cpR (h 51) (h 26) 0 0 9 := (frc45 _ (by decide)).trans r26_12
      have r27_14 : h13 27 = mh_cpR (h 52) (h 27) 0 0 9 := (frc45 _ (by decide)).trans r27_12
      have r28_14 : h13 28 = mh_cpR (h 53) (h 28) 0 0 9 := (frc45 _ (by decide)).trans r28_12
      have r29_14 : h13 29 = mh_cpR (h 54) (h 29) 0 0 4 := (frc45 _ (by decide)).trans r29_12
      have r30_14 : h13 30 = mh_cpR (h 55) (h 30) 0 0 4 := (frc45 _ (by decide)).trans r30_12
      have r44_14 : h13 44 = sc_cp (h 44) (h 69) := (frc45 _ (by decide)).trans qC44
      have fr14 : mh_fr [45, 44, 30, 29, 28, 27, 26] h h13 := (mh_fr.tr fr12 frc45).mono (by simp)
      refine mh_iinc2 (pc := 96) F dX10_copy_96 rfl (by decide) ?_
      refine mh_goto (pc := 99) (tgt := 75) F dX10_copy_99 rfl ?_
      refine mh_iload2 (pc := 75) F dX10_copy_75 ?_
      refine mh_bipush (pc := 76) F dX10_copy_76 rfl ?_
      refine mh_icmp_ge (pc := 78) (tgt := 102) F dX10_copy_78 rfl (by omega) (by omega) (fun c_78 => ?_) (fun c_78 => ?_)
      · exact absurd c_78 (by decide)
      · refine mh_aload0 (pc := 81) F dX10_copy_81 ?_
        refine mh_getr (b := 31) (pc := 82) F sh_25 (by decide) fw_RX10_29_10 dX10_copy_82 rfl (fx_25_5 F13) ?_
        refine mh_iload2 (pc := 85) F dX10_copy_85 ?_
        refine mh_aaload (b := 46) (pc := 86) F sh_31 (by decide) (by decide) (by omega) dX10_copy_86 (fx_31_2 F13) ?_
        refine mh_aload1 (pc := 87) F dX10_copy_87 ?_
        refine mh_getr (b := 56) (pc := 88) F sh_50 (by decide) fw_RX10_29_10 dX10_copy_88 rfl (fx_50_5 F13) ?_
        refine mh_iload2 (pc := 91) F dX10_copy_91 ?_
        refine mh_aaload (b := 71) (pc := 92) F sh_56 (by decide) (by decide) (by omega) dX10_copy_92 (fx_56_2 F13) ?_
        refine mh_callV0 (pc := 93) (As := [.ref 71]) (st := []) F (by omega) (k0_copy (by omega) F13 rfl rfl (show sc_A 46 by unfold sc_A; omega) (show sc_A 71 by unfold sc_A; omega) (by decide) (by rw [fr14 71 (by simp)]; exact hco 2 (by decide) (by decide))) wv_RX10_79_yX0_copy dX10_copy_93 sh_46 rfl (by decide) rfl rfl (Nat.le_of_ble_eq_true rfl) ⟨Nat.zero_le _, Nat.zero_le _⟩ (fun r15 h15 q15 => ?_)
        obtain ⟨rfl, F15, frc46, qC46⟩ := q15
        rw [fr14 46 (by simp), fr14 71 (by simp)] at qC46
        have r25_16 : h15 25 = h 25 := (frc46 _ (by decide)).trans r25_14
        have r26_16 : h15 26 = mh_cpR (h 51) (h 26) 0 0 9 := (frc46 _ (by decide)).trans r26_14
        have r27_16 : h15 27 = mh_cpR (h 52) (h 27) 0 0 9 := (frc46 _ (by decide)).trans r27_14
        have r28_16 : h15 28 = mh_cpR (h 53) (h 28) 0 0 9 := (frc46 _ (by decide)).trans r28_14
        have r29_16 : h15 29 = mh_cpR (h 54) (h 29) 0 0 4 := (frc46 _ (by decide)).trans r29_14
        have r30_16 : h15 30 = mh_cpR (h 55) (h 30) 0 0 4 := (frc46 _ (by decide)).trans r30_14
        have r44_16 : h15 44 = sc_cp (h 44) (h 69) := (frc46 _ (by decide)).trans r44_14
        have r45_16 : h15 45 = sc_cp (h 45) (h 70) := (frc46 _ (by decide)).trans qC45
        have fr16 : mh_fr [46, 45, 44, 30, 29, 28, 27, 26] h h15 := (mh_fr.tr fr14 frc46).mono (by simp)
        refine mh_iinc2 (pc := 96) F dX10_copy_96 rfl (by decide) ?_
        refine mh_goto (pc := 99) (tgt := 75) F dX10_copy_99 rfl ?_
        refine mh_iload2 (pc := 75) F dX10_copy_75 ?_
        refine mh_bipush (pc := 76) F dX10_copy_76 rfl ?_
        refine mh_icmp_ge (pc := 78) (tgt := 102) F dX10_copy_78 rfl (by omega) (by omega) (fun c_78 => ?_) (fun c_78 => ?_)
        · exact absurd c_78 (by decide)
        · refine mh_aload0 (pc := 81) F dX10_copy_81 ?_
          refine mh_getr (b := 31) (pc := 82) F sh_25 (by decide) fw_RX10_29_10 dX10_copy_82 rfl (fx_25_5 F15) ?_
          refine mh_iload2 (pc := 85) F dX10_copy_85 ?_
          refine mh_aaload (b := 47) (pc := 86) F sh_31 (by decide) (by decide) (by omega) dX10_copy_86 (fx_31_3 F15) ?_
          refine mh_aload1 (pc := 87) F dX10_copy_87 ?_
          refine mh_getr (b := 56) (pc := 88) F sh_50 (by decide) fw_RX10_29_10 dX10_copy_88 rfl (fx_50_5 F15) ?_
          refine mh_iload2 (pc := 91) F dX10_copy_91 ?_
          refine mh_aaload (b := 72) (pc := 92) F sh_56 (by decide) (by decide) (by omega) dX10_copy_92 (fx_56_3 F15) ?_
          refine mh_callV0 (pc := 93) (As := [.ref 72]) (st := []) F (by omega) (k0_copy (by omega) F15 rfl rfl (show sc_A 47 by unfold sc_A; omega) (show sc_A 72 by unfold sc_A; omega) (by decide) (by rw [fr16 72 (by simp)]; exact hco 3 (by decide) (by decide))) wv_RX10_79_yX0_copy dX10_copy_93 sh_47 rfl (by decide) rfl rfl (Nat.le_of_ble_eq_true rfl) ⟨Nat.zero_le _, Nat.zero_le _⟩ (fun r17 h17 q17 => ?_)
          obtain ⟨rfl, F17, frc47, qC47⟩ := q17
          rw [fr16 47 (by simp), fr16 72 (by simp)] at qC47
          have r25_18 : h17 25 = h 25 := (frc47 _ (by decide)).trans r25_16
          have r26_18 : h17 26 = mh_cpR (h 51) (h 26) 0 0 9 := (frc47 _ (by decide)).trans r26_16
          have r27_18 : h17 27 = mh_cpR (h 52) (h 27) 0 0 9 := (frc47 _ (by decide)).trans r27_16
          have r28_18 : h17 28 = mh_cpR (h 53) (h 28) 0 0 9 := (frc47 _ (by decide)).trans r28_16
          have r29_18 : h17 29 = mh_cpR (h 54) (h 29) 0 0 4 := (frc47 _ (by decide)).trans r29_16
          have r30_18 : h17 30 = mh_cpR (h 55) (h 30) 0 0 4 := (frc47 _ (by decide)).trans r30_16
          have r44_18 : h17 44 = sc_cp (h 44) (h 69) := (frc47 _ (by decide)).trans r44_16
          have r45_18 : h17 45 = sc_cp (h 45) (h 70) := (frc47 _ (by decide)).trans r45_16
          have r46_18 : h17 46 = sc_cp (h 46) (h 71) := (frc47 _ (by decide)).trans qC46
          have fr18 : mh_fr [47, 46, 45, 44, 30, 29, 28, 27, 26] h h17 := (mh_fr.tr fr16 frc47).mono (by simp)
          refine mh_iinc2 (pc := 96) F dX10_copy_96 rfl (by decide) ?_
          refine mh_goto (pc := 99) (tgt := 75) F dX10_copy_99 rfl ?_
          refine mh_iload2 (pc := 75) F dX10_copy_75 ?_
          refine mh_bipush (pc := 76) F dX10_copy_76 rfl ?_
          refine mh_icmp_ge (pc := 78) (tgt := 102) F dX10_copy_78 rfl (by omega) (by omega) (fun c_78 => ?_) (fun c_78 => ?_)
          · exact absurd c_78 (by decide)
          · refine mh_aload0 (pc := 81) F dX10_copy_81 ?_
            refine mh_getr (b := 31) (pc := 82) F sh_25 (by decide) fw_RX10_29_10 dX10_copy_82 rfl (fx_25_5 F17) ?_
            refine mh_iload2 (pc := 85) F dX10_copy_85 ?_
            refine mh_aaload (b := 48) (pc := 86) F sh_31 (by decide) (by decide) (by omega) dX10_copy_86 (fx_31_4 F17) ?_
            refine mh_aload1 (pc := 87) F dX10_copy_87 ?_
            refine mh_getr (b := 56) (pc := 88) F sh_50 (by decide) fw_RX10_29_10 dX10_copy_88 rfl (fx_50_5 F17) ?_
            refine mh_iload2 (pc := 91) F dX10_copy_91 ?_
            refine mh_aaload (b := 73) (pc := 92) F sh_56 (by decide) (by decide) (by omega) dX10_copy_92 (fx_56_4 F17) ?_
            refine mh_callV0 (pc := 93) (As := [.ref 73]) (st := []) F (by omega) (k0_copy (by omega) F17 rfl rfl (show sc_A 48 by unfold sc_A; omega) (show sc_A 73 by unfold sc_A; omega) (by decide) (by rw [fr18 73 (by simp)]; exact hco 4 (by decide) (by decide))) wv_RX10_79_yX0_copy dX10_copy_93 sh_48 rfl (by decide) rfl rfl (Nat.le_of_ble_eq_true rfl) ⟨Nat.zero_le _, Nat.zero_le _⟩ (fun r19 h19 q19 => ?_)
            obtain ⟨rfl, F19, frc48, qC48⟩ := q19
            rw [fr18 48 (by simp), fr18 73 (by simp)] at qC48
            have r25_20 : h19 25 = h 25 := (frc48 _ (by decide)).trans r25_18
            have r26_20 : h19 26 = mh_cpR (h 51) (h 26) 0 0 9 := (frc48 _ (by decide)).trans r26_18
            have r27_20 : h19 27 = mh_cpR (h 52) (h 27) 0 0 9 := (frc48 _ (by decide)).trans r27_18
            have r28_20 : h19 28 = mh_cpR (h 53) (h 28) 0 0 9 := (frc48 _ (by decide)).trans r28_18
            have r29_20 : h19 29 = mh_cpR (h 54) (h 29) 0 0 4 := (frc48 _ (by decide)).trans r29_18
            have r30_20 : h19 30 = mh_cpR (h 55) (h 30) 0 0 4 := (frc48 _ (by decide)).trans r30_18
            have r44_20 : h19 44 = sc_cp (h 44) (h 69) := (frc48 _ (by decide)).trans r44_18
            have r45_20 : h19 45 = sc_cp (h 45) (h 70) := (frc48 _ (by decide)).trans r45_18
            have r46_20 : h19 46 = sc_cp (h 46) (h 71) := (frc48 _ (by decide)).trans r46_18
            have r47_20 : h19 47 = sc_cp (h 47) (h 72) := (frc48 _ (by decide)).trans qC47
            have fr20 : mh_fr [48, 47, 46, 45, 44, 30, 29, 28, 27, 26] h h19 := (mh_fr.tr fr18 frc48).mono (by simp)
            refine mh_iinc2 (pc := 96) F dX10_copy_96 rfl (by decide) ?_
            refine mh_goto (pc := 99) (tgt := 75) F dX10_copy_99 rfl ?_
            refine mh_iload2 (pc := 75) F dX10_copy_75 ?_
            refine mh_bipush (pc := 76) F dX10_copy_76 rfl ?_
            refine mh_icmp_ge (pc := 78) (tgt := 102) F dX10_copy_78 rfl (by omega) (by omega) (fun c_78 => ?_) (fun c_78 => ?_)
            · exact absurd c_78 (by decide)
            · refine mh_aload0 (pc := 81) F dX10_copy_81 ?_
              refine mh_getr (b := 31) (pc := 82) F sh_25 (by decide) fw_RX10_29_10 dX10_copy_82 rfl (fx_25_5 F19) ?_
              refine mh_iload2 (pc := 85) F dX10_copy_85 ?_
              refine mh_aaload (b := 49) (pc := 86) F sh_31 (by decide) (by decide) (by omega) dX10_copy_86 (fx_31_5 F19) ?_
              refine mh_aload1 (pc := 87) F dX10_copy_87 ?_
              refine mh_getr (b := 56) (pc := 88) F sh_50 (by decide) fw_RX10_29_10 dX10_copy_88 rfl (fx_50_5 F19) ?_
              refine mh_iload2 (pc := 91) F dX10_copy_91 ?_
              refine mh_aaload (b := 74) (pc := 92) F sh_56 (by decide) (by decide) (by omega) dX10_copy_92 (fx_56_5 F19) ?_
              refine mh_callV0 (pc := 93) (As := [.ref 74]) (st := []) F (by omega) (k0_copy (by omega) F19 rfl rfl (show sc_A 49 by unfold sc_A; omega) (show sc_A 74 by unfold sc_A; omega) (by decide) (by rw [fr20 74 (by simp)]; exact hco 5 (by decide) (by decide))) wv_RX10_79_yX0_copy dX10_copy_93 sh_49 rfl (by decide) rfl rfl (Nat.le_of_ble_eq_true rfl) ⟨Nat.zero_le _, Nat.zero_le _⟩ (fun r21 h21 q21 => ?_)
              obtain ⟨rfl, F21, frc49, qC49⟩ := q21
              rw [fr20 49 (by simp), fr20 74 (by simp)] at qC49
              have r25_22 : h21 25 = h 25 := (frc49 _ (by decide)).trans r25_20
              have r26_22 : h21 26 = mh_cpR (h 51) (h 26) 0 0 9 := (frc49 _ (by decide)).trans r26_20
              have r27_22 : h21 27 = mh_cpR (h 52) (h 27) 0 0 9 := (frc49 _ (by decide)).trans r27_20
              have r28_22 : h21 28 = mh_cpR (h 53) (h 28) 0 0 9 := (frc49 _ (by decide)).trans r28_20
              have r29_22 : h21 29 = mh_cpR (h 54) (h 29) 0 0 4 := (frc49 _ (by decide)).trans r29_20
              have r30_22 : h21 30 = mh_cpR (h 55) (h 30) 0 0 4 := (frc49 _ (by decide)).trans r30_20
              have r44_22 : h21 44 = sc_cp (h 44) (h 69) := (frc49 _ (by decide)).trans r44_20
              have r45_22 : h21 45 = sc_cp (h 45) (h 70) := (frc49 _ (by decide)).trans r45_20
              have r46_22 : h21 46 = sc_cp (h 46) (h 71) := (frc49 _ (by decide)).trans r46_20
              have r47_22 : h21 47 = sc_cp (h 47) (h 72) := (frc49 _ (by decide)).trans r47_20
              have r48_22 : h21 48 = sc_cp (h 48) (h 73) := (frc49 _ (by decide)).trans qC48
              have fr22 : mh_fr [49, 48, 47, 46, 45, 44, 30, 29, 28, 27, 26] h h21 := (mh_fr.tr fr20 frc49).mono (by simp)
              refine mh_iinc2 (pc := 96) F dX10_copy_96 rfl (by decide) ?_
              refine mh_goto (pc := 99) (tgt := 75) F dX10_copy_99 rfl ?_
              refine mh_iload2 (pc := 75) F dX10_copy_75 ?_
              refine mh_bipush (pc := 76) F dX10_copy_76 rfl ?_
              refine mh_icmp_ge (pc := 78) (tgt := 102) F dX10_copy_78 rfl (by omega) (by omega) (fun c_78 => ?_) (fun c_78 => ?_)
              · refine mh_aload0 (pc := 102) F dX10_copy_102 ?_
                refine mh_aload1 (pc := 103) F dX10_copy_103 ?_
                refine mh_geti (pc := 104) F sh_50 (by decide) fw_RX10_83_10 dX10_copy_104 rfl ?_
                refine mh_top (y := h 50 6) (mh_eqI (congrFun (fr22 50 (by simp)) 6)) ?_
                refine mh_puti (pc := 107) F sh_25 (by decide) pw_RX10_83_10 dX10_copy_107 ?_
                refine mh_nmh (fun h23 e23 => ?_)
                have F23 : mh_FX h23 := by rw [e23]; exact F21.upz rfl
                have r25_23 : h23 25 = mh_ur (h 25) 6 (h 50 6) := by rw [e23, mh_up_rs, r25_22] <;> rfl
                have r26_23 : h23 26 = mh_cpR (h 51) (h 26) 0 0 9 := by rw [e23, mh_up_row (by decide)]; exact r26_22
                have r27_23 : h23 27 = mh_cpR (h 52) (h 27) 0 0 9 := by rw [e23, mh_up_row (by decide)]; exact r27_22
                have r28_23 : h23 28 = mh_cpR (h 53) (h 28) 0 0 9 := by rw [e23, mh_up_row (by decide)]; exact r28_22
                have r29_23 : h23 29 = mh_cpR (h 54) (h 29) 0 0 4 := by rw [e23, mh_up_row (by decide)]; exact r29_22
                have r30_23 : h23 30 = mh_cpR (h 55) (h 30) 0 0 4 := by rw [e23, mh_up_row (by decide)]; exact r30_22
                have r44_23 : h23 44 = sc_cp (h 44) (h 69) := by rw [e23, mh_up_row (by decide)]; exact r44_22
                have r45_23 : h23 45 = sc_cp (h 45) (h 70) := by rw [e23, mh_up_row (by decide)]; exact r45_22
                have r46_23 : h23 46 = sc_cp (h 46) (h 71) := by rw [e23, mh_up_row (by decide)]; exact r46_22
                have r47_23 : h23 47 = sc_cp (h 47) (h 72) := by rw [e23, mh_up_row (by decide)]; exact r47_22
                have r48_23 : h23 48 = sc_cp (h 48) (h 73) := by rw [e23, mh_up_row (by decide)]; exact r48_22
                have r49_23 : h23 49 = sc_cp (h 49) (h 74) := by rw [e23, mh_up_row (by decide)]; exact qC49
                have fr23 : mh_fr [25, 49, 48, 47, 46, 45, 44, 30, 29, 28, 27, 26] h h23 := mh_fr.up fr22 e23
                refine mh_aload0 (pc := 110) F dX10_copy_110 ?_
                refine mh_aload1 (pc := 111) F dX10_copy_111 ?_
                refine mh_geti (pc := 112) F sh_50 (by decide) fw_RX10_86_10 dX10_copy_112 rfl ?_
                refine mh_top (y := h 50 7) (mh_eqI (congrFun (fr23 50 (by simp)) 7)) ?_
                refine mh_puti (pc := 115) F sh_25 (by decide) pw_RX10_86_10 dX10_copy_115 ?_
                refine mh_nmh (fun h24 e24 => ?_)
                have F24 : mh_FX h24 := by rw [e24]; exact F23.upz rfl
                have r25_24 : h24 25 = mh_ur (mh_ur (h 25) 6 (h 50 6)) 7 (h 50 7) := by rw [e24, mh_up_rs, r25_23] <;> rfl
                have r26_24 : h24 26 = mh_cpR (h 51) (h 26) 0 0 9 := by rw [e24, mh_up_row (by decide)]; exact r26_23
                have r27_24 : h24 27 = mh_cpR (h 52) (h 27) 0 0 9 := by rw [e24, mh_up_row (by decide)]; exact r27_23
                have r28_24 : h24 28 = mh_cpR (h 53) (h 28) 0 0 9 := by rw [e24, mh_up_row (by decide)]; exact r28_23
                have r29_24 : h24 29 = mh_cpR (h 54) (h 29) 0 0 4 := by rw [e24, mh_up_row (by decide)]; exact r29_23
                have r30_24 : h24 30 = mh_cpR (h 55) (h 30) 0 0 4 := by rw [e24, mh_up_row (by decide)]; exact r30_23
                have r44_24 : h24 44 = sc_cp (h 44) (h 69) := by rw [e24, mh_up_row (by decide)]; exact r44_23
                have r45_24 : h24 45 = sc_cp (h 45) (h 70) := by rw [e24, mh_up_row (by decide)]; exact r45_23
                have r46_24 : h24 46 = sc_cp (h 46) (h 71) := by rw [e24, mh_up_row (by decide)]; exact r46_23
                have r47_24 : h24 47 = sc_cp (h 47) (h 72) := by rw [e24, mh_up_row (by decide)]; exact r47_23
                have r48_24 : h24 48 = sc_cp (h 48) (h 73) := by rw [e24, mh_up_row (by decide)]; exact r48_23
                have r49_24 : h24 49 = sc_cp (h 49) (h 74) := by rw [e24, mh_up_row (by decide)]; exact r49_23
                have fr24 : mh_fr [25, 49, 48, 47, 46, 45, 44, 30, 29, 28, 27, 26] h h24 := mh_fr.upi fr23 e24 (by simp)
                refine mh_aload0 (pc := 118) F dX10_copy_118 ?_
                refine mh_aload1 (pc := 119) F dX10_copy_119 ?_
                refine mh_geti (pc := 120) F sh_50 (by decide) fw_RX10_89_10 dX10_copy_120 rfl ?_
                refine mh_top (y := h 50 8) (mh_eqI (congrFun (fr24 50 (by simp)) 8)) ?_
                refine mh_puti (pc := 123) F sh_25 (by decide) pw_RX10_89_10 dX10_copy_123 ?_
                refine mh_nmh (fun h25 e25 => ?_)
                have F25 : mh_FX h25 := by rw [e25]; exact F24.upz rfl
                have r25_25 : h25 25 = mh_ur (mh_ur (mh_ur (h 25) 6 (h 50 6)) 7 (h 50 7)) 8 (h 50 8) := by rw [e25, mh_up_rs, r25_24] <;> rfl
                have r26_25 : h25 26 = mh_cpR (h 51) (h 26) 0 0 9 := by rw [e25, mh_up_row (by decide)]; exact r26_24
                have r27_25 : h25 27 = mh_cpR (h 52) (h 27) 0 0 9 := by rw [e25, mh_up_row (by decide)]; exact r27_24
                have r28_25 : h25 28 = mh_cpR (h 53) (h 28) 0 0 9 := by rw [e25, mh_up_row (by decide)]; exact r28_24
                have r29_25 : h25 29 = mh_cpR (h 54) (h 29) 0 0 4 := by rw [e25, mh_up_row (by decide)]; exact r29_24
                have r30_25 : h25 30 = mh_cpR (h 55) (h 30) 0 0 4 := by rw [e25, mh_up_row (by decide)]; exact r30_24
                have r44_25 : h25 44 = sc_cp (h 44) (h 69) := by rw [e25, mh_up_row (by decide)]; exact r44_24
                have r45_25 : h25 45 = sc_cp (h 45) (h 70) := by rw [e25, mh_up_row (by decide)]; exact r45_24
                have r46_25 : h25 46 = sc_cp (h 46) (h 71) := by rw [e25, mh_up_row (by decide)]; exact r46_24
                have r47_25 : h25 47 = sc_cp (h 47) (h 72) := by rw [e25, mh_up_row (by decide)]; exact r47_24
                have r48_25 : h25 48 = sc_cp (h 48) (h 73) := by rw [e25, mh_up_row (by decide)]; exact r48_24
                have r49_25 : h25 49 = sc_cp (h 49) (h 74) := by rw [e25, mh_up_row (by decide)]; exact r49_24
                have fr25 : mh_fr [25, 49, 48, 47, 46, 45, 44, 30, 29, 28, 27, 26] h h25 := mh_fr.upi fr24 e25 (by simp)
                refine mh_aload1 (pc := 126) F dX10_copy_126 ?_
                refine mh_getr (b := 57) (pc := 127) F sh_50 (by decide) fw_RX10_33_10 dX10_copy_127 rfl (fx_50_9 F25) ?_
                refine mh_iconst (pc := 130) F dX10_copy_130 ?_
                refine mh_aload0 (pc := 131) F dX10_copy_131 ?_
                refine mh_getr (b := 32) (pc := 132) F sh_25 (by decide) fw_RX10_33_10 dX10_copy_132 rfl (fx_25_9 F25) ?_
                refine mh_iconst (pc := 135) F dX10_copy_135 ?_
                refine mh_bipush (pc := 136) F dX10_copy_136 rfl ?_
                refine mh_copy (pc := 138) F (by omega) sh_57 sh_32 (by decide) (by decide) (by decide) cw_RX10 cw_nat cw_stat cw_ini (by omega) (by omega) (by omega) (by omega) (by omega) (fun i i0 i1 => by rw [congrFun (fr25 57 (by simp)) i]; exact mh_fitb (hby i i0 (by omega))) dX10_copy_138 (Nat.le_of_ble_eq_true rfl) ?_
                refine mh_nmh (fun h26 e26 => ?_)
                have F26 : mh_FX h26 := by rw [e26]; exact F25.cp rfl
                have frc26 : mh_fr [32] h25 h26 := mh_fr.cp e26
                have r25_27 : h26 25 = mh_ur (mh_ur (mh_ur (h 25) 6 (h 50 6)) 7 (h 50 7)) 8 (h 50 8) := (frc26 _ (by decide)).trans r25_25
                have r26_27 : h26 26 = mh_cpR (h 51) (h 26) 0 0 9 := (frc26 _ (by decide)).trans r26_25
                have r27_27 : h26 27 = mh_cpR (h 52) (h 27) 0 0 9 := (frc26 _ (by decide)).trans r27_25
                have r28_27 : h26 28 = mh_cpR (h 53) (h 28) 0 0 9 := (frc26 _ (by decide)).trans r28_25
                have r29_27 : h26 29 = mh_cpR (h 54) (h 29) 0 0 4 := (frc26 _ (by decide)).trans r29_25
                have r30_27 : h26 30 = mh_cpR (h 55) (h 30) 0 0 4 := (frc26 _ (by decide)).trans r30_25
                have r44_27 : h26 44 = sc_cp (h 44) (h 69) := (frc26 _ (by decide)).trans r44_25
                have r45_27 : h26 45 = sc_cp (h 45) (h 70) := (frc26 _ (by decide)).trans r45_25
                have r46_27 : h26 46 = sc_cp (h 46) (h 71) := (frc26 _ (by decide)).trans r46_25
                have r47_27 : h26 47 = sc_cp (h 47) (h 72) := (frc26 _ (by decide)).trans r47_25
                have r48_27 : h26 48 = sc_cp (h 48) (h 73) := (frc26 _ (by decide)).trans r48_25
                have r49_27 : h26 49 = sc_cp (h 49) (h 74) := (frc26 _ (by decide)).trans r49_25
                have fr27 : mh_fr [32, 25, 49, 48, 47, 46, 45, 44, 30, 29, 28, 27, 26] h h26 := (mh_fr.tr fr25 frc26).mono (by simp)
                have r32_x : h26 32 = mh_cpR (h 57) (h 32) 0 0 50 := by rw [e26, mh_cpH_rs, fr25 57 (by simp), fr25 32 (by simp)]
                refine mh_aload0 (pc := 141) F dX10_copy_141 ?_
                refine mh_aload1 (pc := 142) F dX10_copy_142 ?_
                refine mh_geti (pc := 143) F sh_50 (by decide) fw_RX10_92_10 dX10_copy_143 rfl ?_
                refine mh_top (y := h 50 10) (mh_eqI (congrFun (fr27 50 (by simp)) 10)) ?_
                refine mh_puti (pc := 146) F sh_25 (by decide) pw_RX10_92_10 dX10_copy_146 ?_
                refine mh_nmh (fun h28 e28 => ?_)
                have F28 : mh_FX h28 := by rw [e28]; exact F26.upz rfl
                have r25_28 : h28 25 = mh_ur (mh_ur (mh_ur (mh_ur (h 25) 6 (h 50 6)) 7 (h 50 7)) 8 (h 50 8)) 10 (h 50 10) := by rw [e28, mh_up_rs, r25_27] <;> rfl
                have r26_28 : h28 26 = mh_cpR (h 51) (h 26) 0 0 9 := by rw [e28, mh_up_row (by decide)]; exact r26_27
                have r27_28 : h28 27 = mh_cpR (h 52) (h 27) 0 0 9 := by rw [e28, mh_up_row (by decide)]; exact r27_27
                have r28_28 : h28 28 = mh_cpR (h 53) (h 28) 0 0 9 := by rw [e28, mh_up_row (by decide)]; exact r28_27
                have r29_28 : h28 29 = mh_cpR (h 54) (h 29) 0 0 4 := by rw [e28, mh_up_row (by decide)]; exact r29_27
                have r30_28 : h28 30 = mh_cpR (h 55) (h 30) 0 0 4 := by rw [e28, mh_up_row (by decide)]; exact r30_27
                have r44_28 : h28 44 = sc_cp (h 44) (h 69) := by rw [e28, mh_up_row (by decide)]; exact r44_27
                have r45_28 : h28 45 = sc_cp (h 45) (h 70) := by rw [e28, mh_up_row (by decide)]; exact r45_27
                have r46_28 : h28 46 = sc_cp (h 46) (h 71) := by rw [e28, mh_up_row (by decide)]; exact r46_27
                have r47_28 : h28 47 = sc_cp (h 47) (h 72) := by rw [e28, mh_up_row (by decide)]; exact r47_27
                have r48_28 : h28 48 = sc_cp (h 48) (h 73) := by rw [e28, mh_up_row (by decide)]; exact r48_27
                have r49_28 : h28 49 = sc_cp (h 49) (h 74) := by rw [e28, mh_up_row (by decide)]; exact r49_27
                have r32_28 : h28 32 = mh_cpR (h 57) (h 32) 0 0 50 := by rw [e28, mh_up_row (by decide)]; exact r32_x
                have fr28 : mh_fr [32, 25, 49, 48, 47, 46, 45, 44, 30, 29, 28, 27, 26] h h28 := mh_fr.upi fr27 e28 (by simp)
                refine mh_aload0 (pc := 149) F dX10_copy_149 ?_
                refine mh_getr (b := 33) (pc := 150) F sh_25 (by decide) fw_RX10_46_10 dX10_copy_150 rfl (fx_25_11 F28) ?_
                refine mh_aload1 (pc := 153) F dX10_copy_153 ?_
                refine mh_getr (b := 58) (pc := 154) F sh_50 (by decide) fw_RX10_46_10 dX10_copy_154 rfl (fx_50_11 F28) ?_
                refine mh_callV0 (pc := 157) (As := [.ref 58]) (st := []) F (by omega) (k16_tcopy_33 (by omega) F28) wv_RX10_95_yX9_copy dX10_copy_157 sh_33 rfl (by decide) rfl rfl (Nat.le_of_ble_eq_true rfl) ⟨Nat.zero_le _, Nat.zero_le _⟩ (fun r29 h29 q29 => ?_)
                obtain ⟨rfl, F29, frt33, qc33, qt33⟩ := q29
                rw [fr28 59 (by simp), fr28 34 (by simp)] at qc33
                rw [fr28 33 (by simp), fr28 58 (by simp)] at qt33
                have r25_30 : h29 25 = mh_ur (mh_ur (mh_ur (mh_ur (h 25) 6 (h 50 6)) 7 (h 50 7)) 8 (h 50 8)) 10 (h 50 10) := (frt33 _ (by decide)).trans r25_28
                have r26_30 : h29 26 = mh_cpR (h 51) (h 26) 0 0 9 := (frt33 _ (by decide)).trans r26_28
                have r27_30 : h29 27 = mh_cpR (h 52) (h 27) 0 0 9 := (frt33 _ (by decide)).trans r27_28
                have r28_30 : h29 28 = mh_cpR (h 53) (h 28) 0 0 9 := (frt33 _ (by decide)).trans r28_28
                have r29_30 : h29 29 = mh_cpR (h 54) (h 29) 0 0 4 := (frt33 _ (by decide)).trans r29_28
                have r30_30 : h29 30 = mh_cpR (h 55) (h 30) 0 0 4 := (frt33 _ (by decide)).trans r30_28
                have r44_30 : h29 44 = sc_cp (h 44) (h 69) := (frt33 _ (by decide)).trans r44_28
                have r45_30 : h29 45 = sc_cp (h 45) (h 70) := (frt33 _ (by decide)).trans r45_28
                have r46_30 : h29 46 = sc_cp (h 46) (h 71) := (frt33 _ (by decide)).trans r46_28
                have r47_30 : h29 47 = sc_cp (h 47) (h 72) := (frt33 _ (by decide)).trans r47_28
                have r48_30 : h29 48 = sc_cp (h 48) (h 73) := (frt33 _ (by decide)).trans r48_28
                have r49_30 : h29 49 = sc_cp (h 49) (h 74) := (frt33 _ (by decide)).trans r49_28
                have r32_30 : h29 32 = mh_cpR (h 57) (h 32) 0 0 50 := (frt33 _ (by decide)).trans r32_28
                have fr30 : mh_fr [33, 34, 32, 25, 49, 48, 47, 46, 45, 44, 30, 29, 28, 27, 26] h h29 := (mh_fr.tr fr28 frt33).mono (by simp)
                refine mh_aload0 (pc := 160) F dX10_copy_160 ?_
                refine mh_getr (b := 38) (pc := 161) F sh_25 (by decide) fw_RX10_54_10 dX10_copy_161 rfl (fx_25_12 F29) ?_
                refine mh_aload1 (pc := 164) F dX10_copy_164 ?_
                refine mh_getr (b := 63) (pc := 165) F sh_50 (by decide) fw_RX10_54_10 dX10_copy_165 rfl (fx_50_12 F29) ?_
                refine mh_callV0 (pc := 168) (As := [.ref 63]) (st := []) F (by omega) (k16_tcopy_38 (by omega) F29) wv_RX10_95_yX9_copy dX10_copy_168 sh_38 rfl (by decide) rfl rfl (Nat.le_of_ble_eq_true rfl) ⟨Nat.zero_le _, Nat.zero_le _⟩ (fun r31 h31 q31 => ?_)
                obtain ⟨rfl, F31, frt38, qc38, qt38⟩ := q31
                rw [fr30 64 (by simp), fr30 39 (by simp)] at qc38
                rw [fr30 38 (by simp), fr30 63 (by simp)] at qt38
                have r25_32 : h31 25 = mh_ur (mh_ur (mh_ur (mh_ur (h 25) 6 (h 50 6)) 7 (h 50 7)) 8 (h 50 8)) 10 (h 50 10) := (frt38 _ (by decide)).trans r25_30
                have r26_32 : h31 26 = mh_cpR (h 51) (h 26) 0 0 9 := (frt38 _ (by decide)).trans r26_30
                have r27_32 : h31 27 = mh_cpR (h 52) (h 27) 0 0 9 := (frt38 _ (by decide)).trans r27_30
                have r28_32 : h31 28 = mh_cpR (h 53) (h 28) 0 0 9 := (frt38 _ (by decide)).trans r28_30
                have r29_32 : h31 29 = mh_cpR (h 54) (h 29) 0 0 4 := (frt38 _ (by decide)).trans r29_30
                have r30_32 : h31 30 = mh_cpR (h 55) (h 30) 0 0 4 := (frt38 _ (by decide)).trans r30_30
                have r44_32 : h31 44 = sc_cp (h 44) (h 69) := (frt38 _ (by decide)).trans r44_30
                have r45_32 : h31 45 = sc_cp (h 45) (h 70) := (frt38 _ (by decide)).trans r45_30
                have r46_32 : h31 46 = sc_cp (h 46) (h 71) := (frt38 _ (by decide)).trans r46_30
                have r47_32 : h31 47 = sc_cp (h 47) (h 72) := (frt38 _ (by decide)).trans r47_30
                have r48_32 : h31 48 = sc_cp (h 48) (h 73) := (frt38 _ (by decide)).trans r48_30
                have r49_32 : h31 49 = sc_cp (h 49) (h 74) := (frt38 _ (by decide)).trans r49_30
                have r32_32 : h31 32 = mh_cpR (h 57) (h 32) 0 0 50 := (frt38 _ (by decide)).trans r32_30
                have r33_32 : h31 33 = mh_ur (h 33) 3 (h 58 3) := (frt38 _ (by decide)).trans qt33
                have r34_32 : h31 34 = mh_cpR (h 59) (h 34) 0 0 50 := (frt38 _ (by decide)).trans qc33
                have fr32 : mh_fr [38, 39, 33, 34, 32, 25, 49, 48, 47, 46, 45, 44, 30, 29, 28, 27, 26] h h31 := (mh_fr.tr fr30 frt38).mono (by simp)
                refine mh_aload1 (pc := 171) F dX10_copy_171 ?_
                refine mh_getr (b := 68) (pc := 172) F sh_50 (by decide) fw_RX10_57_10 dX10_copy_172 rfl (fx_50_13 F31) ?_
                refine mh_iconst (pc := 175) F dX10_copy_175 ?_
                refine mh_aload0 (pc := 176) F dX10_copy_176 ?_
                refine mh_getr (b := 43) (pc := 177) F sh_25 (by decide) fw_RX10_57_10 dX10_copy_177 rfl (fx_25_13 F31) ?_
                refine mh_iconst (pc := 180) F dX10_copy_180 ?_
                refine mh_bipush (pc := 181) F dX10_copy_181 rfl ?_
                refine mh_copy (pc := 183) F (by omega) sh_68 sh_43 (by decide) (by decide) (by decide) cw_RX10 cw_nat cw_stat cw_ini (by omega) (by omega) (by omega) (by omega) (by omega) (fun _ _ _ => rfl) dX10_copy_183 (Nat.le_of_ble_eq_true rfl) ?_
                refine mh_nmh (fun h33 e33 => ?_)
                have F33 : mh_FX h33 := by rw [e33]; exact F31.cp rfl
                have frc33 : mh_fr [43] h31 h33 := mh_fr.cp e33
                have r25_34 : h33 25 = mh_ur (mh_ur (mh_ur (mh_ur (h 25) 6 (h 50 6)) 7 (h 50 7)) 8 (h 50 8)) 10 (h 50 10) := (frc33 _ (by decide)).trans r25_32
                have r26_34 : h33 26 = mh_cpR (h 51) (h 26) 0 0 9 := (frc33 _ (by decide)).trans r26_32
                have r27_34 : h33 27 = mh_cpR (h 52) (h 27) 0 0 9 := (frc33 _ (by decide)).trans r27_32
                have r28_34 : h33 28 = mh_cpR (h 53) (h 28) 0 0 9 := (frc33 _ (by decide)).trans r28_32
                have r29_34 : h33 29 = mh_cpR (h 54) (h 29) 0 0 4 := (frc33 _ (by decide)).trans r29_32
                have r30_34 : h33 30 = mh_cpR (h 55) (h 30) 0 0 4 := (frc33 _ (by decide)).trans r30_32
                have r44_34 : h33 44 = sc_cp (h 44) (h 69) := (frc33 _ (by decide)).trans r44_32
                have r45_34 : h33 45 = sc_cp (h 45) (h 70) := (frc33 _ (by decide)).trans r45_32
                have r46_34 : h33 46 = sc_cp (h 46) (h 71) := (frc33 _ (by decide)).trans r46_32
                have r47_34 : h33 47 = sc_cp (h 47) (h 72) := (frc33 _ (by decide)).trans r47_32
                have r48_34 : h33 48 = sc_cp (h 48) (h 73) := (frc33 _ (by decide)).trans r48_32
                have r49_34 : h33 49 = sc_cp (h 49) (h 74) := (frc33 _ (by decide)).trans r49_32
                have r32_34 : h33 32 = mh_cpR (h 57) (h 32) 0 0 50 := (frc33 _ (by decide)).trans r32_32
                have r33_34 : h33 33 = mh_ur (h 33) 3 (h 58 3) := (frc33 _ (by decide)).trans r33_32
                have r34_34 : h33 34 = mh_cpR (h 59) (h 34) 0 0 50 := (frc33 _ (by decide)).trans r34_32
                have r38_34 : h33 38 = mh_ur (h 38) 3 (h 63 3) := (frc33 _ (by decide)).trans qt38
                have r39_34 : h33 39 = mh_cpR (h 64) (h 39) 0 0 50 := (frc33 _ (by decide)).trans qc38
                have fr34 : mh_fr [43, 38, 39, 33, 34, 32, 25, 49, 48, 47, 46, 45, 44, 30, 29, 28, 27, 26] h h33 := (mh_fr.tr fr32 frc33).mono (by simp)
                have r43_x : h33 43 = mh_cpR (h 68) (h 43) 0 0 20 := by rw [e33, mh_cpH_rs, fr32 68 (by simp), fr32 43 (by simp)]
                refine mh_aload0 (pc := 186) F dX10_copy_186 ?_
                refine mh_aload1 (pc := 187) F dX10_copy_187 ?_
                refine mh_geti (pc := 188) F sh_50 (by decide) fw_RX10_98_10 dX10_copy_188 rfl ?_
                refine mh_top (y := h 50 14) (mh_eqI (congrFun (fr34 50 (by simp)) 14)) ?_
                refine mh_puti (pc := 191) F sh_25 (by decide) pw_RX10_98_10 dX10_copy_191 ?_
                refine mh_nmh (fun h35 e35 => ?_)
                have F35 : mh_FX h35 := by rw [e35]; exact F33.upz rfl
                have r25_35 : h35 25 = mh_ur (mh_ur (mh_ur (mh_ur (mh_ur (h 25) 6 (h 50 6)) 7 (h 50 7)) 8 (h 50 8)) 10 (h 50 10)) 14 (h 50 14) := by rw [e35, mh_up_rs, r25_34] <;> rfl
                have r26_35 : h35 26 = mh_cpR (h 51) (h 26) 0 0 9 := by rw [e35, mh_up_row (by decide)]; exact r26_34
                have r27_35 : h35 27 = mh_cpR (h 52) (h 27) 0 0 9 := by rw [e35, mh_up_row (by decide)]; exact r27_34
                have r28_35 : h35 28 = mh_cpR (h 53) (h 28) 0 0 9 := by rw [e35, mh_up_row (by decide)]; exact r28_34
                have r29_35 : h35 29 = mh_cpR (h 54) (h 29) 0 0 4 := by rw [e35, mh_up_row (by decide)]; exact r29_34
                have r30_35 : h35 30 = mh_cpR (h 55) (h 30) 0 0 4 := by rw [e35, mh_up_row (by decide)]; exact r30_34
                have r44_35 : h35 44 = sc_cp (h 44) (h 69) := by rw [e35, mh_up_row (by decide)]; exact r44_34
                have r45_35 : h35 45 = sc_cp (h 45) (h 70) := by rw [e35, mh_up_row (by decide)]; exact r45_34
                have r46_35 : h35 46 = sc_cp (h 46) (h 71) := by rw [e35, mh_up_row (by decide)]; exact r46_34
                have r47_35 : h35 47 = sc_cp (h 47) (h 72) := by rw [e35, mh_up_row (by decide)]; exact r47_34
                have r48_35 : h35 48 = sc_cp (h 48) (h 73) := by rw [e35, mh_up_row (by decide)]; exact r48_34
                have r49_35 : h35 49 = sc_cp (h 49) (h 74) := by rw [e35, mh_up_row (by decide)]; exact r49_34
                have r32_35 : h35 32 = mh_cpR (h 57) (h 32) 0 0 50 := by rw [e35, mh_up_row (by decide)]; exact r32_34
                have r33_35 : h35 33 = mh_ur (h 33) 3 (h 58 3) := by rw [e35, mh_up_row (by decide)]; exact r33_34
                have r34_35 : h35 34 = mh_cpR (h 59) (h 34) 0 0 50 := by rw [e35, mh_up_row (by decide)]; exact r34_34
                have r38_35 : h35 38 = mh_ur (h 38) 3 (h 63 3) := by rw [e35, mh_up_row (by decide)]; exact r38_34
                have r39_35 : h35 39 = mh_cpR (h 64) (h 39) 0 0 50 := by rw [e35, mh_up_row (by decide)]; exact r39_34
                have r43_35 : h35 43 = mh_cpR (h 68) (h 43) 0 0 20 := by rw [e35, mh_up_row (by decide)]; exact r43_x
                have fr35 : mh_fr [43, 38, 39, 33, 34, 32, 25, 49, 48, 47, 46, 45, 44, 30, 29, 28, 27, 26] h h35 := mh_fr.upi fr34 e35 (by simp)
                refine mh_aload0 (pc := 194) F dX10_copy_194 ?_
                refine mh_aload1 (pc := 195) F dX10_copy_195 ?_
                refine mh_geti (pc := 196) F sh_50 (by decide) fw_RX10_60_10 dX10_copy_196 rfl ?_
                refine mh_top (y := h 50 15) (mh_eqI (congrFun (fr35 50 (by simp)) 15)) ?_
                refine mh_puti (pc := 199) F sh_25 (by decide) pw_RX10_60_10 dX10_copy_199 ?_
                refine mh_nmh (fun h36 e36 => ?_)
                have F36 : mh_FX h36 := by rw [e36]; exact F35.upz rfl
                have r25_36 : h36 25 = mh_ur (mh_ur (mh_ur (mh_ur (mh_ur (mh_ur (h 25) 6 (h 50 6)) 7 (h 50 7)) 8 (h 50 8)) 10 (h 50 10)) 14 (h 50 14)) 15 (h 50 15) := by rw [e36, mh_up_rs, r25_35] <;> rfl
                have r26_36 : h36 26 = mh_cpR (h 51) (h 26) 0 0 9 := by rw [e36, mh_up_row (by decide)]; exact r26_35
                have r27_36 : h36 27 = mh_cpR (h 52) (h 27) 0 0 9 := by rw [e36, mh_up_row (by decide)]; exact r27_35
                have r28_36 : h36 28 = mh_cpR (h 53) (h 28) 0 0 9 := by rw [e36, mh_up_row (by decide)]; exact r28_35
                have r29_36 : h36 29 = mh_cpR (h 54) (h 29) 0 0 4 := by rw [e36, mh_up_row (by decide)]; exact r29_35
                have r30_36 : h36 30 = mh_cpR (h 55) (h 30) 0 0 4 := by rw [e36, mh_up_row (by decide)]; exact r30_35
                have r44_36 : h36 44 = sc_cp (h 44) (h 69) := by rw [e36, mh_up_row (by decide)]; exact r44_35
                have r45_36 : h36 45 = sc_cp (h 45) (h 70) := by rw [e36, mh_up_row (by decide)]; exact r45_35
                have r46_36 : h36 46 = sc_cp (h 46) (h 71) := by rw [e36, mh_up_row (by decide)]; exact r46_35
                have r47_36 : h36 47 = sc_cp (h 47) (h 72) := by rw [e36, mh_up_row (by decide)]; exact r47_35
                have r48_36 : h36 48 = sc_cp (h 48) (h 73) := by rw [e36, mh_up_row (by decide)]; exact r48_35
                have r49_36 : h36 49 = sc_cp (h 49) (h 74) := by rw [e36, mh_up_row (by decide)]; exact r49_35
                have r32_36 : h36 32 = mh_cpR (h 57) (h 32) 0 0 50 := by rw [e36, mh_up_row (by decide)]; exact r32_35
                have r33_36 : h36 33 = mh_ur (h 33) 3 (h 58 3) := by rw [e36, mh_up_row (by decide)]; exact r33_35
                have r34_36 : h36 34 = mh_cpR (h 59) (h 34) 0 0 50 := by rw [e36, mh_up_row (by decide)]; exact r34_35
                have r38_36 : h36 38 = mh_ur (h 38) 3 (h 63 3) := by rw [e36, mh_up_row (by decide)]; exact r38_35
                have r39_36 : h36 39 = mh_cpR (h 64) (h 39) 0 0 50 := by rw [e36, mh_up_row (by decide)]; exact r39_35
                have r43_36 : h36 43 = mh_cpR (h 68) (h 43) 0 0 20 := by rw [e36, mh_up_row (by decide)]; exact r43_35
                have fr36 : mh_fr [43, 38, 39, 33, 34, 32, 25, 49, 48, 47, 46, 45, 44, 30, 29, 28, 27, 26] h h36 := mh_fr.upi fr35 e36 (by simp)
                exact mh_return F Z dX10_copy_202 ⟨rfl, F36, (fr36.mono (by simp)), r26_36, r27_36, r28_36, r29_36, r30_36, r44_36, r45_36, r46_36, r47_36, r48_36, r49_36, r25_36, r32_36, r33_36, r34_36, r38_36, r39_36, r43_36⟩
              · exact absurd c_78 (by decide)

