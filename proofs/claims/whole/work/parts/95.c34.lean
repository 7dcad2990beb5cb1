/-! with a cellar -/
theorem sc_su_sw {s s2 : Int → Int} {k z e : Int} (hz : 0 ≤ z ∧ z < 9) (hk : 0 ≤ k) (hs : ∀ i, i ≠ 6 + 3 * z + 0 → s2 i = s i) (he : e = s2 (6 + 3 * z + 0)) (t : Nat) : sc_su s (s (41 + 9 * k + 0)) (s (41 + 9 * k + 1)) e t = sp_ws s2 k z t := by
  induction t with
  | zero => rfl
  | succ t ih =>
    show sc_su s _ _ e t + sc_su1 s _ _ e (t : Int) = sp_ws s2 k z t + sp_wq s2 k z (t : Int)
    rw [ih]
    unfold sc_su1 sp_wq sp_warm
    rw [hs (41 + 9 * k + 0) (by omega), hs (41 + 9 * k + 1) (by omega), hs 0 (by omega), he, sp_law_same (s := s2) (t := s) (fun i hi => hs i (by omega))]
theorem sc_Rl_sw {h h2 : Nat → Int → Int} {sA sB : Int → Int} {k n f z : Int} (hz : f ≤ z ∧ z < 9) (hf : 0 ≤ f) (hk : 0 ≤ k ∧ k < 6) (hn : 0 ≤ n ∧ n ≤ 60) (hs : ∀ i, i ≠ 6 + 3 * z + 0 → sB i = sA i) (H : sc_Rl h sA (sp_wmc sA k) k n f) (e : ∀ a, a = 10 ∨ a = 13 ∨ a = 14 ∨ a = 15 → h2 a = h a) (q1 : ∀ j, 0 ≤ j → j ≤ n → h2 12 (z * 61 + j) = sp_ws sB k z j.toNat) (q2 : ∀ j, (j < z * 61 ∨ z * 61 + n < j) → h2 12 j = h 12 j) : sc_Rl h2 sB (sp_wmc sB k) k n f := by
  obtain ⟨a1, a2, a3, a4, a5⟩ := H
  unfold sc_Rl
  rw [e 10 (by decide), e 13 (by decide), e 14 (by decide), e 15 (by decide)]
  refine ⟨a1, a2, a3, fun j j0 j1 => ?_, fun b b0 b1 => ⟨?_, fun j j0 j1 => ?_⟩⟩
  · rw [hs _ (by omega), hs _ (by omega), hs _ (by omega), hs _ (by omega)]; exact a4 j j0 j1
  · rw [hs _ (by omega)]; exact (a5 b b0 b1).1
  · rw [sp_wmc_ok sB k b j (by omega) b1 j0 (by omega)]
    by_cases y : b = z
    · subst y; exact q1 j j0 j1
    · rw [q2 _ (by omega), (a5 b b0 b1).2 j j0 j1, sp_wmc_ok sA k b j (by omega) b1 j0 (by omega), sc_ws_ag (by omega) hk.1 (by omega) hs]
theorem sc_MI_u {u v s wm : Int → Int} {k n f : Int} (H : sc_MI u s wm k n f) (e : v = u) : sc_MI v s wm k n f := by rw [e]; exact H
set_option maxRecDepth 100000 in
set_option maxHeartbeats 2000000 in
theorem k_cell {g : mh_G} {d : Nat} (hd : 17 ≤ d) {h : Nat → Int → Int} (hF : mh_FX h) {s : Int → Int} {k n z : Int} {c : Int → Int} (r44ktoNat : h (44 + k.toNat) = c) (hkk : 0 ≤ k ∧ k < 6) (hi : sp_inv s) (hn : 0 ≤ n ∧ n ≤ 60) (hcs : sc_is c (sp_row s k) k) (hL : sc_L h 25 s) (hN : sc_N h 25 s) (hz : s (41 + 9 * k + 2) ≤ z ∧ z ≤ 8) (hs6 : s (41 + 9 * k + 6) < 60) (hRl : sc_Rl h s (sp_wmc s k) k n (s (41 + 9 * k + 2))) (hRm : sc_Rm h s k) (hMI : sc_MI (h 11) s (sp_wmc s k) k n z) : mh_M g d yX6_sourWithCellar cX6_sourWithCellar 5 (some .int) 96 0 0 [.ref 10, .ref 25, .ref (44 + k.toNat), .int (Int32.ofInt (z))] h (fun r h2 => r = some (.int (Int32.ofInt (sc_tw (sp_relH s k n z)))) ∧ mh_FX h2 ∧ mh_fr [11, 12, 36] h h2 ∧ sc_MI (h2 11) s (sp_wmc s k) k n (z + 1) ∧ sc_Rl h2 s (sp_wmc s k) k n (s (41 + 9 * k + 2))) := by
  refine mh_M_of RX6 rfl (by decide +kernel) [some (.ref 10), some (.ref 25), some (.ref (44 + k.toNat)), some (.int (Int32.ofInt (z))), none] rfl (Nat.le_of_ble_eq_true rfl) (fun f F Z hn0 hR => ?_)
  obtain ⟨R1, R2, R3, R4, R5⟩ := id hRl
  have hcr := hi.2.2.2.2.1 k hkk.1 hkk.2
  have hc := hcs.ok hcr
  obtain ⟨d0, d1, d2, d3, d4, d5, d6, d7, d8, d9⟩ := id hcs
  unfold sp_row at d1 d2 d3 d4 d5 d6 d7 d8 d9
  obtain ⟨c0, c1, c2, c3, c4, c5, c6, c7⟩ := id hcr
  unfold sp_row at c0 c1 c2 c3 c4 c5 c6
  have hq0 := hi.2.1
  have hhz := hi.2.2.2.1.1 z (by omega) (by omega)
  have frz : mh_fr [12] h h := mh_fr.rf.mono (by simp)
  refine mh_iload3 (pc := 0) F dX6_sourWithCellar_0 ?_
  refine mh_aload0 (pc := 1) F dX6_sourWithCellar_1 ?_
  refine mh_geti (pc := 2) F sh_10 (by decide) fw_RX6_47_6 dX6_sourWithCellar_2 rfl ?_
  refine mh_top (y := s (41 + 9 * k + 2)) (mh_eqI R2) ?_
  refine mh_bipush (pc := 5) F dX6_sourWithCellar_5 rfl ?_
  refine mh_callNp (pc := 7) (As := [.int (Int32.ofInt (z)), .int (Int32.ofInt (s (41 + 9 * k + 2))), .int (Int32.ofInt (8))]) (st := []) F (by omega) (k4_within (by omega) (by omega) (by omega) (by omega)) wn_RX6_102 dX6_sourWithCellar_7 rfl rfl (Nat.le_of_ble_eq_true rfl) ⟨Nat.zero_le _, Nat.zero_le _⟩ ?_
  refine mh_ifb_ne (pc := 10) (tgt := 18) F dX6_sourWithCellar_10 rfl (fun c_10 => ?_) (fun c_10 => ?_)
  · obtain ⟨s2, es2⟩ : ∃ q : Int → Int, q = mh_ur s (6 + 3 * z + 0) 0 := ⟨_, rfl⟩
    have hs : ∀ i, i ≠ 6 + 3 * z + 0 → s2 i = s i := fun i q => by rw [es2]; exact mh_ur_ne q
    have hs2z : s2 (6 + 3 * z + 0) = 0 := by rw [es2]; exact mh_ur_eq rfl
    have zi2 : sp_inv s2 := by rw [es2]; exact sp_inv_hh hi (by omega) (by omega) (by decide)
    have eat : s2 (41 + 9 * k + 2) = s (41 + 9 * k + 2) := hs _ (by omega)
    have e46 : s2 (41 + 9 * k + 6) = s (41 + 9 * k + 6) := hs _ (by omega)
    have e45 : s2 (41 + 9 * k + 5) = s (41 + 9 * k + 5) := hs _ (by omega)
    have e40 : s2 (41 + 9 * k + 0) = s (41 + 9 * k + 0) := hs _ (by omega)
    have e41 : s2 (41 + 9 * k + 1) = s (41 + 9 * k + 1) := hs _ (by omega)
    have eκ : c 1 - 3 = s (41 + 9 * k + 0) := by omega
    have hwm2 : sp_wmr (sp_wmc s2 k) := sp_wmr_of (by rw [e41]; exact c1) (sp_wmc_ok s2 k)
    have hwm := sp_wmr_of c1 (sp_wmc_ok s k)
    refine mh_aload0 (pc := 18) F dX6_sourWithCellar_18 ?_
    refine mh_aload1 (pc := 19) F dX6_sourWithCellar_19 ?_
    refine mh_aload2 (pc := 20) F dX6_sourWithCellar_20 ?_
    refine mh_iload3 (pc := 21) F dX6_sourWithCellar_21 ?_
    refine mh_iconst (pc := 22) F dX6_sourWithCellar_22 ?_
    refine mh_callV0 (pc := 23) (As := [.ref 25, .ref (44 + k.toNat), .int (Int32.ofInt (z)), .int (Int32.ofInt (0))]) (st := []) F (by omega) (k_sumUp (s := s) (n := n) (by omega) hF rfl r44ktoNat hkk hc (hL.of (fun x hx => frz x (by simp; omega))) (by unfold sc_N; rw [frz 25 (by simp)]; exact hN) hq0 (by omega) (by omega) (by rw [frz 10 (by simp)]; exact R1) hn) wv_RX6_90_yX6_sumUp dX6_sourWithCellar_23 sh_10 rfl (by decide) rfl rfl (Nat.le_of_ble_eq_true rfl) ⟨Nat.zero_le _, Nat.zero_le _⟩ (fun r1 h1 q1 => ?_)
    obtain ⟨rfl, F1, frs1, qS1, qT1⟩ := q1
    have r44ktoNat_2 : h1 (44 + k.toNat) = c := (frs1 _ (by simp; omega)).trans r44ktoNat
    have fr2 : mh_fr [36, 12] h h1 := (mh_fr.tr frz frs1).mono (by simp)
    rw [eκ, d2] at qS1
    have hRlA : sc_Rl h1 s2 (sp_wmc s2 k) k n (s (41 + 9 * k + 2)) := sc_Rl_sw (by omega) (by omega) hkk hn hs hRl (fun a q => fr2 a (by simp; omega)) (fun j j0 j1 => by rw [qS1 j j0 j1]; exact sc_su_sw (by omega) hkk.1 hs hs2z.symm j.toNat) (fun j hj => qT1 j hj)
    refine mh_aload0 (pc := 26) F dX6_sourWithCellar_26 ?_
    refine mh_iload3 (pc := 27) F dX6_sourWithCellar_27 ?_
    refine mh_callV0 (pc := 28) (As := [.int (Int32.ofInt (z))]) (st := []) F (by omega) (k_forget (by omega) F1 (show h1 10 7 = s (41 + 9 * k + 2) by rw [fr2 10 (by simp)]; exact R2) (by omega) (by omega)) wv_RX6_94_yX6_forget dX6_sourWithCellar_28 sh_10 rfl (by decide) rfl rfl (Nat.le_of_ble_eq_true rfl) ⟨Nat.zero_le _, Nat.zero_le _⟩ (fun r3 h3 q3 => ?_)
    obtain ⟨rfl, F3, frl3, qZ3, qO3⟩ := q3
    have r44ktoNat_4 : h3 (44 + k.toNat) = c := (frl3 _ (by simp; omega)).trans r44ktoNat_2
    have fr4 : mh_fr [11, 36, 12] h h3 := (mh_fr.tr fr2 frl3).mono (by simp)
    have hRlB := hRlA.fr (fun a q => frl3 a (by simp; omega))
    have hMIB : sc_MI (h3 11) s2 (sp_wmc s2 k) k n (s (41 + 9 * k + 2)) := sc_MI_in (u := h 11) (by omega) hkk hi hn hwm (by omega) hs hMI qZ3 (fun j hj => (qO3 j hj).trans (congrFun (frs1 11 (by simp)) j))
    have hRmB : sc_Rm h3 s2 k := by unfold sc_Rm; rw [e45, e46, e40, e41]; exact hRm.fr (fr4 10 (by simp))
    rw [← eat] at hRlB hMIB
    refine mh_aload0 (pc := 31) F dX6_sourWithCellar_31 ?_
    refine mh_callV0 (pc := 32) (As := []) (st := []) F (by omega) (k_town (s := s2) (wm := sp_wmc s2 k) (by omega) F3 hkk zi2 hn hwm2 (by omega) (by omega) hRlB hRmB hMIB) wv_RX6_106_yX6_sourInTown dX6_sourWithCellar_32 sh_10 rfl (by decide) rfl rfl (Nat.le_of_ble_eq_true rfl) ⟨Nat.zero_le _, Nat.zero_le _⟩ (fun r5 h5 q5 => ?_)
    obtain ⟨rfl, F5, frt5, zMI, znz, zmo⟩ := q5
    have r44ktoNat_6 : h5 (44 + k.toNat) = c := (frt5 _ (by simp; omega)).trans r44ktoNat_4
    have fr6 : mh_fr [11, 36, 12] h h5 := (mh_fr.tr fr4 frt5).mono (by simp)
    have hRlC := hRlB.fr (fun a q => frt5 a (by simp; omega))
    rw [eat] at hRlC zMI
    have hMIC := sc_MI_out (z := z) (by omega) hkk hi hn hwm (by omega) hs zMI
    refine mh_top (y := sc_tw (sp_relH s k n z)) (mh_eqI (by unfold sp_relH; rw [← es2])) ?_
    refine mh_istore4 (pc := 35) F dX6_sourWithCellar_35 rfl (by decide) ?_
    refine mh_aload0 (pc := 37) F dX6_sourWithCellar_37 ?_
    refine mh_aload1 (pc := 38) F dX6_sourWithCellar_38 ?_
    refine mh_aload2 (pc := 39) F dX6_sourWithCellar_39 ?_
    refine mh_iload3 (pc := 40) F dX6_sourWithCellar_40 ?_
    refine mh_aload1 (pc := 41) F dX6_sourWithCellar_41 ?_
    refine mh_getr (b := 26) (pc := 42) F sh_25 (by decide) fw_RX6_87_10 dX6_sourWithCellar_42 rfl (fx_25_0 F5) ?_
    refine mh_iload3 (pc := 45) F dX6_sourWithCellar_45 ?_
    refine mh_iaload (pc := 46) F sh_26 (by decide) (by omega) dX6_sourWithCellar_46 ?_
    refine mh_top (y := s (6 + 3 * z + 0)) (mh_eqI (by rw [fr6 26 (by simp)]; exact (hL.1 z (by omega) (by omega)).1)) ?_
    refine mh_callV0 (pc := 47) (As := [.ref 25, .ref (44 + k.toNat), .int (Int32.ofInt (z)), .int (Int32.ofInt (s (6 + 3 * z + 0)))]) (st := []) F (by omega) (k_sumUp (s := s) (n := n) (by omega) F5 rfl r44ktoNat_6 hkk hc (hL.of (fun x hx => fr6 x (by simp; omega))) (by unfold sc_N; rw [fr6 25 (by simp)]; exact hN) hq0 (by omega) (by omega) (by rw [fr6 10 (by simp)]; exact R1) hn) wv_RX6_90_yX6_sumUp dX6_sourWithCellar_47 sh_10 rfl (by decide) rfl rfl (Nat.le_of_ble_eq_true rfl) ⟨Nat.zero_le _, Nat.zero_le _⟩ (fun r7 h7 q7 => ?_)
    obtain ⟨rfl, F7, frs7, qS7, qT7⟩ := q7
    have r44ktoNat_8 : h7 (44 + k.toNat) = c := (frs7 _ (by simp; omega)).trans r44ktoNat_6
    have fr8 : mh_fr [11, 36, 12] h h7 := (mh_fr.tr fr6 frs7).mono (by simp)
    rw [eκ, d2] at qS7
    have hRlD : sc_Rl h7 s (sp_wmc s k) k n (s (41 + 9 * k + 2)) := sc_Rl_sw (sA := s2) (by omega) (by omega) hkk hn (fun i q => (hs i q).symm) hRlC (fun a q => frs7 a (by simp; omega)) (fun j j0 j1 => by rw [qS7 j j0 j1]; exact sc_su_sw (by omega) hkk.1 (fun i q => rfl) rfl j.toNat) (fun j hj => qT7 j hj)
    refine mh_iload4 (pc := 50) F dX6_sourWithCellar_50 ?_
    exact mh_ireturn F Z dX6_sourWithCellar_52 ⟨rfl, F7, (fr8.mono (by simp)), sc_MI_u hMIC (frs7 11 (by simp)), hRlD⟩
  · exfalso; omega

