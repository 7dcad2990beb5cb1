/-! restore, told of the kept tape besides -/
theorem sc_KP_res {h h2 : Nat → Int → Int} (H : sc_KP h) (e : ∀ a, 50 ≤ a ∧ a ≤ 74 → h2 a = h a) (w12 : h2 32 = mh_cpR (h 57) (h 32) 0 0 50) : sc_KP h2 := by
  obtain ⟨a1, a2, a3, a4, a5⟩ := H
  exact ⟨fun j j0 j1 => by rw [e _ (by omega)]; exact a1 j j0 j1, by rw [e 58 (by omega)]; exact a2, by rw [e 63 (by omega)]; exact a3, fun i i0 i1 => by rw [w12, mh_cpR_0 i0 i1]; exact a5 i i0 i1, by rw [e 57 (by omega)]; exact a5⟩
theorem sc_KN.fr2 {h h2 : Nat → Int → Int} (H : sc_KN h) (e : ∀ a, 2 ≤ a → a ≤ 8 → h2 a = h a) : sc_KN h2 := fun k k0 k1 => by rw [e _ (by omega) (by omega)]; exact H k k0 k1
set_option maxRecDepth 100000 in
set_option maxHeartbeats 4000000 in
theorem q_restore2 {g : mh_G} {d : Nat} (hd : 16 ≤ d) {h : Nat → Int → Int} (hF : mh_FX h) {s er kp o : Int → Int}  (hX : sc_X h s) (hKP : sc_KP h) (hI : sc_I h o) (hK : sc_K h kp o) (hi : sp_inv s) (hV : sc_V h s) (hE : sc_E h er) (hKN : sc_KN h) : mh_M g d yX11_restore cX11_restore 1 (some .int) 96 0 0 [.ref 0] h (fun r h2 => ∃ (vv : Int) (tt ee : Int → Int), (vv, tt, ee) = sp_restore  s er kp o ∧ r = some (.int (Int32.ofInt vv)) ∧ mh_FX h2 ∧ mh_fr [26, 27, 28, 29, 30, 44, 45, 46, 47, 48, 49, 25, 32, 33, 34, 38, 39, 43, 24] h h2 ∧ sc_V h2 tt ∧ sc_E h2 ee ∧ sc_X h2 tt ∧ sc_KP h2) := by
  refine mh_M_of RX11 rfl (by decide +kernel) [some (.ref 0)] rfl (Nat.le_of_ble_eq_true rfl) (fun f F Z hn0 hR => ?_)
  have hm := hi.1
  have hq0 := hi.2.1
  have hs1 := hi.2.2.1
  have hh := hi.2.2.2.1
  obtain ⟨n6, n7, n8, n10, n14, n15⟩ := hV.2.2
  obtain ⟨i1, i2, i3⟩ := hI
  refine mh_aload0 (pc := 0) F dX11_restore_0 ?_
  refine mh_geti (pc := 1) F sh_0 (by decide) fw_RX11_303_11 dX11_restore_1 rfl ?_
  refine mh_if_ne (pc := 4) (tgt := 13) F dX11_restore_4 rfl (by omega) (fun c_4 => ?_) (fun c_4 => ?_)
  · obtain ⟨⟨hki, hk4, hk5⟩, hkV, hkX⟩ := hK (by omega)
    refine mh_aload0 (pc := 13) F dX11_restore_13 ?_
    refine mh_getr (b := 25) (pc := 14) F sh_0 (by decide) fw_RX11_72_11 dX11_restore_14 rfl (fx_0_0 hF) ?_
    refine mh_aload0 (pc := 17) F dX11_restore_17 ?_
    refine mh_getr (b := 50) (pc := 18) F sh_0 (by decide) fw_RX11_76_11 dX11_restore_18 rfl (fx_0_1 hF) ?_
    refine mh_callV0 (pc := 21) (As := [.ref 50]) (st := []) F (by omega) (k16_world_25 (by omega) hF (fun j j0 j1 => (hkV.2.1 j j0 j1).ok (hki.2.2.2.2.1 j j0 j1)) hKP.2.2.2.2) wv_RX11_300_yX10_copy dX11_restore_21 sh_25 rfl (by decide) rfl rfl (Nat.le_of_ble_eq_true rfl) ⟨Nat.zero_le _, Nat.zero_le _⟩ (fun r1 h1 q1 => ?_)
    obtain ⟨rfl, F1, frW, w1, w2, w3, w4, w5, w6, w7, w8, w9, w10, w11, w0, w12, w13, w14, w15, w16, w17⟩ := q1
    have fr2 : mh_fr [26, 27, 28, 29, 30, 44, 45, 46, 47, 48, 49, 25, 32, 33, 34, 38, 39, 43] h h1 := (mh_fr.tr mh_fr.rf frW).mono (by simp)
    obtain ⟨hVc, hXc⟩ := sc_copied (T := 25) (O := 50) (h := h) (h2 := h1) hki hkV hkX hk4.2 hk5.2 (fun j j0 j1 => (hV.2.1 j j0 j1).1) (hV.1.2.2.1.1.trans hKP.2.1.symm) (hV.1.2.2.2.1.trans hKP.2.2.1.symm) w1 w2 w3 w4 w5 (fun j j0 j1 => by rcases (show j = 0 ∨ j = 1 ∨ j = 2 ∨ j = 3 ∨ j = 4 ∨ j = 5 by omega) with z | z | z | z | z | z <;> subst z; exact w6; exact w7; exact w8; exact w9; exact w10; exact w11) w0 w12 w13 w14 w15 w16 w17
    refine mh_aload0 (pc := 24) F dX11_restore_24 ?_
    refine mh_getr (b := 25) (pc := 25) F sh_0 (by decide) fw_RX11_72_11 dX11_restore_25 rfl (fx_0_0 F1) ?_
    refine mh_geti (pc := 28) F sh_25 (by decide) fw_RX11_105_10 dX11_restore_28 rfl ?_
    refine mh_top (y := kp 0) (mh_eqI (hVc.2.2.2.1)) ?_
    exact mh_ireturn F Z dX11_restore_31 ⟨_, _, _, (by unfold sp_restore; (repeat' split) <;> first | rfl | (exfalso; omega)), rfl, F1, (fr2.mono (by simp)), (hVc.to (fun i i0 i1 => mh_cp_in i0 i1)), (hE.of (frW 24 (by simp))), (sc_XW.to (w := 25) hXc hk4.2 hk5.2 (fun i i0 i1 => mh_cp_in i0 i1)), (sc_KP_res hKP (fun a ha => frW a (by simp; omega)) w12)⟩
  · refine mh_aload0 (pc := 7) F dX11_restore_7 ?_
    refine mh_iconst (pc := 8) F dX11_restore_8 ?_
    refine mh_callV0 (pc := 9) (As := [.int (Int32.ofInt (2))]) (st := []) F (by omega) (k8_refuse (by omega) hF rfl (by decide)) wv_RX11_90_yX11_refuse dX11_restore_9 sh_0 rfl (by decide) rfl rfl (Nat.le_of_ble_eq_true rfl) ⟨Nat.zero_le _, Nat.zero_le _⟩ (fun r3 h3 q3 => ?_)
    obtain ⟨rfl, F3, fr3, q3_0⟩ := q3
    have fr4 : mh_fr [24] h h3 := (mh_fr.tr mh_fr.rf fr3).mono (by simp)
    have hVr : sc_V h3 s := sc_V_fr hV (fun a a1 a2 a3 a4 => fr3 a (by simp; omega))
    have hEr : sc_E h3 (mh_ur er 2 (er 2 + 1)) := hE.up (by decide) q3_0
    exact mh_ireturn F Z dX11_restore_12 ⟨_, _, _, (by unfold sp_restore; (repeat' split) <;> first | rfl | (exfalso; omega)), rfl, F3, (fr4.mono (by simp)), hVr, hEr, (hX.of (fr4 32 (by simp)) (fr4 43 (by simp))), (hKP.fr2 (fun a ha => fr4 a (by simp; omega)))⟩

