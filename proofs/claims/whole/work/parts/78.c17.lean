/-! images: the worlds' relation, copied -/
def sc_VW (h : Nat → Int → Int) (w : Nat) (s : Int → Int) : Prop := sc_L h w s ∧ sc_C h w s ∧ sc_N h w s
def sc_XW (h : Nat → Int → Int) (w : Nat) (s : Int → Int) : Prop := (∀ i, 0 ≤ i → i < s 4 → mh_and (h (w + 7) i) 255 = s (197 + i)) ∧ (∀ i, 0 ≤ i → i < s 5 → h (w + 18) i = s (247 + i))
theorem mh_cpR_0 {u v : Int → Int} {n k : Int} (h0 : 0 ≤ k) (h : k < n) : mh_cpR u v 0 0 n k = u k := by
  rw [mh_cpR_at (by omega), show 0 + (k - 0) = k by omega]
theorem sc_T.cp {tx cd tx2 cd2 s : Int → Int} {u : Int} (h : sc_T tx cd s u) (h1 : tx2 1 = tx 1) : sc_T (mh_ur tx2 3 (tx 3)) (mh_cpR cd cd2 0 0 50) s u := by
  obtain ⟨a1, a2, a3, a4, a5⟩ := h
  have e3 : mh_ur tx2 3 (tx 3) 3 = tx 3 := mh_ur_eq rfl
  have hl := a2.2.1
  have ec : ∀ k, 0 ≤ k → k < tx 3 → mh_cpR cd cd2 0 0 50 k = cd k := fun k k0 k1 => mh_cpR_0 k0 (by omega)
  unfold sc_T
  rw [e3]
  refine ⟨by rw [mh_ur_ne (by decide), h1]; exact a1, ?_, a3, fun k k0 k1 => by rw [ec k k0 k1]; exact a4 k k0 k1, ?_⟩
  · refine sp_wf_same (fun k hk => ?_) a2
    unfold sc_dc
    rw [ec _ (by omega) hk]
  · rcases a5 with ⟨g1, g2, g3⟩ | ⟨g1, g2, g3⟩
    · exact Or.inl ⟨g1, g2, fun k k0 k1 => by rw [ec k k0 k1]; exact g3 k k0 k1⟩
    · exact Or.inr ⟨g1, g2, fun k k0 k1 => by rw [ec k k0 k1]; exact g3 k k0 k1⟩
theorem sc_copied {h h2 : Nat → Int → Int} {T O : Nat} {s : Int → Int} (hi : sp_inv s) (hV : sc_VW h O s) (hX : sc_XW h O s) (h4 : s 4 ≤ 50) (h5 : s 5 ≤ 20) (hnum : ∀ j : Int, 0 ≤ j → j < 6 → h (T + 19 + j.toNat) 0 = j) (hm1 : h (T + 8) 1 = h (O + 8) 1) (hm2 : h (T + 13) 1 = h (O + 13) 1)
    (e1 : h2 (T + 1) = mh_cpR (h (O + 1)) (h (T + 1)) 0 0 9) (e2 : h2 (T + 2) = mh_cpR (h (O + 2)) (h (T + 2)) 0 0 9) (e3 : h2 (T + 3) = mh_cpR (h (O + 3)) (h (T + 3)) 0 0 9) (e4 : h2 (T + 4) = mh_cpR (h (O + 4)) (h (T + 4)) 0 0 4) (e5 : h2 (T + 5) = mh_cpR (h (O + 5)) (h (T + 5)) 0 0 4)
    (ec : ∀ j : Int, 0 ≤ j → j < 6 → h2 (T + 19 + j.toNat) = sc_cp (h (T + 19 + j.toNat)) (h (O + 19 + j.toNat)))
    (e0 : h2 T = mh_ur (mh_ur (mh_ur (mh_ur (mh_ur (mh_ur (h T) 6 (h O 6)) 7 (h O 7)) 8 (h O 8)) 10 (h O 10)) 14 (h O 14)) 15 (h O 15))
    (e7 : h2 (T + 7) = mh_cpR (h (O + 7)) (h (T + 7)) 0 0 50) (e8 : h2 (T + 8) = mh_ur (h (T + 8)) 3 (h (O + 8) 3)) (e9 : h2 (T + 9) = mh_cpR (h (O + 9)) (h (T + 9)) 0 0 50) (e13 : h2 (T + 13) = mh_ur (h (T + 13)) 3 (h (O + 13) 3)) (e14 : h2 (T + 14) = mh_cpR (h (O + 14)) (h (T + 14)) 0 0 50) (e18 : h2 (T + 18) = mh_cpR (h (O + 18)) (h (T + 18)) 0 0 20) : sc_VW h2 T s ∧ sc_XW h2 T s := by
  obtain ⟨⟨l1, l2, l3, l4⟩, b, c1, c2, c3, c4, c5, c6⟩ := hV
  refine ⟨⟨⟨fun k k0 k1 => ?_, fun k k0 k1 => ?_, ?_, ?_⟩, fun j j0 j1 => ?_, ?_⟩, fun i i0 i1 => ?_, fun i i0 i1 => ?_⟩
  · rw [e1, e2, e3, mh_cpR_0 k0 k1, mh_cpR_0 k0 k1, mh_cpR_0 k0 k1]; exact l1 k k0 k1
  · rw [e4, e5, mh_cpR_0 k0 k1, mh_cpR_0 k0 k1]; exact l2 k k0 k1
  · rw [e8, e9]; exact l3.cp hm1
  · rw [e13, e14]; exact l4.cp hm2
  · rw [ec j j0 j1]; exact sc_is_cp (b j j0 j1) (hnum j j0 j1)
  · unfold sc_N
    rw [e0]
    refine ⟨?_, ?_, ?_, ?_, ?_, ?_⟩ <;> (repeat (first | rw [mh_ur_ne (by decide)] | rw [mh_ur_eq rfl])) <;> assumption
  · rw [e7, mh_cpR_0 i0 (by omega)]; exact hX.1 i i0 i1
  · rw [e18, mh_cpR_0 i0 (by omega)]; exact hX.2 i i0 i1
theorem sc_VW.to {h : Nat → Int → Int} {w : Nat} {s t : Int → Int} (H : sc_VW h w s) (e : ∀ i, 0 ≤ i → i < 267 → t i = s i) : sc_VW h w t := by
  obtain ⟨a, b, c⟩ := H
  refine ⟨a.to (fun i hi => e i (by omega) (by omega)), fun j j0 j1 => ?_, ?_⟩
  · have hb := b j j0 j1
    unfold sc_is sp_row at hb ⊢
    rw [e _ (by omega) (by omega), e _ (by omega) (by omega), e _ (by omega) (by omega), e _ (by omega) (by omega), e _ (by omega) (by omega), e _ (by omega) (by omega), e _ (by omega) (by omega), e _ (by omega) (by omega), e _ (by omega) (by omega)]
    exact hb
  · unfold sc_N
    rw [e 3 (by decide) (by decide), e 0 (by decide) (by decide), e 1 (by decide) (by decide), e 4 (by decide) (by decide), e 5 (by decide) (by decide), e 2 (by decide) (by decide)]
    exact c
theorem sc_XW.to {h : Nat → Int → Int} {w : Nat} {s t : Int → Int} (H : sc_XW h w s) (h4 : s 4 ≤ 50) (h5 : s 5 ≤ 20) (e : ∀ i, 0 ≤ i → i < 267 → t i = s i) : sc_XW h w t := by
  refine ⟨fun i i0 i1 => ?_, fun i i0 i1 => ?_⟩
  · rw [e 4 (by decide) (by decide)] at i1
    rw [e _ (by omega) (by omega)]; exact H.1 i i0 i1
  · rw [e 5 (by decide) (by decide)] at i1
    rw [e _ (by omega) (by omega)]; exact H.2 i i0 i1
theorem mh_cp_in {n : Int} {u v : Int → Int} {i : Int} (h0 : 0 ≤ i) (h1 : i < n) : mh_cp n u v i = u i := if_pos ⟨h0, h1⟩
/-- the image's rows, as made -/
def sc_KP (h : Nat → Int → Int) : Prop := (∀ j : Int, 0 ≤ j → j < 6 → h (69 + j.toNat) 0 = j) ∧ h 58 1 = 40 ∧ h 63 1 = 999 ∧ (∀ i, 0 ≤ i → i < 50 → -128 ≤ h 32 i ∧ h 32 i ≤ 127) ∧ (∀ i, 0 ≤ i → i < 50 → -128 ≤ h 57 i ∧ h 57 i ≤ 127)
def sc_I (h : Nat → Int → Int) (o : Int → Int) : Prop := h 0 2 = o 4 ∧ (0 ≤ o 4 ∧ o 4 ≤ 100000) ∧ ((o 3 = 0 ∧ o 4 = 0) ∨ (o 3 = 1 ∧ 0 < o 4))
theorem sc_VW.fr0 {h h2 : Nat → Int → Int} {s : Int → Int} (H : sc_VW h 50 s) (e : ∀ a, a ≠ 0 → h2 a = h a) : sc_VW h2 50 s := by
  obtain ⟨a, b, c⟩ := H
  refine ⟨a.of (fun x hx => e x (by omega)), fun j j0 j1 => ?_, ?_⟩
  · rw [e _ (by omega)]; exact b j j0 j1
  · unfold sc_N; rw [e 50 (by decide)]; exact c
theorem sc_XW.fr0 {h h2 : Nat → Int → Int} {s : Int → Int} (H : sc_XW h 50 s) (e : ∀ a, a ≠ 0 → h2 a = h a) : sc_XW h2 50 s := by
  refine ⟨fun i i0 i1 => ?_, fun i i0 i1 => ?_⟩
  · rw [e _ (by decide)]; exact H.1 i i0 i1
  · rw [e _ (by decide)]; exact H.2 i i0 i1
theorem sc_KP_image {h h1 h2 : Nat → Int → Int} {s : Int → Int} (H : sc_KP h) (hL : sc_L h 25 s) (e : ∀ a, a ≠ 0 → h2 a = h1 a) (fr : mh_fr [51, 52, 53, 54, 55, 69, 70, 71, 72, 73, 74, 50, 57, 58, 59, 63, 64, 68] h h1) (w6 : h1 69 = sc_cp (h 69) (h 44)) (w7 : h1 70 = sc_cp (h 70) (h 45)) (w8 : h1 71 = sc_cp (h 71) (h 46)) (w9 : h1 72 = sc_cp (h 72) (h 47)) (w10 : h1 73 = sc_cp (h 73) (h 48)) (w11 : h1 74 = sc_cp (h 74) (h 49)) (w13 : h1 58 = mh_ur (h 58) 3 (h 33 3)) (w15 : h1 63 = mh_ur (h 63) 3 (h 38 3)) (w12 : h1 57 = mh_cpR (h 32) (h 57) 0 0 50) : sc_KP h2 := by
  obtain ⟨a1, a2, a3, a4, a5⟩ := H
  refine ⟨fun j j0 j1 => ?_, ?_, ?_, fun i i0 i1 => ?_, fun i i0 i1 => ?_⟩
  · have q := a1 j j0 j1
    rcases (show j = 0 ∨ j = 1 ∨ j = 2 ∨ j = 3 ∨ j = 4 ∨ j = 5 by omega) with z | z | z | z | z | z <;> subst z
    · show h2 69 0 = _; rw [e 69 (by decide), w6]; exact q
    · show h2 70 0 = _; rw [e 70 (by decide), w7]; exact q
    · show h2 71 0 = _; rw [e 71 (by decide), w8]; exact q
    · show h2 72 0 = _; rw [e 72 (by decide), w9]; exact q
    · show h2 73 0 = _; rw [e 73 (by decide), w10]; exact q
    · show h2 74 0 = _; rw [e 74 (by decide), w11]; exact q
  · rw [e 58 (by decide), w13, mh_ur_ne (by decide)]; exact a2
  · rw [e 63 (by decide), w15, mh_ur_ne (by decide)]; exact a3
  · rw [e 32 (by decide), fr 32 (by simp)]; exact a4 i i0 i1
  · rw [e 57 (by decide), w12, mh_cpR_0 i0 i1]; exact a4 i i0 i1
set_option maxRecDepth 100000 in
set_option maxHeartbeats 2000000 in
theorem q_image {g : mh_G} {d : Nat} (hd : 10 ≤ d) {h : Nat → Int → Int} (hF : mh_FX h) {s o : Int → Int} (hi : sp_inv s) (hV : sc_V h s) (hX : sc_X h s) (h4 : 0 ≤ s 4 ∧ s 4 ≤ 50) (h5 : 0 ≤ s 5 ∧ s 5 ≤ 20) (hKP : sc_KP h) (hI : sc_I h o) : mh_M g d yX11_image cX11_image 1 (some .int) 96 0 0 [.ref 0] h (fun r h2 => r = some (.int (Int32.ofInt (o 4 + 1))) ∧ mh_FX h2 ∧ mh_fr [0, 50, 51, 52, 53, 54, 55, 57, 58, 59, 63, 64, 68, 69, 70, 71, 72, 73, 74] h h2 ∧ h2 0 2 = o 4 + 1 ∧ sc_VW h2 50 s ∧ sc_XW h2 50 s ∧ sc_KP h2) := by
  refine mh_M_of RX11 rfl (by decide +kernel) [some (.ref 0)] rfl (Nat.le_of_ble_eq_true rfl) (fun f F Z hn0 hR => ?_)
  refine mh_aload0 (pc := 0) F dX11_image_0 ?_
  refine mh_getr (b := 50) (pc := 1) F sh_0 (by decide) fw_RX11_76_11 dX11_image_1 rfl (fx_0_1 hF) ?_
  refine mh_aload0 (pc := 4) F dX11_image_4 ?_
  refine mh_getr (b := 25) (pc := 5) F sh_0 (by decide) fw_RX11_72_11 dX11_image_5 rfl (fx_0_0 hF) ?_
  refine mh_callV0 (pc := 8) (As := [.ref 25]) (st := []) F (by omega) (k16_world_50 (by omega) hF (fun j j0 j1 => (hV.2.1 j j0 j1).ok (hi.2.2.2.2.1 j j0 j1)) hKP.2.2.2.1) wv_RX11_300_yX10_copy dX11_image_8 sh_50 rfl (by decide) rfl rfl (Nat.le_of_ble_eq_true rfl) ⟨Nat.zero_le _, Nat.zero_le _⟩ (fun r1 h1 q1 => ?_)
  obtain ⟨rfl, F1, frW, w1, w2, w3, w4, w5, w6, w7, w8, w9, w10, w11, w0, w12, w13, w14, w15, w16, w17⟩ := q1
  have fr2 : mh_fr [51, 52, 53, 54, 55, 69, 70, 71, 72, 73, 74, 50, 57, 58, 59, 63, 64, 68] h h1 := (mh_fr.tr mh_fr.rf frW).mono (by simp)
  obtain ⟨hVc, hXc⟩ := sc_copied (T := 50) (O := 25) (h := h) (h2 := h1) hi hV hX h4.2 h5.2 (fun j j0 j1 => hKP.1 j j0 j1) (hKP.2.1.trans hV.1.2.2.1.1.symm) (hKP.2.2.1.trans hV.1.2.2.2.1.symm) w1 w2 w3 w4 w5 (fun j j0 j1 => by rcases (show j = 0 ∨ j = 1 ∨ j = 2 ∨ j = 3 ∨ j = 4 ∨ j = 5 by omega) with z | z | z | z | z | z <;> subst z; exact w6; exact w7; exact w8; exact w9; exact w10; exact w11) w0 w12 w13 w14 w15 w16 w17
  refine mh_aload0 (pc := 11) F dX11_image_11 ?_
  refine mh_dup (pc := 12) F dX11_image_12 rfl ?_
  refine mh_geti (pc := 13) F sh_0 (by decide) fw_RX11_303_11 dX11_image_13 rfl ?_
  refine mh_iconst (pc := 16) F dX11_image_16 ?_
  refine mh_iadd (pc := 17) F dX11_image_17 ?_
  refine mh_puti (pc := 18) F sh_0 (by decide) pw_RX11_303_11 dX11_image_18 ?_
  refine mh_nmh (fun h3 e3 => ?_)
  have F3 : mh_FX h3 := by rw [e3]; exact F1.upz rfl
  have fr3 : mh_fr [0, 51, 52, 53, 54, 55, 69, 70, 71, 72, 73, 74, 50, 57, 58, 59, 63, 64, 68] h h3 := mh_fr.up fr2 e3
  refine mh_aload0 (pc := 21) F dX11_image_21 ?_
  refine mh_geti (pc := 22) F sh_0 (by decide) fw_RX11_303_11 dX11_image_22 rfl ?_
  refine mh_top (y := o 4 + 1) (mh_eqI (by rw [e3, mh_up_rs, mh_ur_eq rfl, frW 0 (by simp), hI.1])) ?_
  exact mh_ireturn F Z dX11_image_25 ⟨mh_sv rfl, F3, (fr3.mono (by simp)), (by rw [e3, mh_up_rs, mh_ur_eq rfl, frW 0 (by simp), hI.1]), (sc_VW.fr0 hVc (fun a ha => by rw [e3, mh_up_row (by omega)])), (sc_XW.fr0 hXc (fun a ha => by rw [e3, mh_up_row (by omega)])), (sc_KP_image hKP hV.1 (fun a ha => by rw [e3, mh_up_row (by omega)]) frW w6 w7 w8 w9 w10 w11 w13 w15 w12)⟩

