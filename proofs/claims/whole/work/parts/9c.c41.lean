/-! text -/
theorem sc_FX_t {h h2 : Nat → Int → Int} {t : Nat} (ht : mh_fx.all (fun q => (q.1 != t + 1) && (q.1 != t + 2) && (q.1 != t || q.2.1 == 0 || q.2.1 == 2 || q.2.1 == 4 || q.2.1 == 6)) = true) (hF : mh_FX h) (hfr : mh_fr [t, t + 1, t + 2] h h2) (e0 : h2 t 0 = h t 0) (e2 : h2 t 2 = h t 2) (e4 : h2 t 4 = h t 4) (e6 : h2 t 6 = h t 6) : mh_FX h2 := by
  refine hF.of (fun q hq => ?_)
  have := List.all_eq_true.mp ht q hq
  simp at this
  obtain ⟨⟨a1, a2⟩, a3⟩ := this
  by_cases z : q.1 = t
  · rw [z] at a3 ⊢
    rcases a3 with ((((a3 | a3) | a3) | a3) | a3)
    · exact absurd rfl a3
    · rw [a3]; exact e0
    · rw [a3]; exact e2
    · rw [a3]; exact e4
    · rw [a3]; exact e6
  · rw [hfr q.1 (by simp; omega)]
theorem sc_T_ext {tx tx2 cd cd2 s : Int → Int} {u : Int} (h : sc_T tx cd s u) (e1 : tx2 1 = tx 1) (e3 : tx2 3 = tx 3) (ec : cd2 = cd) : sc_T tx2 cd2 s u := by
  unfold sc_T at *; rw [e1, e3, ec]; exact h
theorem sc_T_to2 {tx cd s t : Int → Int} {u : Int} (h : sc_T tx cd s u) (e : ∀ i, i = 95 + u ∨ (97 + 50 * u ≤ i ∧ i < 147 + 50 * u) → t i = s i) : sc_T tx cd t u := by
  obtain ⟨h1, h2, h3, h4, h5⟩ := h
  have hl := h2.2.1
  refine ⟨h1, h2, h3, h4, ?_⟩
  rw [e (95 + u) (Or.inl rfl)]
  rcases h5 with ⟨a, b, c⟩ | ⟨a, b, c⟩
  · exact Or.inl ⟨a, b, fun k k0 k1 => by rw [e (97 + 50 * u + k) (Or.inr ⟨by omega, by omega⟩)]; exact c k k0 k1⟩
  · exact Or.inr ⟨a, b, c⟩
theorem sc_T_new {tx cd s fr : Int → Int} {u : Int} {q : sx_S} (hu : 0 ≤ u ∧ u ≤ 1) (hb : sx_by s) (hg : sx_gr s (0, 0, 0, fr) q) (hq : ¬ (q.2.1 = 1 ∨ q.1 < s 4)) (h1 : tx 1 = (if u = 0 then 40 else 999)) (h3 : tx 3 = q.2.2.1) (hc : ∀ k, 0 ≤ k → k < q.2.2.1 → sc_de (cd k) = q.2.2.2 k ∧ sc_c1 (cd k)) : sc_T tx cd (sx_cdx s q.2.2.2 u q.2.2.1 q.2.2.1) u := by
  obtain ⟨g1, g2, g3, g4, g5, g6⟩ := hg
  obtain ⟨p1, p2, p3⟩ := sx_pv_x g1
  have hb1 := hb.1
  have q0 : q.2.1 = 0 := by omega
  have d0 : sx_dp ((0, 0, 0, fr) : sx_S) = 0 := rfl
  obtain ⟨s1, s2, s3, s4⟩ := g6 q0 (by rw [d0]; decide)
  rw [d0] at s3
  have hpos : 0 < q.2.2.1 := by
    rcases (show q.2.2.1 = 0 ∨ 0 < q.2.2.1 by omega) with z | z
    · exfalso
      have : sx_dp q = 0 := by unfold sx_dp; rw [z]; rfl
      omega
    · exact z
  have hdc : ∀ k : Nat, (k : Int) < q.2.2.1 → sc_dc cd k = q.2.2.2 (k : Int) := fun k hk => (hc (k : Int) (by omega) hk).1
  have hdp : ∀ k : Nat, (k : Int) ≤ q.2.2.1 → sp_dep (sc_dc cd) k = sp_dep (fun j => q.2.2.2 (j : Int)) k := fun k hk => sp_dep_same (n := k) (fun j hj => hdc j (by omega)) k (Nat.le_refl _)
  refine ⟨h1, ?_, by omega, ?_, Or.inl ⟨?_, ?_, ?_⟩⟩
  · rw [h3]
    refine ⟨by omega, by omega, fun k hk => ?_, fun _ => ?_⟩
    · have z := s4 k (by show (0 : Int) ≤ k; omega) hk
      unfold sx_ck at z
      rw [hdc k hk, hdp k (by omega)]
      exact z
    · rw [hdp _ (by omega)]
      have : sp_dep (fun j => q.2.2.2 (j : Int)) q.2.2.1.toNat = sx_dp q := rfl
      omega
  · rw [h3]; exact fun k k0 k1 => (hc k k0 k1).2
  · unfold sx_cdx; rw [if_neg (by omega), if_pos rfl]; exact hpos
  · unfold sx_cdx; rw [if_neg (by omega), if_pos rfl]; exact h3
  · rw [h3]
    intro k k0 k1
    rw [(hc k k0 k1).1]
    unfold sx_cdx
    rw [if_neg (by omega), if_neg (by omega), if_pos (by omega), show 97 + 50 * u + k - (97 + 50 * u) = k by omega]
theorem sc_V_tx {h h2 : Nat → Int → Int} {s s2 : Int → Int} (hV : sc_V h s) (e : ∀ a, 26 ≤ a → a ≤ 49 → (a < 33 ∨ 42 ≤ a) → h2 a = h a) (es : ∀ i, 6 ≤ i → i < 95 → s2 i = s i) (hN : sc_N h2 25 s2) (T0 : sc_T (h2 33) (h2 34) s2 0) (T1 : sc_T (h2 38) (h2 39) s2 1) : sc_V h2 s2 := by
  obtain ⟨⟨l1, l2, l3, l4⟩, b, c⟩ := hV
  refine ⟨⟨fun k k0 k1 => ?_, fun k k0 k1 => ?_, T0, T1⟩, fun j j0 j1 => ?_, hN⟩
  · rw [e (25 + 1) (by omega) (by omega) (by omega), e (25 + 2) (by omega) (by omega) (by omega), e (25 + 3) (by omega) (by omega) (by omega), es _ (by omega) (by omega), es _ (by omega) (by omega), es _ (by omega) (by omega)]; exact l1 k k0 k1
  · rw [e (25 + 4) (by omega) (by omega) (by omega), e (25 + 5) (by omega) (by omega) (by omega), es _ (by omega) (by omega), es _ (by omega) (by omega)]; exact l2 k k0 k1
  · have hb := b j j0 j1
    show sc_is (h2 (44 + j.toNat)) _ _
    rw [e (44 + j.toNat) (by omega) (by omega) (by omega)]
    unfold sc_is sp_row at hb ⊢
    rw [es _ (by omega) (by omega), es _ (by omega) (by omega), es _ (by omega) (by omega), es _ (by omega) (by omega), es _ (by omega) (by omega), es _ (by omega) (by omega), es _ (by omega) (by omega), es _ (by omega) (by omega), es _ (by omega) (by omega)]
    exact hb
theorem sc_N_b0 {h h2 : Nat → Int → Int} {s s2 : Int → Int} (hN : sc_N h 25 s) (e : h2 25 = mh_ur (h 25) 10 0) (es : ∀ i, 0 ≤ i → i < 6 → i ≠ 4 → s2 i = s i) (e4 : s2 4 = 0) : sc_N h2 25 s2 := by
  obtain ⟨a1, a2, a3, a4, a5, a6⟩ := hN
  unfold sc_N
  rw [e, es 3 (by decide) (by decide) (by decide), es 0 (by decide) (by decide) (by decide), es 1 (by decide) (by decide) (by decide), es 5 (by decide) (by decide) (by decide), es 2 (by decide) (by decide) (by decide), e4, mh_ur_ne (by decide), mh_ur_ne (by decide), mh_ur_ne (by decide), mh_ur_eq rfl, mh_ur_ne (by decide), mh_ur_ne (by decide)]
  exact ⟨a1, a2, a3, rfl, a5, a6⟩
theorem sc_cdx_o {s f : Int → Int} {u m i : Int} (hu : 0 ≤ u ∧ u ≤ 1) (hm : 0 ≤ m ∧ m ≤ 50) (h4 : i ≠ 4) (h1 : i ≠ 95 + u) (h2 : i < 97 + 50 * u ∨ 147 + 50 * u ≤ i) : sx_cdx s f u m m i = s i := by
  unfold sx_cdx; rw [if_neg h4, if_neg h1, if_neg (by omega)]
set_option maxRecDepth 100000 in
set_option maxHeartbeats 1500000 in
theorem q_text {g : mh_G} {d : Nat} (hd : 75 ≤ d) {h : Nat → Int → Int} (hF : mh_FX h) {s er fr : Int → Int} {u : Int} (hu : -2147483648 ≤ u ∧ u < 2147483648) (hb : sx_by s) (hX : sc_X h s) (hi : sp_inv s) (hV : sc_V h s) (hE : sc_E h er) (hKN : sc_KN h) : mh_M g d yX11_text cX11_text 3 (some .int) 96 0 0 [.ref 0, .int (Int32.ofInt (u))] h (fun r h2 => ∃ (vv : Int) (tt ee : Int → Int), (vv, tt, ee) = sp_text u s er fr ∧ r = some (.int (Int32.ofInt vv)) ∧ mh_FX h2 ∧ mh_fr [25, 36, 41, 44, 45, 46, 47, 48, 49, 24, 33, 34, 35, 38, 39, 40] h h2 ∧ sc_V h2 tt ∧ sc_E h2 ee) := by
  refine mh_M_of RX11 rfl (by decide +kernel) [some (.ref 0), some (.int (Int32.ofInt (u))), none] rfl (Nat.le_of_ble_eq_true rfl) (fun f F Z hn0 hR => ?_)
  have hm := hi.1
  have hq0 := hi.2.1
  have hs1 := hi.2.2.1
  have hh := hi.2.2.2.1
  obtain ⟨n6, n7, n8, n10, n14, n15⟩ := hV.2.2
  have hb1 := hb.1
  refine mh_iload1 (pc := 0) F dX11_text_0 ?_
  refine mh_iconst (pc := 1) F dX11_text_1 ?_
  refine mh_iconst (pc := 2) F dX11_text_2 ?_
  refine mh_callSp (pc := 3) (As := [.int (Int32.ofInt (u)), .int (Int32.ofInt (0)), .int (Int32.ofInt (1))]) (st := []) F (by omega) (k4_within (by omega) (by omega) (by omega) (by omega)) ws_RX11_82 dX11_text_3 rfl rfl (Nat.le_of_ble_eq_true rfl) ⟨Nat.zero_le _, Nat.zero_le _⟩ ?_
  refine mh_ifb_ne (pc := 6) (tgt := 15) F dX11_text_6 rfl (fun c_6 => ?_) (fun c_6 => ?_)
  · rcases (show u = 0 ∨ u = 1 by omega) with hu0 | hu0
    · subst hu0
      refine mh_aload0 (pc := 15) F dX11_text_15 ?_
      refine mh_getr (b := 25) (pc := 16) F sh_0 (by decide) fw_RX11_72_11 dX11_text_16 rfl (fx_0_0 hF) ?_
      refine mh_iload1 (pc := 19) F dX11_text_19 ?_
      refine mh_callV0 (pc := 20) (As := [.int (Int32.ofInt (0))]) (st := []) F (by omega) (k4_lawOf0 (by omega) hF) wv_RX11_189_yX10_lawOf dX11_text_20 sh_25 rfl (by decide) rfl rfl (Nat.le_of_ble_eq_true rfl) ⟨Nat.zero_le _, Nat.zero_le _⟩ (fun r1 h1 q1 => ?_)
      obtain ⟨rfl, he⟩ := q1
      rw [he]
      refine mh_aload0 (pc := 23) F dX11_text_23 ?_
      refine mh_getr (b := 25) (pc := 24) F sh_0 (by decide) fw_RX11_72_11 dX11_text_24 rfl (fx_0_0 hF) ?_
      refine mh_getr (b := 32) (pc := 27) F sh_25 (by decide) fw_RX11_185_10 dX11_text_27 rfl (fx_25_9 hF) ?_
      refine mh_aload0 (pc := 30) F dX11_text_30 ?_
      refine mh_getr (b := 25) (pc := 31) F sh_0 (by decide) fw_RX11_72_11 dX11_text_31 rfl (fx_0_0 hF) ?_
      refine mh_geti (pc := 34) F sh_25 (by decide) fw_RX11_182_10 dX11_text_34 rfl ?_
      refine mh_top (y := s 4) (mh_eqI n10) ?_
      refine mh_callV0 (pc := 37) (As := [.ref 32, .int (Int32.ofInt (s 4))]) (st := []) F (by omega) (k40_read (L := 50) (fr := fr) (U := 0) (by omega) rfl ⟨sh_33, sh_35, sh_32, by decide, by decide, by decide, hb.1.2, by decide, by decide⟩ ⟨sh_34, by decide⟩ (fx_33_2 hF) (fx_33_4 hF) (fx_33_0 hF) ⟨hb.1, hX.1⟩ hb (by decide)) wv_RX11_193_yX9_read dX11_text_37 sh_33 rfl (by decide) rfl rfl (Nat.le_of_ble_eq_true rfl) ⟨Nat.zero_le _, Nat.zero_le _⟩ (fun r2 h2 q2 => ?_)
      obtain ⟨qz, eqz⟩ : ∃ z : sx_S, z = sc_q s fr 0 := ⟨_, rfl⟩
      have hqg : sx_gr s (0, 0, 0, fr) qz := by rw [eqz]; exact sc_q_ok hb
      have hqv := sx_pv_x hqg.1
      change sc_rp h 33 0 (h 33) s (sc_q s fr 0) r2 h2 at q2
      rw [← eqz] at q2
      obtain ⟨fr2, ⟨g0, g1, g2, g4, g6⟩, hor⟩ := q2
      have F2 : mh_FX h2 := sc_FX_t (t := 33) (by decide +kernel) hF fr2 (g0.trans (fx_33_0 hF).symm) g2 (g4.trans (fx_33_4 hF).symm) g6
      have fr3 : mh_fr [33, 34, 35] h h2 := (mh_fr.tr mh_fr.rf fr2).mono (by simp)
      rcases hor with ⟨hqc, rfl, g34, g3⟩ | ⟨hqc, rfl, g3, g34⟩
      · refine mh_istore2 (pc := 40) F dX11_text_40 rfl (by decide) ?_
        refine mh_aload0 (pc := 41) F dX11_text_41 ?_
        refine mh_getr (b := 25) (pc := 42) F sh_0 (by decide) fw_RX11_72_11 dX11_text_42 rfl (fx_0_0 F2) ?_
        refine mh_iconst (pc := 45) F dX11_text_45 ?_
        refine mh_puti (pc := 46) F sh_25 (by decide) pw_RX11_182_10 dX11_text_46 ?_
        refine mh_nmh (fun h4 e4 => ?_)
        have F4 : mh_FX h4 := by rw [e4]; exact F2.upz rfl
        have fr4 : mh_fr [25, 33, 34, 35] h h4 := mh_fr.up fr3 e4
        have hVn : sc_V h4 (mh_ur s 4 0) := sc_V_tx hV (fun a a1 a2 a3 => by rw [e4, mh_up_row (by omega)]; exact fr2 a (by simp; omega)) (fun i i0 i1 => mh_ur_ne (by omega)) (sc_N_b0 hV.2.2 (by rw [e4, mh_up_rs, fr2 25 (by decide)]) (fun i i0 i1 i2 => mh_ur_ne (by omega)) (by exact mh_ur_eq rfl)) (by rw [e4, mh_up_row (by decide), mh_up_row (by decide)]; exact sc_T_to2 (sc_T_ext hV.1.2.2.1 g1 g3 g34) (fun i hi => mh_ur_ne (by omega))) (by rw [e4, mh_up_row (by decide), mh_up_row (by decide), fr2 38 (by decide), fr2 39 (by decide)]; exact sc_T_to2 hV.1.2.2.2 (fun i hi => mh_ur_ne (by omega)))
        refine mh_iload2 (pc := 49) F dX11_text_49 ?_
        refine mh_if_ge (pc := 50) (tgt := 57) F dX11_text_50 rfl (by omega) (fun c_50 => ?_) (fun c_50 => ?_)
        · refine mh_bipush (pc := 57) F dX11_text_57 rfl ?_
          refine mh_iload2 (pc := 59) F dX11_text_59 ?_
          refine mh_isub (pc := 60) F dX11_text_60 ?_
          exact mh_ireturn F Z dX11_text_61 ⟨_, _, _, (by unfold sp_text; rw [if_neg (by omega), show sx_r s fr 0 = qz from eqz.symm, if_pos hqc]), rfl, F4, (fr4.mono (by simp)), hVn, (hE.of (fr4 24 (by simp)))⟩
        · exfalso; omega
      · refine mh_istore2 (pc := 40) F dX11_text_40 rfl (by decide) ?_
        refine mh_aload0 (pc := 41) F dX11_text_41 ?_
        refine mh_getr (b := 25) (pc := 42) F sh_0 (by decide) fw_RX11_72_11 dX11_text_42 rfl (fx_0_0 F2) ?_
        refine mh_iconst (pc := 45) F dX11_text_45 ?_
        refine mh_puti (pc := 46) F sh_25 (by decide) pw_RX11_182_10 dX11_text_46 ?_
        refine mh_nmh (fun h5 e5 => ?_)
        have F5 : mh_FX h5 := by rw [e5]; exact F2.upz rfl
        have fr5 : mh_fr [25, 33, 34, 35] h h5 := mh_fr.up fr3 e5
        have hVn : sc_V h5 (sx_cdx s qz.2.2.2 0 qz.2.2.1 qz.2.2.1) := sc_V_tx hV (fun a a1 a2 a3 => by rw [e5, mh_up_row (by omega)]; exact fr2 a (by simp; omega)) (fun i i0 i1 => sc_cdx_o (by decide) (by omega) (by omega) (by omega) (by omega)) (sc_N_b0 hV.2.2 (by rw [e5, mh_up_rs, fr2 25 (by decide)]) (fun i i0 i1 i2 => sc_cdx_o (by decide) (by omega) (by omega) (by omega) (by omega)) (by unfold sx_cdx; rw [if_pos rfl])) (by rw [e5, mh_up_row (by decide), mh_up_row (by decide)]; exact sc_T_new (by decide) hb hqg hqc (g1.trans hV.1.2.2.1.1) g3 g34) (by rw [e5, mh_up_row (by decide), mh_up_row (by decide), fr2 38 (by decide), fr2 39 (by decide)]; exact sc_T_to2 hV.1.2.2.2 (fun i hi => sc_cdx_o (by decide) (by omega) (by omega) (by omega) (by omega)))
        refine mh_iload2 (pc := 49) F dX11_text_49 ?_
        refine mh_if_ge (pc := 50) (tgt := 57) F dX11_text_50 rfl (by omega) (fun c_50 => ?_) (fun c_50 => ?_)
        · exact absurd c_50 (by decide)
        · refine mh_iconst (pc := 53) F dX11_text_53 ?_
          refine mh_goto (pc := 54) (tgt := 61) F dX11_text_54 rfl ?_
          exact mh_ireturn F Z dX11_text_61 ⟨_, _, _, (by unfold sp_text; rw [if_neg (by omega), show sx_r s fr 0 = qz from eqz.symm, if_neg hqc]), rfl, F5, (fr5.mono (by simp)), hVn, (hE.of (fr5 24 (by simp)))⟩
    · subst hu0
      refine mh_aload0 (pc := 15) F dX11_text_15 ?_
      refine mh_getr (b := 25) (pc := 16) F sh_0 (by decide) fw_RX11_72_11 dX11_text_16 rfl (fx_0_0 hF) ?_
      refine mh_iload1 (pc := 19) F dX11_text_19 ?_
      refine mh_callV0 (pc := 20) (As := [.int (Int32.ofInt (1))]) (st := []) F (by omega) (k4_lawOf1 (by omega) hF) wv_RX11_189_yX10_lawOf dX11_text_20 sh_25 rfl (by decide) rfl rfl (Nat.le_of_ble_eq_true rfl) ⟨Nat.zero_le _, Nat.zero_le _⟩ (fun r6 h6 q6 => ?_)
      obtain ⟨rfl, he⟩ := q6
      rw [he]
      refine mh_aload0 (pc := 23) F dX11_text_23 ?_
      refine mh_getr (b := 25) (pc := 24) F sh_0 (by decide) fw_RX11_72_11 dX11_text_24 rfl (fx_0_0 hF) ?_
      refine mh_getr (b := 32) (pc := 27) F sh_25 (by decide) fw_RX11_185_10 dX11_text_27 rfl (fx_25_9 hF) ?_
      refine mh_aload0 (pc := 30) F dX11_text_30 ?_
      refine mh_getr (b := 25) (pc := 31) F sh_0 (by decide) fw_RX11_72_11 dX11_text_31 rfl (fx_0_0 hF) ?_
      refine mh_geti (pc := 34) F sh_25 (by decide) fw_RX11_182_10 dX11_text_34 rfl ?_
      refine mh_top (y := s 4) (mh_eqI n10) ?_
      refine mh_callV0 (pc := 37) (As := [.ref 32, .int (Int32.ofInt (s 4))]) (st := []) F (by omega) (k40_read (L := 50) (fr := fr) (U := 1) (by omega) rfl ⟨sh_38, sh_40, sh_32, by decide, by decide, by decide, hb.1.2, by decide, by decide⟩ ⟨sh_39, by decide⟩ (fx_38_2 hF) (fx_38_4 hF) (fx_38_0 hF) ⟨hb.1, hX.1⟩ hb (by decide)) wv_RX11_193_yX9_read dX11_text_37 sh_38 rfl (by decide) rfl rfl (Nat.le_of_ble_eq_true rfl) ⟨Nat.zero_le _, Nat.zero_le _⟩ (fun r7 h7 q7 => ?_)
      obtain ⟨qz, eqz⟩ : ∃ z : sx_S, z = sc_q s fr 1 := ⟨_, rfl⟩
      have hqg : sx_gr s (0, 0, 0, fr) qz := by rw [eqz]; exact sc_q_ok hb
      have hqv := sx_pv_x hqg.1
      change sc_rp h 38 1 (h 38) s (sc_q s fr 1) r7 h7 at q7
      rw [← eqz] at q7
      obtain ⟨fr7, ⟨g0, g1, g2, g4, g6⟩, hor⟩ := q7
      have F7 : mh_FX h7 := sc_FX_t (t := 38) (by decide +kernel) hF fr7 (g0.trans (fx_38_0 hF).symm) g2 (g4.trans (fx_38_4 hF).symm) g6
      have fr8 : mh_fr [38, 39, 40] h h7 := (mh_fr.tr mh_fr.rf fr7).mono (by simp)
      rcases hor with ⟨hqc, rfl, g34, g3⟩ | ⟨hqc, rfl, g3, g34⟩
      · refine mh_istore2 (pc := 40) F dX11_text_40 rfl (by decide) ?_
        refine mh_aload0 (pc := 41) F dX11_text_41 ?_
        refine mh_getr (b := 25) (pc := 42) F sh_0 (by decide) fw_RX11_72_11 dX11_text_42 rfl (fx_0_0 F7) ?_
        refine mh_iconst (pc := 45) F dX11_text_45 ?_
        refine mh_puti (pc := 46) F sh_25 (by decide) pw_RX11_182_10 dX11_text_46 ?_
        refine mh_nmh (fun h9 e9 => ?_)
        have F9 : mh_FX h9 := by rw [e9]; exact F7.upz rfl
        have fr9 : mh_fr [25, 38, 39, 40] h h9 := mh_fr.up fr8 e9
        have hVn : sc_V h9 (mh_ur s 4 0) := sc_V_tx hV (fun a a1 a2 a3 => by rw [e9, mh_up_row (by omega)]; exact fr7 a (by simp; omega)) (fun i i0 i1 => mh_ur_ne (by omega)) (sc_N_b0 hV.2.2 (by rw [e9, mh_up_rs, fr7 25 (by decide)]) (fun i i0 i1 i2 => mh_ur_ne (by omega)) (by exact mh_ur_eq rfl)) (by rw [e9, mh_up_row (by decide), mh_up_row (by decide), fr7 33 (by decide), fr7 34 (by decide)]; exact sc_T_to2 hV.1.2.2.1 (fun i hi => mh_ur_ne (by omega))) (by rw [e9, mh_up_row (by decide), mh_up_row (by decide)]; exact sc_T_to2 (sc_T_ext hV.1.2.2.2 g1 g3 g34) (fun i hi => mh_ur_ne (by omega)))
        refine mh_iload2 (pc := 49) F dX11_text_49 ?_
        refine mh_if_ge (pc := 50) (tgt := 57) F dX11_text_50 rfl (by omega) (fun c_50 => ?_) (fun c_50 => ?_)
        · refine mh_bipush (pc := 57) F dX11_text_57 rfl ?_
          refine mh_iload2 (pc := 59) F dX11_text_59 ?_
          refine mh_isub (pc := 60) F dX11_text_60 ?_
          exact mh_ireturn F Z dX11_text_61 ⟨_, _, _, (by unfold sp_text; rw [if_neg (by omega), show sx_r s fr 1 = qz from eqz.symm, if_pos hqc]), rfl, F9, (fr9.mono (by simp)), hVn, (hE.of (fr9 24 (by simp)))⟩
        · exfalso; omega
      · refine mh_istore2 (pc := 40) F dX11_text_40 rfl (by decide) ?_
        refine mh_aload0 (pc := 41) F dX11_text_41 ?_
        refine mh_getr (b := 25) (pc := 42) F sh_0 (by decide) fw_RX11_72_11 dX11_text_42 rfl (fx_0_0 F7) ?_
        refine mh_iconst (pc := 45) F dX11_text_45 ?_
        refine mh_puti (pc := 46) F sh_25 (by decide) pw_RX11_182_10 dX11_text_46 ?_
        refine mh_nmh (fun h10 e10 => ?_)
        have F10 : mh_FX h10 := by rw [e10]; exact F7.upz rfl
        have fr10 : mh_fr [25, 38, 39, 40] h h10 := mh_fr.up fr8 e10
        have hVn : sc_V h10 (sx_cdx s qz.2.2.2 1 qz.2.2.1 qz.2.2.1) := sc_V_tx hV (fun a a1 a2 a3 => by rw [e10, mh_up_row (by omega)]; exact fr7 a (by simp; omega)) (fun i i0 i1 => sc_cdx_o (by decide) (by omega) (by omega) (by omega) (by omega)) (sc_N_b0 hV.2.2 (by rw [e10, mh_up_rs, fr7 25 (by decide)]) (fun i i0 i1 i2 => sc_cdx_o (by decide) (by omega) (by omega) (by omega) (by omega)) (by unfold sx_cdx; rw [if_pos rfl])) (by rw [e10, mh_up_row (by decide), mh_up_row (by decide), fr7 33 (by decide), fr7 34 (by decide)]; exact sc_T_to2 hV.1.2.2.1 (fun i hi => sc_cdx_o (by decide) (by omega) (by omega) (by omega) (by omega))) (by rw [e10, mh_up_row (by decide), mh_up_row (by decide)]; exact sc_T_new (by decide) hb hqg hqc (g1.trans hV.1.2.2.2.1) g3 g34)
        refine mh_iload2 (pc := 49) F dX11_text_49 ?_
        refine mh_if_ge (pc := 50) (tgt := 57) F dX11_text_50 rfl (by omega) (fun c_50 => ?_) (fun c_50 => ?_)
        · exact absurd c_50 (by decide)
        · refine mh_iconst (pc := 53) F dX11_text_53 ?_
          refine mh_goto (pc := 54) (tgt := 61) F dX11_text_54 rfl ?_
          exact mh_ireturn F Z dX11_text_61 ⟨_, _, _, (by unfold sp_text; rw [if_neg (by omega), show sx_r s fr 1 = qz from eqz.symm, if_neg hqc]), rfl, F10, (fr10.mono (by simp)), hVn, (hE.of (fr10 24 (by simp)))⟩
  · refine mh_aload0 (pc := 9) F dX11_text_9 ?_
    refine mh_iconst (pc := 10) F dX11_text_10 ?_
    refine mh_callV0 (pc := 11) (As := [.int (Int32.ofInt (1))]) (st := []) F (by omega) (k8_refuse (by omega) hF rfl (by decide)) wv_RX11_90_yX11_refuse dX11_text_11 sh_0 rfl (by decide) rfl rfl (Nat.le_of_ble_eq_true rfl) ⟨Nat.zero_le _, Nat.zero_le _⟩ (fun r11 h11 q11 => ?_)
    obtain ⟨rfl, F11, fr11, q11_0⟩ := q11
    have fr12 : mh_fr [24] h h11 := (mh_fr.tr mh_fr.rf fr11).mono (by simp)
    have hVr : sc_V h11 s := sc_V_fr hV (fun a a1 a2 a3 a4 => fr11 a (by simp; omega))
    have hEr : sc_E h11 (mh_ur er 1 (er 1 + 1)) := hE.up (by decide) q11_0
    exact mh_ireturn F Z dX11_text_14 ⟨_, _, _, (by unfold sp_text; rw [if_pos (by omega)]; rfl), rfl, F11, (fr12.mono (by simp)), hVr, hEr⟩

