/-! text -/
def sx_r (s fr : Int → Int) (u : Int) : sx_S := sx_T s (sx_Q s u 5) (0, 0, 0, fr)
def sx_cdx (s f : Int → Int) (u m x : Int) : Int → Int := fun i => if i = 4 then 0 else if i = 95 + u then m else if 97 + 50 * u ≤ i ∧ i < 97 + 50 * u + x then f (i - (97 + 50 * u)) else s i
def sp_text (u : Int) (s er fr : Int → Int) : Int × (Int → Int) × (Int → Int) :=
  if ¬ (0 ≤ u ∧ u ≤ 1) then (-1000000001, s, mh_ur er 1 (er 1 + 1))
  else if (sx_r s fr u).2.1 = 1 ∨ (sx_r s fr u).1 < s 4 then (-10 - (sx_r s fr u).1, mh_ur s 4 0, er)
  else (1, sx_cdx s (sx_r s fr u).2.2.2 u (sx_r s fr u).2.2.1 (sx_r s fr u).2.2.1, er)
theorem sx_r_ok {s fr : Int → Int} {u : Int} (hb : sx_by s) : sx_gr s (0, 0, 0, fr) (sx_r s fr u) := sx_T_gd hb (sx_Q_gd hb 5) (0, 0, 0, fr) ⟨⟨Int.le_refl _, hb.1.1⟩, ⟨Int.le_refl _, Int.le_refl _⟩, Or.inl rfl⟩
set_option maxRecDepth 100000 in
set_option maxHeartbeats 4000000 in
theorem p_text {g : mh_G} {d : Nat} (hd : 72 ≤ d) {h : Nat → Int → Int} (hF : mh_FX h) {s : Int → Int} (r82 : h 82 = s) {er : Int → Int} (r85 : h 85 = er) {o : Int → Int} (r81 : h 81 = o) {fr : Int → Int} (r88 : h 88 = fr) {u : Int} (hu : -2147483648 ≤ u ∧ u < 2147483648) (hb : sx_by s) : mh_M g d yX12_text cX12_text 3 (some .int) 96 0 0 [.ref 81, .int (Int32.ofInt (u))] h (fun r h2 => ∃ (vv : Int) (t0 : Int → Int) (t1 : Int → Int), (vv, t0, t1) = sp_text u s er fr ∧ r = some (.int (Int32.ofInt vv)) ∧ mh_FX h2 ∧ mh_fr [81, 82, 85, 88] h h2 ∧ h2 82 = t0 ∧ h2 85 = t1 ∧ sx_fo o (h2 81)) := by
  refine mh_M_of RX12 rfl (by decide +kernel) [some (.ref 81), some (.int (Int32.ofInt (u))), none] rfl (Nat.le_of_ble_eq_true rfl) (fun f F Z hn0 hR => ?_)
  have hb1 := hb.1
  refine mh_iload1 (pc := 0) F dX12_text_0 ?_
  refine mh_i2l (pc := 1) F dX12_text_1 (by omega) ?_
  refine mh_lconst (x := 0) (pc := 2) F dX12_text_2 rfl ?_
  refine mh_lconst (x := 1) (pc := 3) F dX12_text_3 rfl ?_
  refine mh_callSp (pc := 4) (As := [.long (Int64.ofInt (u)), .long (Int64.ofInt (0)), .long (Int64.ofInt (1))]) (st := []) F (by omega) (k_in (by omega) (by omega) (by omega) (by omega)) ws_RX12_69 dX12_text_4 rfl rfl (Nat.le_of_ble_eq_true rfl) ⟨Nat.zero_le _, Nat.zero_le _⟩ ?_
  refine mh_ifb_ne (pc := 7) (tgt := 16) F dX12_text_7 rfl (fun c_7 => ?_) (fun c_7 => ?_)
  · refine mh_aload0 (pc := 16) F dX12_text_16 ?_
    refine mh_iconst (pc := 17) F dX12_text_17 ?_
    refine mh_puti (pc := 18) F sh_81 (by decide) pw_RX12_180_12 dX12_text_18 ?_
    refine mh_nmh (fun h1 e1 => ?_)
    have F1 : mh_FX h1 := by rw [e1]; exact hF.upz rfl
    have r82_1 : h1 82 = s := by rw [e1, mh_up_row (by decide)]; exact r82
    have r85_1 : h1 85 = er := by rw [e1, mh_up_row (by decide)]; exact r85
    have r81_1 : h1 81 = mh_ur o 10 0 := by rw [e1, mh_up_rs, r81]
    have r88_1 : h1 88 = fr := by rw [e1, mh_up_row (by decide)]; exact r88
    have fr1 : mh_fr [81] h h1 := mh_fr.up mh_fr.rf e1
    refine mh_aload0 (pc := 21) F dX12_text_21 ?_
    refine mh_iconst (pc := 22) F dX12_text_22 ?_
    refine mh_puti (pc := 23) F sh_81 (by decide) pw_RX12_209_12 dX12_text_23 ?_
    refine mh_nmh (fun h2 e2 => ?_)
    have F2 : mh_FX h2 := by rw [e2]; exact F1.upz rfl
    have r82_2 : h2 82 = s := by rw [e2, mh_up_row (by decide)]; exact r82_1
    have r85_2 : h2 85 = er := by rw [e2, mh_up_row (by decide)]; exact r85_1
    have r81_2 : h2 81 = mh_ur (mh_ur o 10 0) 11 0 := by rw [e2, mh_up_rs, r81_1]
    have r88_2 : h2 88 = fr := by rw [e2, mh_up_row (by decide)]; exact r88_1
    have fr2 : mh_fr [81] h h2 := mh_fr.upi fr1 e2 (by simp)
    refine mh_aload0 (pc := 26) F dX12_text_26 ?_
    refine mh_iconst (pc := 27) F dX12_text_27 ?_
    refine mh_puti (pc := 28) F sh_81 (by decide) pw_RX12_196_12 dX12_text_28 ?_
    refine mh_nmh (fun h3 e3 => ?_)
    have F3 : mh_FX h3 := by rw [e3]; exact F2.upz rfl
    have r82_3 : h3 82 = s := by rw [e3, mh_up_row (by decide)]; exact r82_2
    have r85_3 : h3 85 = er := by rw [e3, mh_up_row (by decide)]; exact r85_2
    have r81_3 : h3 81 = mh_ur (mh_ur (mh_ur o 10 0) 11 0) 9 0 := by rw [e3, mh_up_rs, r81_2]
    have r88_3 : h3 88 = fr := by rw [e3, mh_up_row (by decide)]; exact r88_2
    have fr3 : mh_fr [81] h h3 := mh_fr.upi fr2 e3 (by simp)
    refine mh_aload0 (pc := 31) F dX12_text_31 ?_
    refine mh_iload1 (pc := 32) F dX12_text_32 ?_
    refine mh_puti (pc := 33) F sh_81 (by decide) pw_RX12_199_12 dX12_text_33 ?_
    refine mh_nmh (fun h4 e4 => ?_)
    have F4 : mh_FX h4 := by rw [e4]; exact F3.upz rfl
    have r82_4 : h4 82 = s := by rw [e4, mh_up_row (by decide)]; exact r82_3
    have r85_4 : h4 85 = er := by rw [e4, mh_up_row (by decide)]; exact r85_3
    have r81_4 : h4 81 = mh_ur (mh_ur (mh_ur (mh_ur o 10 0) 11 0) 9 0) 12 u := by rw [e4, mh_up_rs, r81_3]
    have r88_4 : h4 88 = fr := by rw [e4, mh_up_row (by decide)]; exact r88_3
    have fr4 : mh_fr [81] h h4 := mh_fr.upi fr3 e4 (by simp)
    refine mh_aload0 (pc := 36) F dX12_text_36 ?_
    refine mh_iconst (pc := 37) F dX12_text_37 ?_
    refine mh_putz (pc := 38) F sh_81 (by decide) pw_RX12_184_12 dX12_text_38 (by omega) ?_
    refine mh_nmh (fun h5 e5 => ?_)
    have F5 : mh_FX h5 := by rw [e5]; exact F4.upz rfl
    have r82_5 : h5 82 = s := by rw [e5, mh_up_row (by decide)]; exact r82_4
    have r85_5 : h5 85 = er := by rw [e5, mh_up_row (by decide)]; exact r85_4
    have r81_5 : h5 81 = mh_ur (mh_ur (mh_ur (mh_ur (mh_ur o 10 0) 11 0) 9 0) 12 u) 13 0 := by rw [e5, mh_up_rs, r81_4]
    have r88_5 : h5 88 = fr := by rw [e5, mh_up_row (by decide)]; exact r88_4
    have fr5 : mh_fr [81] h h5 := mh_fr.upi fr4 e5 (by simp)
    obtain ⟨o1, eo1⟩ : ∃ z : Int → Int, z = mh_ur (mh_ur (mh_ur (mh_ur (mh_ur o 10 0) 11 0) 9 0) 12 u) 13 0 := ⟨_, rfl⟩
    rw [← eo1] at r81_5
    have hs : sx_is o1 fr (0, 0, 0, fr) u 0 := ⟨by rw [eo1]; simp [mh_ur], by rw [eo1]; simp [mh_ur], by rw [eo1]; simp [mh_ur], rfl, by rw [eo1]; simp [mh_ur], by rw [eo1]; simp [mh_ur]⟩
    have hp : sx_pv s (0, 0, 0, fr) := ⟨⟨Int.le_refl _, hb.1.1⟩, ⟨Int.le_refl _, Int.le_refl _⟩, Or.inl rfl⟩
    have h6 : sx_w6 0 (0, 0, 0, fr) := fun z => absurd z (by decide)
    have hfo : sx_fo o o1 := fun i a b c d e => by rw [eo1]; simp [mh_ur, a, b, c, d, e]
    refine mh_aload0 (pc := 41) F dX12_text_41 ?_
    refine mh_callV0 (pc := 42) (As := []) (st := []) F (by omega) (k_tT hb (by omega) (by omega) _ _ _ _ F5 r82_5 r81_5 r88_5 hs hp h6) wv_RX12_224_yX12_t dX12_text_42 sh_81 rfl (by decide) rfl rfl (Nat.le_of_ble_eq_true rfl) ⟨Nat.zero_le _, Nat.zero_le _⟩ (fun r6 h6 q6 => ?_)
    obtain ⟨rfl, F6, fr6, hs, hfk⟩ := q6
    obtain ⟨o6, eo6⟩ : ∃ z : Int → Int, z = h6 81 := ⟨_, rfl⟩
    obtain ⟨f6, ef6⟩ : ∃ z : Int → Int, z = h6 88 := ⟨_, rfl⟩
    rw [← eo6, ← ef6] at hs
    rw [← eo6] at hfk
    have r82_7 : h6 82 = s := (fr6 _ (by decide)).trans r82_5
    have r85_7 : h6 85 = er := (fr6 _ (by decide)).trans r85_5
    have fr7 : mh_fr [88, 81] h h6 := (mh_fr.tr fr5 fr6).mono (by simp)
    have hfo := hfo.tr hfk
    obtain ⟨p6, ep6⟩ : ∃ z : sx_S, z = sx_T s (sx_Q s u 5) (0, 0, 0, fr) := ⟨_, rfl⟩
    have hpn := (sx_r_ok (fr := fr) (u := u) hb).1
    have hq4s : (0 ≤ s 4 ∧ s 4 ≤ 50) := hb.1
    rw [← ep6] at hs
    have hp : sx_pv s p6 := by rw [ep6]; exact hpn
    obtain ⟨hrr, hzz⟩ := sx_hr_z hb hp
    obtain ⟨hp1, hp2, hp3⟩ := sx_pv_x hp
    obtain ⟨hs1, hs2, hs3, hs4, hs5, hs6⟩ := id hs
    have hq6 := h6
    refine mh_aload0 (pc := 45) F dX12_text_45 ?_
    refine mh_aload0 (pc := 46) F dX12_text_46 ?_
    refine mh_getir (pc := 47) F sh_81 (by decide) fw_RX12_184_12 dX12_text_47 rfl eo6.symm ?_
    refine mh_if_ne (pc := 50) (tgt := 66) F dX12_text_50 rfl (by omega) (fun c_50 => ?_) (fun c_50 => ?_)
    · refine mh_iconst (pc := 66) F dX12_text_66 ?_
      refine mh_goto (pc := 67) (tgt := 71) F dX12_text_67 rfl ?_
      refine mh_putz (pc := 71) F sh_81 (by decide) pw_RX12_184_12 dX12_text_71 (by omega) ?_
      refine mh_nmh (fun h8 e8 => ?_)
      have F8 : mh_FX h8 := by rw [e8]; exact F6.upz rfl
      have r82_8 : h8 82 = s := by rw [e8, mh_up_row (by decide)]; exact r82_7
      have r85_8 : h8 85 = er := by rw [e8, mh_up_row (by decide)]; exact r85_7
      have r81_8 : h8 81 = mh_ur o6 13 1 := by rw [e8, mh_up_rs, eo6.symm]
      have r88_8 : h8 88 = f6 := by rw [e8, mh_up_row (by decide)]; exact ef6.symm
      have fr8 : mh_fr [88, 81] h h8 := mh_fr.upi fr7 e8 (by simp)
      obtain ⟨o2, eo2⟩ : ∃ z : Int → Int, z = mh_ur o6 13 1 := ⟨_, rfl⟩
      rw [← eo2] at r81_8
      have z13 : o2 13 = 1 := by rw [eo2]; exact mh_ur_eq rfl
      have z10 : o2 10 = p6.1 := by rw [eo2, mh_ur_ne (by decide)]; exact hs1
      have z9 : o2 9 = p6.2.2.1 := by rw [eo2, mh_ur_ne (by decide)]; exact hs3
      have hfo := hfo.up (i := 13) (v := 1) (by decide)
      rw [← eo2] at hfo
      refine mh_aload0 (pc := 74) F dX12_text_74 ?_
      refine mh_getr (b := 82) (pc := 75) F sh_81 (by decide) fw_RX12_9_12 dX12_text_75 rfl (fx_81_0 F8) ?_
      refine mh_iconst (pc := 78) F dX12_text_78 ?_
      refine mh_iconst (pc := 79) F dX12_text_79 ?_
      refine mh_iastore (pc := 80) F sh_82 (by decide) (by omega) dX12_text_80 ?_
      refine mh_nmh (fun h9 e9 => ?_)
      have F9 : mh_FX h9 := by rw [e9]; exact F8.upa rfl
      have r82_9 : h9 82 = mh_ur s 4 0 := by rw [e9, mh_up_rs, r82_8]
      obtain ⟨s1, es1⟩ : ∃ z : Int → Int, z = mh_ur s 4 0 := ⟨_, rfl⟩
      rw [← es1] at r82_9
      have r85_9 : h9 85 = er := by rw [e9, mh_up_row (by decide)]; exact r85_8
      have r81_9 : h9 81 = o2 := by rw [e9, mh_up_row (by decide)]; exact r81_8
      have r88_9 : h9 88 = f6 := by rw [e9, mh_up_row (by decide)]; exact r88_8
      have fr9 : mh_fr [82, 88, 81] h h9 := mh_fr.up fr8 e9
      refine mh_aload0 (pc := 81) F dX12_text_81 ?_
      refine mh_getir (pc := 82) F sh_81 (by decide) fw_RX12_184_12 dX12_text_82 rfl r81_9 ?_
      refine mh_if_eq (pc := 85) (tgt := 96) F dX12_text_85 rfl (by omega) (fun c_85 => ?_) (fun c_85 => ?_)
      · refine mh_aload0 (pc := 96) F dX12_text_96 ?_
        refine mh_getr (b := 82) (pc := 97) F sh_81 (by decide) fw_RX12_9_12 dX12_text_97 rfl (fx_81_0 F9) ?_
        refine mh_bipush (pc := 100) F dX12_text_100 rfl ?_
        refine mh_iload1 (pc := 102) F dX12_text_102 ?_
        refine mh_iadd (pc := 103) F dX12_text_103 ?_
        refine mh_aload0 (pc := 104) F dX12_text_104 ?_
        refine mh_getir (pc := 105) F sh_81 (by decide) fw_RX12_196_12 dX12_text_105 rfl r81_9 ?_
        refine mh_iastore (pc := 108) F sh_82 (by decide) (by omega) dX12_text_108 ?_
        refine mh_nmh (fun h10 e10 => ?_)
        have F10 : mh_FX h10 := by rw [e10]; exact F9.upa rfl
        have r82_10 : h10 82 = mh_ur s1 (95 + u) (o2 9) := by rw [e10, mh_up_rs, r82_9]
        obtain ⟨s2, es2⟩ : ∃ z : Int → Int, z = mh_ur s1 (95 + u) (o2 9) := ⟨_, rfl⟩
        rw [← es2] at r82_10
        have r85_10 : h10 85 = er := by rw [e10, mh_up_row (by decide)]; exact r85_9
        have r81_10 : h10 81 = o2 := by rw [e10, mh_up_row (by decide)]; exact r81_9
        have r88_10 : h10 88 = f6 := by rw [e10, mh_up_row (by decide)]; exact r88_9
        have fr10 : mh_fr [82, 88, 81] h h10 := mh_fr.upi fr9 e10 (by simp)
        obtain ⟨fz, efz⟩ : ∃ z : Int → Int, z = f6 := ⟨_, rfl⟩
        rw [← efz] at r88_10
        have hzf : fz = p6.2.2.2 := by rw [efz]; exact hs4
        have hz9 := z9
        refine mh_iconst (pc := 109) F dX12_text_109 ?_
        refine mh_istore2 (pc := 110) F dX12_text_110 rfl (by decide) ?_
        have L111 : ∀ (m : Nat) (x : Int) (hh : Nat → Int → Int) (t : Int → Int), (mh_FX hh) → (mh_fr [81, 82, 88] h hh) → (hh 82 = t) → (hh 85 = er) → (hh 81 = o2) → (hh 88 = fz) → (0 ≤ x ∧ x ≤ o2 9) → (t = sx_cdx s fz u (o2 9) x) → (o2 9 - x).toNat = m → mh_V g f 3 96 0 0 111 [some (.ref 81), some (.int (Int32.ofInt (u))), some (.int (Int32.ofInt (x)))] [] hh := by
          intro m
          induction m using Nat.strongRecOn with
          | _ m ihL111 =>
          intro x hh t Fhh frhh q82hh q85hh q81hh q88hh hx ht hmz
          refine mh_iload2 (pc := 111) F dX12_text_111 ?_
          refine mh_aload0 (pc := 112) F dX12_text_112 ?_
          refine mh_getir (pc := 113) F sh_81 (by decide) fw_RX12_196_12 dX12_text_113 rfl q81hh ?_
          refine mh_icmp_ge (pc := 116) (tgt := 145) F dX12_text_116 rfl (by omega) (by omega) (fun c_116 => ?_) (fun c_116 => ?_)
          · refine mh_iconst (pc := 145) F dX12_text_145 ?_
            exact mh_ireturn F Z dX12_text_146 ⟨_, _, _, (by unfold sp_text sx_r; rw [← ep6, if_neg (by omega), if_neg (by omega), ← hz9, ← hzf, ht, show o2 9 = x by omega]), rfl, Fhh, (frhh.mono (by simp)), q82hh, q85hh, (by rw [q81hh]; first | exact hfo | exact sx_fo.rf)⟩
          · refine mh_aload0 (pc := 119) F dX12_text_119 ?_
            refine mh_getr (b := 82) (pc := 120) F sh_81 (by decide) fw_RX12_9_12 dX12_text_120 rfl (fx_81_0 Fhh) ?_
            refine mh_bipush (pc := 123) F dX12_text_123 rfl ?_
            refine mh_bipush (pc := 125) F dX12_text_125 rfl ?_
            refine mh_iload1 (pc := 127) F dX12_text_127 ?_
            refine mh_imul (pc := 128) F dX12_text_128 ?_
            refine mh_iadd (pc := 129) F dX12_text_129 ?_
            refine mh_iload2 (pc := 130) F dX12_text_130 ?_
            refine mh_iadd (pc := 131) F dX12_text_131 ?_
            refine mh_aload0 (pc := 132) F dX12_text_132 ?_
            refine mh_getr (b := 88) (pc := 133) F sh_81 (by decide) fw_RX12_28_12 dX12_text_133 rfl (fx_81_8 Fhh) ?_
            refine mh_iload2 (pc := 136) F dX12_text_136 ?_
            refine mh_ialoadr (pc := 137) F sh_88 (by decide) (by omega) dX12_text_137 q88hh ?_
            refine mh_iastore (pc := 138) F sh_82 (by decide) (by omega) dX12_text_138 ?_
            refine mh_nmh (fun h11 e11 => ?_)
            have F11 : mh_FX h11 := by rw [e11]; exact Fhh.upa rfl
            have r82_11 : h11 82 = mh_ur t ((97 + (50 * u)) + x) (fz x) := by rw [e11, mh_up_rs, q82hh]
            have r85_11 : h11 85 = er := by rw [e11, mh_up_row (by decide)]; exact q85hh
            have r81_11 : h11 81 = o2 := by rw [e11, mh_up_row (by decide)]; exact q81hh
            have r88_11 : h11 88 = fz := by rw [e11, mh_up_row (by decide)]; exact q88hh
            have fr11 : mh_fr [81, 82, 88] h h11 := mh_fr.upi frhh e11 (by simp)
            refine mh_iinc2 (pc := 139) F dX12_text_139 rfl (by decide) ?_
            refine mh_goto (pc := 142) (tgt := 111) F dX12_text_142 rfl ?_
            exact ihL111 _ (by omega) (x + 1) h11 (mh_ur t ((97 + (50 * u)) + x) (fz x)) F11 (fr11.mono (by simp)) r82_11 r85_11 r81_11 r88_11 (by omega) (by rw [ht]; funext i; unfold mh_ur sx_cdx; (repeat' split) <;> first | rfl | (exfalso; omega) | (congr 1; omega)) rfl
        exact L111 _ 0 h10 s2 F10 (fr10.mono (by simp)) r82_10 r85_10 r81_10 r88_10 (by omega) (by rw [es2, es1]; funext i; unfold mh_ur sx_cdx; (repeat' split) <;> first | rfl | (exfalso; omega)) rfl
      · refine mh_bipush (pc := 88) F dX12_text_88 rfl ?_
        refine mh_aload0 (pc := 90) F dX12_text_90 ?_
        refine mh_getir (pc := 91) F sh_81 (by decide) fw_RX12_180_12 dX12_text_91 rfl r81_9 ?_
        refine mh_isub (pc := 94) F dX12_text_94 ?_
        exact mh_ireturn F Z dX12_text_95 ⟨_, _, _, (by unfold sp_text sx_r; rw [← ep6, if_neg (by omega), if_pos (by omega), ← z10, es1]), rfl, F9, (fr9.mono (by simp)), r82_9, r85_9, (by rw [r81_9]; first | exact hfo | exact sx_fo.rf)⟩
    · refine mh_aload0 (pc := 53) F dX12_text_53 ?_
      refine mh_getir (pc := 54) F sh_81 (by decide) fw_RX12_180_12 dX12_text_54 rfl eo6.symm ?_
      refine mh_aload0 (pc := 57) F dX12_text_57 ?_
      refine mh_getr (b := 82) (pc := 58) F sh_81 (by decide) fw_RX12_9_12 dX12_text_58 rfl (fx_81_0 F6) ?_
      refine mh_iconst (pc := 61) F dX12_text_61 ?_
      refine mh_ialoadr (pc := 62) F sh_82 (by decide) (by omega) dX12_text_62 r82_7 ?_
      refine mh_icmp_ge (pc := 63) (tgt := 70) F dX12_text_63 rfl (by omega) (by omega) (fun c_63 => ?_) (fun c_63 => ?_)
      · refine mh_iconst (pc := 70) F dX12_text_70 ?_
        refine mh_putz (pc := 71) F sh_81 (by decide) pw_RX12_184_12 dX12_text_71 (by omega) ?_
        refine mh_nmh (fun h12 e12 => ?_)
        have F12 : mh_FX h12 := by rw [e12]; exact F6.upz rfl
        have r82_12 : h12 82 = s := by rw [e12, mh_up_row (by decide)]; exact r82_7
        have r85_12 : h12 85 = er := by rw [e12, mh_up_row (by decide)]; exact r85_7
        have r81_12 : h12 81 = mh_ur o6 13 0 := by rw [e12, mh_up_rs, eo6.symm]
        have r88_12 : h12 88 = f6 := by rw [e12, mh_up_row (by decide)]; exact ef6.symm
        have fr12 : mh_fr [88, 81] h h12 := mh_fr.upi fr7 e12 (by simp)
        obtain ⟨o2, eo2⟩ : ∃ z : Int → Int, z = mh_ur o6 13 0 := ⟨_, rfl⟩
        rw [← eo2] at r81_12
        have z13 : o2 13 = 0 := by rw [eo2]; exact mh_ur_eq rfl
        have z10 : o2 10 = p6.1 := by rw [eo2, mh_ur_ne (by decide)]; exact hs1
        have z9 : o2 9 = p6.2.2.1 := by rw [eo2, mh_ur_ne (by decide)]; exact hs3
        have hfo := hfo.up (i := 13) (v := 0) (by decide)
        rw [← eo2] at hfo
        refine mh_aload0 (pc := 74) F dX12_text_74 ?_
        refine mh_getr (b := 82) (pc := 75) F sh_81 (by decide) fw_RX12_9_12 dX12_text_75 rfl (fx_81_0 F12) ?_
        refine mh_iconst (pc := 78) F dX12_text_78 ?_
        refine mh_iconst (pc := 79) F dX12_text_79 ?_
        refine mh_iastore (pc := 80) F sh_82 (by decide) (by omega) dX12_text_80 ?_
        refine mh_nmh (fun h13 e13 => ?_)
        have F13 : mh_FX h13 := by rw [e13]; exact F12.upa rfl
        have r82_13 : h13 82 = mh_ur s 4 0 := by rw [e13, mh_up_rs, r82_12]
        obtain ⟨s1, es1⟩ : ∃ z : Int → Int, z = mh_ur s 4 0 := ⟨_, rfl⟩
        rw [← es1] at r82_13
        have r85_13 : h13 85 = er := by rw [e13, mh_up_row (by decide)]; exact r85_12
        have r81_13 : h13 81 = o2 := by rw [e13, mh_up_row (by decide)]; exact r81_12
        have r88_13 : h13 88 = f6 := by rw [e13, mh_up_row (by decide)]; exact r88_12
        have fr13 : mh_fr [82, 88, 81] h h13 := mh_fr.up fr12 e13
        refine mh_aload0 (pc := 81) F dX12_text_81 ?_
        refine mh_getir (pc := 82) F sh_81 (by decide) fw_RX12_184_12 dX12_text_82 rfl r81_13 ?_
        refine mh_if_eq (pc := 85) (tgt := 96) F dX12_text_85 rfl (by omega) (fun c_85 => ?_) (fun c_85 => ?_)
        · refine mh_aload0 (pc := 96) F dX12_text_96 ?_
          refine mh_getr (b := 82) (pc := 97) F sh_81 (by decide) fw_RX12_9_12 dX12_text_97 rfl (fx_81_0 F13) ?_
          refine mh_bipush (pc := 100) F dX12_text_100 rfl ?_
          refine mh_iload1 (pc := 102) F dX12_text_102 ?_
          refine mh_iadd (pc := 103) F dX12_text_103 ?_
          refine mh_aload0 (pc := 104) F dX12_text_104 ?_
          refine mh_getir (pc := 105) F sh_81 (by decide) fw_RX12_196_12 dX12_text_105 rfl r81_13 ?_
          refine mh_iastore (pc := 108) F sh_82 (by decide) (by omega) dX12_text_108 ?_
          refine mh_nmh (fun h14 e14 => ?_)
          have F14 : mh_FX h14 := by rw [e14]; exact F13.upa rfl
          have r82_14 : h14 82 = mh_ur s1 (95 + u) (o2 9) := by rw [e14, mh_up_rs, r82_13]
          obtain ⟨s2, es2⟩ : ∃ z : Int → Int, z = mh_ur s1 (95 + u) (o2 9) := ⟨_, rfl⟩
          rw [← es2] at r82_14
          have r85_14 : h14 85 = er := by rw [e14, mh_up_row (by decide)]; exact r85_13
          have r81_14 : h14 81 = o2 := by rw [e14, mh_up_row (by decide)]; exact r81_13
          have r88_14 : h14 88 = f6 := by rw [e14, mh_up_row (by decide)]; exact r88_13
          have fr14 : mh_fr [82, 88, 81] h h14 := mh_fr.upi fr13 e14 (by simp)
          obtain ⟨fz, efz⟩ : ∃ z : Int → Int, z = f6 := ⟨_, rfl⟩
          rw [← efz] at r88_14
          have hzf : fz = p6.2.2.2 := by rw [efz]; exact hs4
          have hz9 := z9
          refine mh_iconst (pc := 109) F dX12_text_109 ?_
          refine mh_istore2 (pc := 110) F dX12_text_110 rfl (by decide) ?_
          have L111 : ∀ (m : Nat) (x : Int) (hh : Nat → Int → Int) (t : Int → Int), (mh_FX hh) → (mh_fr [81, 82, 88] h hh) → (hh 82 = t) → (hh 85 = er) → (hh 81 = o2) → (hh 88 = fz) → (0 ≤ x ∧ x ≤ o2 9) → (t = sx_cdx s fz u (o2 9) x) → (o2 9 - x).toNat = m → mh_V g f 3 96 0 0 111 [some (.ref 81), some (.int (Int32.ofInt (u))), some (.int (Int32.ofInt (x)))] [] hh := by
            intro m
            induction m using Nat.strongRecOn with
            | _ m ihL111 =>
            intro x hh t Fhh frhh q82hh q85hh q81hh q88hh hx ht hmz
            refine mh_iload2 (pc := 111) F dX12_text_111 ?_
            refine mh_aload0 (pc := 112) F dX12_text_112 ?_
            refine mh_getir (pc := 113) F sh_81 (by decide) fw_RX12_196_12 dX12_text_113 rfl q81hh ?_
            refine mh_icmp_ge (pc := 116) (tgt := 145) F dX12_text_116 rfl (by omega) (by omega) (fun c_116 => ?_) (fun c_116 => ?_)
            · refine mh_iconst (pc := 145) F dX12_text_145 ?_
              exact mh_ireturn F Z dX12_text_146 ⟨_, _, _, (by unfold sp_text sx_r; rw [← ep6, if_neg (by omega), if_neg (by omega), ← hz9, ← hzf, ht, show o2 9 = x by omega]), rfl, Fhh, (frhh.mono (by simp)), q82hh, q85hh, (by rw [q81hh]; first | exact hfo | exact sx_fo.rf)⟩
            · refine mh_aload0 (pc := 119) F dX12_text_119 ?_
              refine mh_getr (b := 82) (pc := 120) F sh_81 (by decide) fw_RX12_9_12 dX12_text_120 rfl (fx_81_0 Fhh) ?_
              refine mh_bipush (pc := 123) F dX12_text_123 rfl ?_
              refine mh_bipush (pc := 125) F dX12_text_125 rfl ?_
              refine mh_iload1 (pc := 127) F dX12_text_127 ?_
              refine mh_imul (pc := 128) F dX12_text_128 ?_
              refine mh_iadd (pc := 129) F dX12_text_129 ?_
              refine mh_iload2 (pc := 130) F dX12_text_130 ?_
              refine mh_iadd (pc := 131) F dX12_text_131 ?_
              refine mh_aload0 (pc := 132) F dX12_text_132 ?_
              refine mh_getr (b := 88) (pc := 133) F sh_81 (by decide) fw_RX12_28_12 dX12_text_133 rfl (fx_81_8 Fhh) ?_
              refine mh_iload2 (pc := 136) F dX12_text_136 ?_
              refine mh_ialoadr (pc := 137) F sh_88 (by decide) (by omega) dX12_text_137 q88hh ?_
              refine mh_iastore (pc := 138) F sh_82 (by decide) (by omega) dX12_text_138 ?_
              refine mh_nmh (fun h15 e15 => ?_)
              have F15 : mh_FX h15 := by rw [e15]; exact Fhh.upa rfl
              have r82_15 : h15 82 = mh_ur t ((97 + (50 * u)) + x) (fz x) := by rw [e15, mh_up_rs, q82hh]
              have r85_15 : h15 85 = er := by rw [e15, mh_up_row (by decide)]; exact q85hh
              have r81_15 : h15 81 = o2 := by rw [e15, mh_up_row (by decide)]; exact q81hh
              have r88_15 : h15 88 = fz := by rw [e15, mh_up_row (by decide)]; exact q88hh
              have fr15 : mh_fr [81, 82, 88] h h15 := mh_fr.upi frhh e15 (by simp)
              refine mh_iinc2 (pc := 139) F dX12_text_139 rfl (by decide) ?_
              refine mh_goto (pc := 142) (tgt := 111) F dX12_text_142 rfl ?_
              exact ihL111 _ (by omega) (x + 1) h15 (mh_ur t ((97 + (50 * u)) + x) (fz x)) F15 (fr15.mono (by simp)) r82_15 r85_15 r81_15 r88_15 (by omega) (by rw [ht]; funext i; unfold mh_ur sx_cdx; (repeat' split) <;> first | rfl | (exfalso; omega) | (congr 1; omega)) rfl
          exact L111 _ 0 h14 s2 F14 (fr14.mono (by simp)) r82_14 r85_14 r81_14 r88_14 (by omega) (by rw [es2, es1]; funext i; unfold mh_ur sx_cdx; (repeat' split) <;> first | rfl | (exfalso; omega)) rfl
        · refine mh_bipush (pc := 88) F dX12_text_88 rfl ?_
          refine mh_aload0 (pc := 90) F dX12_text_90 ?_
          refine mh_getir (pc := 91) F sh_81 (by decide) fw_RX12_180_12 dX12_text_91 rfl r81_13 ?_
          refine mh_isub (pc := 94) F dX12_text_94 ?_
          exact mh_ireturn F Z dX12_text_95 ⟨_, _, _, (by unfold sp_text sx_r; rw [← ep6, if_neg (by omega), if_pos (by omega), ← z10, es1]), rfl, F13, (fr13.mono (by simp)), r82_13, r85_13, (by rw [r81_13]; first | exact hfo | exact sx_fo.rf)⟩
      · refine mh_iconst (pc := 66) F dX12_text_66 ?_
        refine mh_goto (pc := 67) (tgt := 71) F dX12_text_67 rfl ?_
        refine mh_putz (pc := 71) F sh_81 (by decide) pw_RX12_184_12 dX12_text_71 (by omega) ?_
        refine mh_nmh (fun h16 e16 => ?_)
        have F16 : mh_FX h16 := by rw [e16]; exact F6.upz rfl
        have r82_16 : h16 82 = s := by rw [e16, mh_up_row (by decide)]; exact r82_7
        have r85_16 : h16 85 = er := by rw [e16, mh_up_row (by decide)]; exact r85_7
        have r81_16 : h16 81 = mh_ur o6 13 1 := by rw [e16, mh_up_rs, eo6.symm]
        have r88_16 : h16 88 = f6 := by rw [e16, mh_up_row (by decide)]; exact ef6.symm
        have fr16 : mh_fr [88, 81] h h16 := mh_fr.upi fr7 e16 (by simp)
        obtain ⟨o2, eo2⟩ : ∃ z : Int → Int, z = mh_ur o6 13 1 := ⟨_, rfl⟩
        rw [← eo2] at r81_16
        have z13 : o2 13 = 1 := by rw [eo2]; exact mh_ur_eq rfl
        have z10 : o2 10 = p6.1 := by rw [eo2, mh_ur_ne (by decide)]; exact hs1
        have z9 : o2 9 = p6.2.2.1 := by rw [eo2, mh_ur_ne (by decide)]; exact hs3
        have hfo := hfo.up (i := 13) (v := 1) (by decide)
        rw [← eo2] at hfo
        refine mh_aload0 (pc := 74) F dX12_text_74 ?_
        refine mh_getr (b := 82) (pc := 75) F sh_81 (by decide) fw_RX12_9_12 dX12_text_75 rfl (fx_81_0 F16) ?_
        refine mh_iconst (pc := 78) F dX12_text_78 ?_
        refine mh_iconst (pc := 79) F dX12_text_79 ?_
        refine mh_iastore (pc := 80) F sh_82 (by decide) (by omega) dX12_text_80 ?_
        refine mh_nmh (fun h17 e17 => ?_)
        have F17 : mh_FX h17 := by rw [e17]; exact F16.upa rfl
        have r82_17 : h17 82 = mh_ur s 4 0 := by rw [e17, mh_up_rs, r82_16]
        obtain ⟨s1, es1⟩ : ∃ z : Int → Int, z = mh_ur s 4 0 := ⟨_, rfl⟩
        rw [← es1] at r82_17
        have r85_17 : h17 85 = er := by rw [e17, mh_up_row (by decide)]; exact r85_16
        have r81_17 : h17 81 = o2 := by rw [e17, mh_up_row (by decide)]; exact r81_16
        have r88_17 : h17 88 = f6 := by rw [e17, mh_up_row (by decide)]; exact r88_16
        have fr17 : mh_fr [82, 88, 81] h h17 := mh_fr.up fr16 e17
        refine mh_aload0 (pc := 81) F dX12_text_81 ?_
        refine mh_getir (pc := 82) F sh_81 (by decide) fw_RX12_184_12 dX12_text_82 rfl r81_17 ?_
        refine mh_if_eq (pc := 85) (tgt := 96) F dX12_text_85 rfl (by omega) (fun c_85 => ?_) (fun c_85 => ?_)
        · refine mh_aload0 (pc := 96) F dX12_text_96 ?_
          refine mh_getr (b := 82) (pc := 97) F sh_81 (by decide) fw_RX12_9_12 dX12_text_97 rfl (fx_81_0 F17) ?_
          refine mh_bipush (pc := 100) F dX12_text_100 rfl ?_
          refine mh_iload1 (pc := 102) F dX12_text_102 ?_
          refine mh_iadd (pc := 103) F dX12_text_103 ?_
          refine mh_aload0 (pc := 104) F dX12_text_104 ?_
          refine mh_getir (pc := 105) F sh_81 (by decide) fw_RX12_196_12 dX12_text_105 rfl r81_17 ?_
          refine mh_iastore (pc := 108) F sh_82 (by decide) (by omega) dX12_text_108 ?_
          refine mh_nmh (fun h18 e18 => ?_)
          have F18 : mh_FX h18 := by rw [e18]; exact F17.upa rfl
          have r82_18 : h18 82 = mh_ur s1 (95 + u) (o2 9) := by rw [e18, mh_up_rs, r82_17]
          obtain ⟨s2, es2⟩ : ∃ z : Int → Int, z = mh_ur s1 (95 + u) (o2 9) := ⟨_, rfl⟩
          rw [← es2] at r82_18
          have r85_18 : h18 85 = er := by rw [e18, mh_up_row (by decide)]; exact r85_17
          have r81_18 : h18 81 = o2 := by rw [e18, mh_up_row (by decide)]; exact r81_17
          have r88_18 : h18 88 = f6 := by rw [e18, mh_up_row (by decide)]; exact r88_17
          have fr18 : mh_fr [82, 88, 81] h h18 := mh_fr.upi fr17 e18 (by simp)
          obtain ⟨fz, efz⟩ : ∃ z : Int → Int, z = f6 := ⟨_, rfl⟩
          rw [← efz] at r88_18
          have hzf : fz = p6.2.2.2 := by rw [efz]; exact hs4
          have hz9 := z9
          refine mh_iconst (pc := 109) F dX12_text_109 ?_
          refine mh_istore2 (pc := 110) F dX12_text_110 rfl (by decide) ?_
          have L111 : ∀ (m : Nat) (x : Int) (hh : Nat → Int → Int) (t : Int → Int), (mh_FX hh) → (mh_fr [81, 82, 88] h hh) → (hh 82 = t) → (hh 85 = er) → (hh 81 = o2) → (hh 88 = fz) → (0 ≤ x ∧ x ≤ o2 9) → (t = sx_cdx s fz u (o2 9) x) → (o2 9 - x).toNat = m → mh_V g f 3 96 0 0 111 [some (.ref 81), some (.int (Int32.ofInt (u))), some (.int (Int32.ofInt (x)))] [] hh := by
            intro m
            induction m using Nat.strongRecOn with
            | _ m ihL111 =>
            intro x hh t Fhh frhh q82hh q85hh q81hh q88hh hx ht hmz
            refine mh_iload2 (pc := 111) F dX12_text_111 ?_
            refine mh_aload0 (pc := 112) F dX12_text_112 ?_
            refine mh_getir (pc := 113) F sh_81 (by decide) fw_RX12_196_12 dX12_text_113 rfl q81hh ?_
            refine mh_icmp_ge (pc := 116) (tgt := 145) F dX12_text_116 rfl (by omega) (by omega) (fun c_116 => ?_) (fun c_116 => ?_)
            · refine mh_iconst (pc := 145) F dX12_text_145 ?_
              exact mh_ireturn F Z dX12_text_146 ⟨_, _, _, (by unfold sp_text sx_r; rw [← ep6, if_neg (by omega), if_neg (by omega), ← hz9, ← hzf, ht, show o2 9 = x by omega]), rfl, Fhh, (frhh.mono (by simp)), q82hh, q85hh, (by rw [q81hh]; first | exact hfo | exact sx_fo.rf)⟩
            · refine mh_aload0 (pc := 119) F dX12_text_119 ?_
              refine mh_getr (b := 82) (pc := 120) F sh_81 (by decide) fw_RX12_9_12 dX12_text_120 rfl (fx_81_0 Fhh) ?_
              refine mh_bipush (pc := 123) F dX12_text_123 rfl ?_
              refine mh_bipush (pc := 125) F dX12_text_125 rfl ?_
              refine mh_iload1 (pc := 127) F dX12_text_127 ?_
              refine mh_imul (pc := 128) F dX12_text_128 ?_
              refine mh_iadd (pc := 129) F dX12_text_129 ?_
              refine mh_iload2 (pc := 130) F dX12_text_130 ?_
              refine mh_iadd (pc := 131) F dX12_text_131 ?_
              refine mh_aload0 (pc := 132) F dX12_text_132 ?_
              refine mh_getr (b := 88) (pc := 133) F sh_81 (by decide) fw_RX12_28_12 dX12_text_133 rfl (fx_81_8 Fhh) ?_
              refine mh_iload2 (pc := 136) F dX12_text_136 ?_
              refine mh_ialoadr (pc := 137) F sh_88 (by decide) (by omega) dX12_text_137 q88hh ?_
              refine mh_iastore (pc := 138) F sh_82 (by decide) (by omega) dX12_text_138 ?_
              refine mh_nmh (fun h19 e19 => ?_)
              have F19 : mh_FX h19 := by rw [e19]; exact Fhh.upa rfl
              have r82_19 : h19 82 = mh_ur t ((97 + (50 * u)) + x) (fz x) := by rw [e19, mh_up_rs, q82hh]
              have r85_19 : h19 85 = er := by rw [e19, mh_up_row (by decide)]; exact q85hh
              have r81_19 : h19 81 = o2 := by rw [e19, mh_up_row (by decide)]; exact q81hh
              have r88_19 : h19 88 = fz := by rw [e19, mh_up_row (by decide)]; exact q88hh
              have fr19 : mh_fr [81, 82, 88] h h19 := mh_fr.upi frhh e19 (by simp)
              refine mh_iinc2 (pc := 139) F dX12_text_139 rfl (by decide) ?_
              refine mh_goto (pc := 142) (tgt := 111) F dX12_text_142 rfl ?_
              exact ihL111 _ (by omega) (x + 1) h19 (mh_ur t ((97 + (50 * u)) + x) (fz x)) F19 (fr19.mono (by simp)) r82_19 r85_19 r81_19 r88_19 (by omega) (by rw [ht]; funext i; unfold mh_ur sx_cdx; (repeat' split) <;> first | rfl | (exfalso; omega) | (congr 1; omega)) rfl
          exact L111 _ 0 h18 s2 F18 (fr18.mono (by simp)) r82_18 r85_18 r81_18 r88_18 (by omega) (by rw [es2, es1]; funext i; unfold mh_ur sx_cdx; (repeat' split) <;> first | rfl | (exfalso; omega)) rfl
        · refine mh_bipush (pc := 88) F dX12_text_88 rfl ?_
          refine mh_aload0 (pc := 90) F dX12_text_90 ?_
          refine mh_getir (pc := 91) F sh_81 (by decide) fw_RX12_180_12 dX12_text_91 rfl r81_17 ?_
          refine mh_isub (pc := 94) F dX12_text_94 ?_
          exact mh_ireturn F Z dX12_text_95 ⟨_, _, _, (by unfold sp_text sx_r; rw [← ep6, if_neg (by omega), if_pos (by omega), ← z10, es1]), rfl, F17, (fr17.mono (by simp)), r82_17, r85_17, (by rw [r81_17]; first | exact hfo | exact sx_fo.rf)⟩
  · refine mh_aload0 (pc := 10) F dX12_text_10 ?_
    refine mh_iconst (pc := 11) F dX12_text_11 ?_
    refine mh_callV0 (pc := 12) (As := [.int (Int32.ofInt (1))]) (st := []) F (by omega) (k_error (by omega) hF r85 (by omega)) wv_RX12_114_yX12_error dX12_text_12 sh_81 rfl (by decide) rfl rfl (Nat.le_of_ble_eq_true rfl) ⟨Nat.zero_le _, Nat.zero_le _⟩ (fun r20 h20 q20 => ?_)
    obtain ⟨rfl, F20, fr20, q20_0⟩ := q20
    have r82_21 : h20 82 = s := (fr20 _ (by decide)).trans r82
    have r81_21 : h20 81 = o := (fr20 _ (by decide)).trans r81
    have r88_21 : h20 88 = fr := (fr20 _ (by decide)).trans r88
    have fr21 : mh_fr [85] h h20 := (mh_fr.tr mh_fr.rf fr20).mono (by simp)
    exact mh_ireturn F Z dX12_text_15 ⟨_, _, _, (by unfold sp_text; rw [if_pos (by omega)]; rfl), rfl, F20, (fr21.mono (by simp)), r82_21, q20_0, (by rw [r81_21]; first | exact hfo | exact sx_fo.rf)⟩

