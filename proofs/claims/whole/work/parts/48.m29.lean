set_option maxRecDepth 100000 in
set_option maxHeartbeats 600000 in
theorem k_p {g : mh_G} {d : Nat} (hd : 6 ≤ d) {h : Nat → Int → Int} (hF : mh_FX h) {s : Int → Int} (r82 : h 82 = s) {o : Int → Int} (r81 : h 81 = o) {fr : Int → Int} (r88 : h 88 = fr) {p : sx_S} {u x : Int} (hb : sx_by s) (hs : sx_is o fr p u x) (hp : sx_pv s p) (h6 : sx_w6 x p) {G0 : sx_S → sx_S} (hF0 : sx_gd s G0) (HK : sx_K g (d - 1) yX12_q cX12_q 2 s u x G0) : mh_M g d yX12_p cX12_p 2 none 96 0 0 [.ref 81] h (sx_po h o (sx_lv s G0 sx_oP p) u (x)) := by
  refine mh_M_of RX12 rfl (by decide +kernel) [some (.ref 81), none] rfl (Nat.le_of_ble_eq_true rfl) (fun f F Z hn0 hR => ?_)
  have hfo : sx_fo o o := sx_fo.rf
  obtain ⟨hrr, hzz⟩ := sx_hr_z hb hp
  obtain ⟨hp1, hp2, hp3⟩ := sx_pv_x hp
  obtain ⟨hs1, hs2, hs3, hs4, hs5, hs6⟩ := id hs
  have hb1 := hb.1
  have hG : sx_gd s G0 := hF0
  refine mh_aload0 (pc := 0) F dX12_p_0 ?_
  refine mh_callV0 (pc := 1) (As := []) (st := []) F (by omega) (HK _ _ _ _ hF r82 r81 r88 hs hp h6) wv_RX12_221_yX12_q dX12_p_1 sh_81 rfl (by decide) rfl rfl (Nat.le_of_ble_eq_true rfl) ⟨Nat.zero_le _, Nat.zero_le _⟩ (fun r1 h1 q1 => ?_)
  obtain ⟨rfl, F1, fr1, hs, hfk⟩ := q1
  obtain ⟨o1, eo1⟩ : ∃ z : Int → Int, z = h1 81 := ⟨_, rfl⟩
  obtain ⟨f1, ef1⟩ : ∃ z : Int → Int, z = h1 88 := ⟨_, rfl⟩
  rw [← eo1, ← ef1] at hs
  rw [← eo1] at hfk
  have r82_2 : h1 82 = s := (fr1 _ (by decide)).trans r82
  have fr2 : mh_fr [81, 88] h h1 := (mh_fr.tr mh_fr.rf fr1).mono (by simp)
  have hfo := hfo.tr hfk
  obtain ⟨p1, ep1⟩ : ∃ z : sx_S, z = G0 p := ⟨_, rfl⟩
  have hpn := (hG p hp).1
  have h6 : sx_w6 x p1 := fun z => by rw [ep1, (hG p hp).2.2.2.1 (h6 z)]; exact h6 z
  have hsl := (hG p hp).2.1
  rw [← ep1] at hsl
  rw [← ep1] at hs
  have hp : sx_pv s p1 := by rw [ep1]; exact hpn
  obtain ⟨hrr, hzz⟩ := sx_hr_z hb hp
  obtain ⟨hp1, hp2, hp3⟩ := sx_pv_x hp
  obtain ⟨hs1, hs2, hs3, hs4, hs5, hs6⟩ := id hs
  have hq6 := h6
  refine mh_aload0 (pc := 4) F dX12_p_4 ?_
  refine mh_callVp (pc := 5) (As := []) (st := []) F (by omega) (k_here (by omega) F1 r82_2 eo1.symm hb hs hp) wv_RX12_188_yX12_here dX12_p_5 sh_81 rfl (by decide) rfl rfl (Nat.le_of_ble_eq_true rfl) ⟨Nat.zero_le _, Nat.zero_le _⟩ ?_
  refine mh_istore1 (pc := 8) F dX12_p_8 rfl (by decide) ?_
  have L9 : ∀ (m : Nat) (gg : Int) (ha : Nat → Int → Int) (oa : Int → Int) (fa : Int → Int) (qa : sx_S), (mh_FX ha) → (mh_fr [81, 88] h ha) → (ha 82 = s) → (ha 81 = oa) → (ha 88 = fa) → (sx_is oa fa qa u x) → (sx_pv s qa) → (sx_fo o oa) → (gg = sx_hr s qa) → (sx_w6 x qa) → (sx_lv s G0 sx_oP p = sx_L s G0 sx_oP qa) → (s 4 - qa.1).toNat = m → mh_V g f 2 96 0 0 9 [some (.ref 81), some (.int (Int32.ofInt (gg)))] [] ha := by
    intro m
    induction m using Nat.strongRecOn with
    | _ m ihL9 =>
    intro gg ha oa fa qa Fa fra r82a r81a r88a hs hp hfo hg h6 hL hmz
    obtain ⟨hrr, hzz⟩ := sx_hr_z hb hp
    obtain ⟨hp1, hp2, hp3⟩ := sx_pv_x hp
    obtain ⟨hs1, hs2, hs3, hs4, hs5, hs6⟩ := id hs
    have hq6 := h6
    refine mh_iload1 (pc := 9) F dX12_p_9 ?_
    refine mh_bipush (pc := 10) F dX12_p_10 rfl ?_
    refine mh_icmp_eq (pc := 12) (tgt := 27) F dX12_p_12 rfl (by omega) (by omega) (fun c_12 => ?_) (fun c_12 => ?_)
    · refine mh_aload0 (pc := 27) F dX12_p_27 ?_
      refine mh_dup (pc := 28) F dX12_p_28 rfl ?_
      refine mh_getir (pc := 29) F sh_81 (by decide) fw_RX12_180_12 dX12_p_29 rfl r81a ?_
      refine mh_iconst (pc := 32) F dX12_p_32 ?_
      refine mh_iadd (pc := 33) F dX12_p_33 ?_
      refine mh_puti (pc := 34) F sh_81 (by decide) pw_RX12_180_12 dX12_p_34 ?_
      refine mh_nmh (fun h3 e3 => ?_)
      have F3 : mh_FX h3 := by rw [e3]; exact Fa.upz rfl
      have r82_3 : h3 82 = s := by rw [e3, mh_up_row (by decide)]; exact r82a
      have r81_3 : h3 81 = mh_ur oa 10 ((oa 10) + 1) := by rw [e3, mh_up_rs, r81a]
      have r88_3 : h3 88 = fa := by rw [e3, mh_up_row (by decide)]; exact r88a
      have fr3 : mh_fr [81, 88] h h3 := mh_fr.upi fra e3 (by simp)
      have hq4 := hzz (by omega)
      have hpq := hp
      have hs := hs.pa rfl
      have hfo := hfo.up (i := 10) (v := (oa 10) + 1) (by decide)
      have hp : sx_pv s (sx_pa qa) := sx_pa_pv hq4.1 hp
      have hx6 : ¬ x = 6 := fun z => absurd (h6 z) (by omega)
      have h6 : sx_w6 x (sx_pa qa) := fun z => absurd z hx6
      refine mh_aload0 (pc := 37) F dX12_p_37 ?_
      refine mh_callV0 (pc := 38) (As := []) (st := []) F (by omega) (HK _ _ _ _ F3 r82_3 r81_3 r88_3 hs hp h6) wv_RX12_221_yX12_q dX12_p_38 sh_81 rfl (by decide) rfl rfl (Nat.le_of_ble_eq_true rfl) ⟨Nat.zero_le _, Nat.zero_le _⟩ (fun r4 h4 q4 => ?_)
      obtain ⟨rfl, F4, fr4, hs, hfk⟩ := q4
      obtain ⟨o4, eo4⟩ : ∃ z : Int → Int, z = h4 81 := ⟨_, rfl⟩
      obtain ⟨f4, ef4⟩ : ∃ z : Int → Int, z = h4 88 := ⟨_, rfl⟩
      rw [← eo4, ← ef4] at hs
      rw [← eo4] at hfk
      have r82_5 : h4 82 = s := (fr4 _ (by decide)).trans r82_3
      have fr5 : mh_fr [81, 88] h h4 := (mh_fr.tr fr3 fr4).mono (by simp)
      have hfo := hfo.tr hfk
      obtain ⟨p4, ep4⟩ : ∃ z : sx_S, z = G0 (sx_pa qa) := ⟨_, rfl⟩
      have hpn := (hG (sx_pa qa) hp).1
      have h6 : sx_w6 x p4 := fun z => by rw [ep4, (hG (sx_pa qa) hp).2.2.2.1 (h6 z)]; exact h6 z
      have hsl := (hG (sx_pa qa) hp).2.1
      rw [← ep4] at hsl
      rw [← ep4] at hs
      have hp : sx_pv s p4 := by rw [ep4]; exact hpn
      obtain ⟨hrr, hzz⟩ := sx_hr_z hb hp
      obtain ⟨hp1, hp2, hp3⟩ := sx_pv_x hp
      obtain ⟨hs1, hs2, hs3, hs4, hs5, hs6⟩ := id hs
      have hq6 := h6
      refine mh_aload0 (pc := 41) F dX12_p_41 ?_
      refine mh_bipush (pc := 42) F dX12_p_42 rfl ?_
      refine mh_iload1 (pc := 44) F dX12_p_44 ?_
      refine mh_isub (pc := 45) F dX12_p_45 ?_
      have zpv : sx_pv s (sx_pp (-100 - gg) p4) := by rw [ep4]; exact (sx_op hG hpq hq4.1 hq4.2 (g := gg) (by omega)).1
      have hms : qa.1 < (sx_pp (-100 - gg) p4).1 := by rw [ep4]; exact (sx_op hG hpq hq4.1 hq4.2 (g := gg) (by omega)).2.2.1
      have hpm : sx_m5 p4 := fun z => by have e1 : (sx_pa qa).1 = qa.1 + 1 := rfl; have e2 : (sx_pa qa).2.2.1 = qa.2.2.1 := rfl; omega
      refine mh_callV0 (pc := 46) (As := [.int (Int32.ofInt ((-100) - gg))]) (st := []) F (by omega) (k_puts (by omega) F4 r82_5 eo4.symm ef4.symm hb hs hp hpm) wv_RX12_206_yX12_puts dX12_p_46 sh_81 rfl (by decide) rfl rfl (Nat.le_of_ble_eq_true rfl) ⟨Nat.zero_le _, Nat.zero_le _⟩ (fun r6 h6 q6 => ?_)
      obtain ⟨rfl, F6, fr6, hs, hfk⟩ := q6
      obtain ⟨o6, eo6⟩ : ∃ z : Int → Int, z = h6 81 := ⟨_, rfl⟩
      obtain ⟨f6, ef6⟩ : ∃ z : Int → Int, z = h6 88 := ⟨_, rfl⟩
      rw [← eo6, ← ef6] at hs
      rw [← eo6] at hfk
      have r82_7 : h6 82 = s := (fr6 _ (by decide)).trans r82_5
      have fr7 : mh_fr [81, 88] h h6 := (mh_fr.tr fr5 fr6).mono (by simp)
      have hfo := hfo.tr hfk
      obtain ⟨p6, ep6⟩ : ∃ z : sx_S, z = sx_pp ((-100) - gg) p4 := ⟨_, rfl⟩
      have hpn := zpv
      rw [← ep6] at hs
      have hp : sx_pv s p6 := by rw [ep6]; exact hpn
      obtain ⟨hrr, hzz⟩ := sx_hr_z hb hp
      obtain ⟨hp1, hp2, hp3⟩ := sx_pv_x hp
      obtain ⟨hs1, hs2, hs3, hs4, hs5, hs6⟩ := id hs
      have hq6 := h6
      rw [← ep6] at hms
      refine mh_aload0 (pc := 49) F dX12_p_49 ?_
      refine mh_callVp (pc := 50) (As := []) (st := []) F (by omega) (k_here (by omega) F6 r82_7 eo6.symm hb hs hp) wv_RX12_188_yX12_here dX12_p_50 sh_81 rfl (by decide) rfl rfl (Nat.le_of_ble_eq_true rfl) ⟨Nat.zero_le _, Nat.zero_le _⟩ ?_
      refine mh_istore1 (pc := 53) F dX12_p_53 rfl (by decide) ?_
      refine mh_goto (pc := 54) (tgt := 9) F dX12_p_54 rfl ?_
      exact ihL9 _ (by omega) (sx_hr s p6) h6 o6 f6 p6 F6 (fr7.mono (by simp)) r82_7 eo6.symm ef6.symm hs hp hfo rfl (fun z => absurd z hx6) (hL.trans ((sx_L_st hb hG sx_okP hpq (by first | exact decide_eq_true (by omega) | (rw [ht0]; decide))).trans (by rw [ep6, ep4, hg]))) rfl
    · refine mh_iload1 (pc := 15) F dX12_p_15 ?_
      refine mh_bipush (pc := 16) F dX12_p_16 rfl ?_
      refine mh_icmp_eq (pc := 18) (tgt := 27) F dX12_p_18 rfl (by omega) (by omega) (fun c_18 => ?_) (fun c_18 => ?_)
      · refine mh_aload0 (pc := 27) F dX12_p_27 ?_
        refine mh_dup (pc := 28) F dX12_p_28 rfl ?_
        refine mh_getir (pc := 29) F sh_81 (by decide) fw_RX12_180_12 dX12_p_29 rfl r81a ?_
        refine mh_iconst (pc := 32) F dX12_p_32 ?_
        refine mh_iadd (pc := 33) F dX12_p_33 ?_
        refine mh_puti (pc := 34) F sh_81 (by decide) pw_RX12_180_12 dX12_p_34 ?_
        refine mh_nmh (fun h8 e8 => ?_)
        have F8 : mh_FX h8 := by rw [e8]; exact Fa.upz rfl
        have r82_8 : h8 82 = s := by rw [e8, mh_up_row (by decide)]; exact r82a
        have r81_8 : h8 81 = mh_ur oa 10 ((oa 10) + 1) := by rw [e8, mh_up_rs, r81a]
        have r88_8 : h8 88 = fa := by rw [e8, mh_up_row (by decide)]; exact r88a
        have fr8 : mh_fr [81, 88] h h8 := mh_fr.upi fra e8 (by simp)
        have hq4 := hzz (by omega)
        have hpq := hp
        have hs := hs.pa rfl
        have hfo := hfo.up (i := 10) (v := (oa 10) + 1) (by decide)
        have hp : sx_pv s (sx_pa qa) := sx_pa_pv hq4.1 hp
        have hx6 : ¬ x = 6 := fun z => absurd (h6 z) (by omega)
        have h6 : sx_w6 x (sx_pa qa) := fun z => absurd z hx6
        refine mh_aload0 (pc := 37) F dX12_p_37 ?_
        refine mh_callV0 (pc := 38) (As := []) (st := []) F (by omega) (HK _ _ _ _ F8 r82_8 r81_8 r88_8 hs hp h6) wv_RX12_221_yX12_q dX12_p_38 sh_81 rfl (by decide) rfl rfl (Nat.le_of_ble_eq_true rfl) ⟨Nat.zero_le _, Nat.zero_le _⟩ (fun r9 h9 q9 => ?_)
        obtain ⟨rfl, F9, fr9, hs, hfk⟩ := q9
        obtain ⟨o9, eo9⟩ : ∃ z : Int → Int, z = h9 81 := ⟨_, rfl⟩
        obtain ⟨f9, ef9⟩ : ∃ z : Int → Int, z = h9 88 := ⟨_, rfl⟩
        rw [← eo9, ← ef9] at hs
        rw [← eo9] at hfk
        have r82_10 : h9 82 = s := (fr9 _ (by decide)).trans r82_8
        have fr10 : mh_fr [81, 88] h h9 := (mh_fr.tr fr8 fr9).mono (by simp)
        have hfo := hfo.tr hfk
        obtain ⟨p9, ep9⟩ : ∃ z : sx_S, z = G0 (sx_pa qa) := ⟨_, rfl⟩
        have hpn := (hG (sx_pa qa) hp).1
        have h6 : sx_w6 x p9 := fun z => by rw [ep9, (hG (sx_pa qa) hp).2.2.2.1 (h6 z)]; exact h6 z
        have hsl := (hG (sx_pa qa) hp).2.1
        rw [← ep9] at hsl
        rw [← ep9] at hs
        have hp : sx_pv s p9 := by rw [ep9]; exact hpn
        obtain ⟨hrr, hzz⟩ := sx_hr_z hb hp
        obtain ⟨hp1, hp2, hp3⟩ := sx_pv_x hp
        obtain ⟨hs1, hs2, hs3, hs4, hs5, hs6⟩ := id hs
        have hq6 := h6
        refine mh_aload0 (pc := 41) F dX12_p_41 ?_
        refine mh_bipush (pc := 42) F dX12_p_42 rfl ?_
        refine mh_iload1 (pc := 44) F dX12_p_44 ?_
        refine mh_isub (pc := 45) F dX12_p_45 ?_
        have zpv : sx_pv s (sx_pp (-100 - gg) p9) := by rw [ep9]; exact (sx_op hG hpq hq4.1 hq4.2 (g := gg) (by omega)).1
        have hms : qa.1 < (sx_pp (-100 - gg) p9).1 := by rw [ep9]; exact (sx_op hG hpq hq4.1 hq4.2 (g := gg) (by omega)).2.2.1
        have hpm : sx_m5 p9 := fun z => by have e1 : (sx_pa qa).1 = qa.1 + 1 := rfl; have e2 : (sx_pa qa).2.2.1 = qa.2.2.1 := rfl; omega
        refine mh_callV0 (pc := 46) (As := [.int (Int32.ofInt ((-100) - gg))]) (st := []) F (by omega) (k_puts (by omega) F9 r82_10 eo9.symm ef9.symm hb hs hp hpm) wv_RX12_206_yX12_puts dX12_p_46 sh_81 rfl (by decide) rfl rfl (Nat.le_of_ble_eq_true rfl) ⟨Nat.zero_le _, Nat.zero_le _⟩ (fun r11 h11 q11 => ?_)
        obtain ⟨rfl, F11, fr11, hs, hfk⟩ := q11
        obtain ⟨o11, eo11⟩ : ∃ z : Int → Int, z = h11 81 := ⟨_, rfl⟩
        obtain ⟨f11, ef11⟩ : ∃ z : Int → Int, z = h11 88 := ⟨_, rfl⟩
        rw [← eo11, ← ef11] at hs
        rw [← eo11] at hfk
        have r82_12 : h11 82 = s := (fr11 _ (by decide)).trans r82_10
        have fr12 : mh_fr [81, 88] h h11 := (mh_fr.tr fr10 fr11).mono (by simp)
        have hfo := hfo.tr hfk
        obtain ⟨p11, ep11⟩ : ∃ z : sx_S, z = sx_pp ((-100) - gg) p9 := ⟨_, rfl⟩
        have hpn := zpv
        rw [← ep11] at hs
        have hp : sx_pv s p11 := by rw [ep11]; exact hpn
        obtain ⟨hrr, hzz⟩ := sx_hr_z hb hp
        obtain ⟨hp1, hp2, hp3⟩ := sx_pv_x hp
        obtain ⟨hs1, hs2, hs3, hs4, hs5, hs6⟩ := id hs
        have hq6 := h6
        rw [← ep11] at hms
        refine mh_aload0 (pc := 49) F dX12_p_49 ?_
        refine mh_callVp (pc := 50) (As := []) (st := []) F (by omega) (k_here (by omega) F11 r82_12 eo11.symm hb hs hp) wv_RX12_188_yX12_here dX12_p_50 sh_81 rfl (by decide) rfl rfl (Nat.le_of_ble_eq_true rfl) ⟨Nat.zero_le _, Nat.zero_le _⟩ ?_
        refine mh_istore1 (pc := 53) F dX12_p_53 rfl (by decide) ?_
        refine mh_goto (pc := 54) (tgt := 9) F dX12_p_54 rfl ?_
        exact ihL9 _ (by omega) (sx_hr s p11) h11 o11 f11 p11 F11 (fr12.mono (by simp)) r82_12 eo11.symm ef11.symm hs hp hfo rfl (fun z => absurd z hx6) (hL.trans ((sx_L_st hb hG sx_okP hpq (by first | exact decide_eq_true (by omega) | (rw [ht0]; decide))).trans (by rw [ep11, ep9, hg]))) rfl
      · refine mh_iload1 (pc := 21) F dX12_p_21 ?_
        refine mh_bipush (pc := 22) F dX12_p_22 rfl ?_
        refine mh_icmp_ne (pc := 24) (tgt := 57) F dX12_p_24 rfl (by omega) (by omega) (fun c_24 => ?_) (fun c_24 => ?_)
        · exact mh_return F Z dX12_p_57 ⟨rfl, Fa, (fra.mono (by simp)), (by rw [r81a, r88a]; exact (hs.eq (hL.trans (sx_L_no (fun z => absurd (of_decide_eq_true z) (by omega)))) rfl)), (by rw [r81a]; exact hfo)⟩
        · refine mh_aload0 (pc := 27) F dX12_p_27 ?_
          refine mh_dup (pc := 28) F dX12_p_28 rfl ?_
          refine mh_getir (pc := 29) F sh_81 (by decide) fw_RX12_180_12 dX12_p_29 rfl r81a ?_
          refine mh_iconst (pc := 32) F dX12_p_32 ?_
          refine mh_iadd (pc := 33) F dX12_p_33 ?_
          refine mh_puti (pc := 34) F sh_81 (by decide) pw_RX12_180_12 dX12_p_34 ?_
          refine mh_nmh (fun h13 e13 => ?_)
          have F13 : mh_FX h13 := by rw [e13]; exact Fa.upz rfl
          have r82_13 : h13 82 = s := by rw [e13, mh_up_row (by decide)]; exact r82a
          have r81_13 : h13 81 = mh_ur oa 10 ((oa 10) + 1) := by rw [e13, mh_up_rs, r81a]
          have r88_13 : h13 88 = fa := by rw [e13, mh_up_row (by decide)]; exact r88a
          have fr13 : mh_fr [81, 88] h h13 := mh_fr.upi fra e13 (by simp)
          have hq4 := hzz (by omega)
          have hpq := hp
          have hs := hs.pa rfl
          have hfo := hfo.up (i := 10) (v := (oa 10) + 1) (by decide)
          have hp : sx_pv s (sx_pa qa) := sx_pa_pv hq4.1 hp
          have hx6 : ¬ x = 6 := fun z => absurd (h6 z) (by omega)
          have h6 : sx_w6 x (sx_pa qa) := fun z => absurd z hx6
          refine mh_aload0 (pc := 37) F dX12_p_37 ?_
          refine mh_callV0 (pc := 38) (As := []) (st := []) F (by omega) (HK _ _ _ _ F13 r82_13 r81_13 r88_13 hs hp h6) wv_RX12_221_yX12_q dX12_p_38 sh_81 rfl (by decide) rfl rfl (Nat.le_of_ble_eq_true rfl) ⟨Nat.zero_le _, Nat.zero_le _⟩ (fun r14 h14 q14 => ?_)
          obtain ⟨rfl, F14, fr14, hs, hfk⟩ := q14
          obtain ⟨o14, eo14⟩ : ∃ z : Int → Int, z = h14 81 := ⟨_, rfl⟩
          obtain ⟨f14, ef14⟩ : ∃ z : Int → Int, z = h14 88 := ⟨_, rfl⟩
          rw [← eo14, ← ef14] at hs
          rw [← eo14] at hfk
          have r82_15 : h14 82 = s := (fr14 _ (by decide)).trans r82_13
          have fr15 : mh_fr [81, 88] h h14 := (mh_fr.tr fr13 fr14).mono (by simp)
          have hfo := hfo.tr hfk
          obtain ⟨p14, ep14⟩ : ∃ z : sx_S, z = G0 (sx_pa qa) := ⟨_, rfl⟩
          have hpn := (hG (sx_pa qa) hp).1
          have h6 : sx_w6 x p14 := fun z => by rw [ep14, (hG (sx_pa qa) hp).2.2.2.1 (h6 z)]; exact h6 z
          have hsl := (hG (sx_pa qa) hp).2.1
          rw [← ep14] at hsl
          rw [← ep14] at hs
          have hp : sx_pv s p14 := by rw [ep14]; exact hpn
          obtain ⟨hrr, hzz⟩ := sx_hr_z hb hp
          obtain ⟨hp1, hp2, hp3⟩ := sx_pv_x hp
          obtain ⟨hs1, hs2, hs3, hs4, hs5, hs6⟩ := id hs
          have hq6 := h6
          refine mh_aload0 (pc := 41) F dX12_p_41 ?_
          refine mh_bipush (pc := 42) F dX12_p_42 rfl ?_
          refine mh_iload1 (pc := 44) F dX12_p_44 ?_
          refine mh_isub (pc := 45) F dX12_p_45 ?_
          have zpv : sx_pv s (sx_pp (-100 - gg) p14) := by rw [ep14]; exact (sx_op hG hpq hq4.1 hq4.2 (g := gg) (by omega)).1
          have hms : qa.1 < (sx_pp (-100 - gg) p14).1 := by rw [ep14]; exact (sx_op hG hpq hq4.1 hq4.2 (g := gg) (by omega)).2.2.1
          have hpm : sx_m5 p14 := fun z => by have e1 : (sx_pa qa).1 = qa.1 + 1 := rfl; have e2 : (sx_pa qa).2.2.1 = qa.2.2.1 := rfl; omega
          refine mh_callV0 (pc := 46) (As := [.int (Int32.ofInt ((-100) - gg))]) (st := []) F (by omega) (k_puts (by omega) F14 r82_15 eo14.symm ef14.symm hb hs hp hpm) wv_RX12_206_yX12_puts dX12_p_46 sh_81 rfl (by decide) rfl rfl (Nat.le_of_ble_eq_true rfl) ⟨Nat.zero_le _, Nat.zero_le _⟩ (fun r16 h16 q16 => ?_)
          obtain ⟨rfl, F16, fr16, hs, hfk⟩ := q16
          obtain ⟨o16, eo16⟩ : ∃ z : Int → Int, z = h16 81 := ⟨_, rfl⟩
          obtain ⟨f16, ef16⟩ : ∃ z : Int → Int, z = h16 88 := ⟨_, rfl⟩
          rw [← eo16, ← ef16] at hs
          rw [← eo16] at hfk
          have r82_17 : h16 82 = s := (fr16 _ (by decide)).trans r82_15
          have fr17 : mh_fr [81, 88] h h16 := (mh_fr.tr fr15 fr16).mono (by simp)
          have hfo := hfo.tr hfk
          obtain ⟨p16, ep16⟩ : ∃ z : sx_S, z = sx_pp ((-100) - gg) p14 := ⟨_, rfl⟩
          have hpn := zpv
          rw [← ep16] at hs
          have hp : sx_pv s p16 := by rw [ep16]; exact hpn
          obtain ⟨hrr, hzz⟩ := sx_hr_z hb hp
          obtain ⟨hp1, hp2, hp3⟩ := sx_pv_x hp
          obtain ⟨hs1, hs2, hs3, hs4, hs5, hs6⟩ := id hs
          have hq6 := h6
          rw [← ep16] at hms
          refine mh_aload0 (pc := 49) F dX12_p_49 ?_
          refine mh_callVp (pc := 50) (As := []) (st := []) F (by omega) (k_here (by omega) F16 r82_17 eo16.symm hb hs hp) wv_RX12_188_yX12_here dX12_p_50 sh_81 rfl (by decide) rfl rfl (Nat.le_of_ble_eq_true rfl) ⟨Nat.zero_le _, Nat.zero_le _⟩ ?_
          refine mh_istore1 (pc := 53) F dX12_p_53 rfl (by decide) ?_
          refine mh_goto (pc := 54) (tgt := 9) F dX12_p_54 rfl ?_
          exact ihL9 _ (by omega) (sx_hr s p16) h16 o16 f16 p16 F16 (fr17.mono (by simp)) r82_17 eo16.symm ef16.symm hs hp hfo rfl (fun z => absurd z hx6) (hL.trans ((sx_L_st hb hG sx_okP hpq (by first | exact decide_eq_true (by omega) | (rw [ht0]; decide))).trans (by rw [ep16, ep14, hg]))) rfl
  exact L9 _ (sx_hr s p1) h1 o1 f1 p1 F1 (fr2.mono (by simp)) r82_2 eo1.symm ef1.symm hs hp hfo rfl h6 (by rw [ep1]; rfl) rfl

set_option maxRecDepth 100000 in
set_option maxHeartbeats 600000 in
theorem k_sum {g : mh_G} {d : Nat} (hd : 6 ≤ d) {h : Nat → Int → Int} (hF : mh_FX h) {s : Int → Int} (r82 : h 82 = s) {o : Int → Int} (r81 : h 81 = o) {fr : Int → Int} (r88 : h 88 = fr) {p : sx_S} {u x : Int} (hb : sx_by s) (hs : sx_is o fr p u x) (hp : sx_pv s p) (h6 : sx_w6 x p) {G0 : sx_S → sx_S} (hF0 : sx_gd s G0) (HK : sx_K g (d - 1) yX12_p cX12_p 2 s u x (sx_P s G0)) : mh_M g d yX12_sum cX12_sum 2 none 96 0 0 [.ref 81] h (sx_po h o (sx_lv s (sx_P s G0) sx_oS p) u (x)) := by
  refine mh_M_of RX12 rfl (by decide +kernel) [some (.ref 81), none] rfl (Nat.le_of_ble_eq_true rfl) (fun f F Z hn0 hR => ?_)
  have hfo : sx_fo o o := sx_fo.rf
  obtain ⟨hrr, hzz⟩ := sx_hr_z hb hp
  obtain ⟨hp1, hp2, hp3⟩ := sx_pv_x hp
  obtain ⟨hs1, hs2, hs3, hs4, hs5, hs6⟩ := id hs
  have hb1 := hb.1
  have hG : sx_gd s (sx_P s G0) := sx_P_gd hb hF0
  refine mh_aload0 (pc := 0) F dX12_sum_0 ?_
  refine mh_callV0 (pc := 1) (As := []) (st := []) F (by omega) (HK _ _ _ _ hF r82 r81 r88 hs hp h6) wv_RX12_230_yX12_p dX12_sum_1 sh_81 rfl (by decide) rfl rfl (Nat.le_of_ble_eq_true rfl) ⟨Nat.zero_le _, Nat.zero_le _⟩ (fun r1 h1 q1 => ?_)
  obtain ⟨rfl, F1, fr1, hs, hfk⟩ := q1
  obtain ⟨o1, eo1⟩ : ∃ z : Int → Int, z = h1 81 := ⟨_, rfl⟩
  obtain ⟨f1, ef1⟩ : ∃ z : Int → Int, z = h1 88 := ⟨_, rfl⟩
  rw [← eo1, ← ef1] at hs
  rw [← eo1] at hfk
  have r82_2 : h1 82 = s := (fr1 _ (by decide)).trans r82
  have fr2 : mh_fr [81, 88] h h1 := (mh_fr.tr mh_fr.rf fr1).mono (by simp)
  have hfo := hfo.tr hfk
  obtain ⟨p1, ep1⟩ : ∃ z : sx_S, z = (sx_P s G0) p := ⟨_, rfl⟩
  have hpn := (hG p hp).1
  have h6 : sx_w6 x p1 := fun z => by rw [ep1, (hG p hp).2.2.2.1 (h6 z)]; exact h6 z
  have hsl := (hG p hp).2.1
  rw [← ep1] at hsl
  rw [← ep1] at hs
  have hp : sx_pv s p1 := by rw [ep1]; exact hpn
  obtain ⟨hrr, hzz⟩ := sx_hr_z hb hp
  obtain ⟨hp1, hp2, hp3⟩ := sx_pv_x hp
  obtain ⟨hs1, hs2, hs3, hs4, hs5, hs6⟩ := id hs
  have hq6 := h6
  refine mh_aload0 (pc := 4) F dX12_sum_4 ?_
  refine mh_callVp (pc := 5) (As := []) (st := []) F (by omega) (k_here (by omega) F1 r82_2 eo1.symm hb hs hp) wv_RX12_188_yX12_here dX12_sum_5 sh_81 rfl (by decide) rfl rfl (Nat.le_of_ble_eq_true rfl) ⟨Nat.zero_le _, Nat.zero_le _⟩ ?_
  refine mh_istore1 (pc := 8) F dX12_sum_8 rfl (by decide) ?_
  have L9 : ∀ (m : Nat) (gg : Int) (ha : Nat → Int → Int) (oa : Int → Int) (fa : Int → Int) (qa : sx_S), (mh_FX ha) → (mh_fr [81, 88] h ha) → (ha 82 = s) → (ha 81 = oa) → (ha 88 = fa) → (sx_is oa fa qa u x) → (sx_pv s qa) → (sx_fo o oa) → (gg = sx_hr s qa) → (sx_w6 x qa) → (sx_lv s (sx_P s G0) sx_oS p = sx_L s (sx_P s G0) sx_oS qa) → (s 4 - qa.1).toNat = m → mh_V g f 2 96 0 0 9 [some (.ref 81), some (.int (Int32.ofInt (gg)))] [] ha := by
    intro m
    induction m using Nat.strongRecOn with
    | _ m ihL9 =>
    intro gg ha oa fa qa Fa fra r82a r81a r88a hs hp hfo hg h6 hL hmz
    obtain ⟨hrr, hzz⟩ := sx_hr_z hb hp
    obtain ⟨hp1, hp2, hp3⟩ := sx_pv_x hp
    obtain ⟨hs1, hs2, hs3, hs4, hs5, hs6⟩ := id hs
    have hq6 := h6
    refine mh_iload1 (pc := 9) F dX12_sum_9 ?_
    refine mh_bipush (pc := 10) F dX12_sum_10 rfl ?_
    refine mh_icmp_eq (pc := 12) (tgt := 21) F dX12_sum_12 rfl (by omega) (by omega) (fun c_12 => ?_) (fun c_12 => ?_)
    · refine mh_aload0 (pc := 21) F dX12_sum_21 ?_
      refine mh_dup (pc := 22) F dX12_sum_22 rfl ?_
      refine mh_getir (pc := 23) F sh_81 (by decide) fw_RX12_180_12 dX12_sum_23 rfl r81a ?_
      refine mh_iconst (pc := 26) F dX12_sum_26 ?_
      refine mh_iadd (pc := 27) F dX12_sum_27 ?_
      refine mh_puti (pc := 28) F sh_81 (by decide) pw_RX12_180_12 dX12_sum_28 ?_
      refine mh_nmh (fun h3 e3 => ?_)
      have F3 : mh_FX h3 := by rw [e3]; exact Fa.upz rfl
      have r82_3 : h3 82 = s := by rw [e3, mh_up_row (by decide)]; exact r82a
      have r81_3 : h3 81 = mh_ur oa 10 ((oa 10) + 1) := by rw [e3, mh_up_rs, r81a]
      have r88_3 : h3 88 = fa := by rw [e3, mh_up_row (by decide)]; exact r88a
      have fr3 : mh_fr [81, 88] h h3 := mh_fr.upi fra e3 (by simp)
      have hq4 := hzz (by omega)
      have hpq := hp
      have hs := hs.pa rfl
      have hfo := hfo.up (i := 10) (v := (oa 10) + 1) (by decide)
      have hp : sx_pv s (sx_pa qa) := sx_pa_pv hq4.1 hp
      have hx6 : ¬ x = 6 := fun z => absurd (h6 z) (by omega)
      have h6 : sx_w6 x (sx_pa qa) := fun z => absurd z hx6
      refine mh_aload0 (pc := 31) F dX12_sum_31 ?_
      refine mh_callV0 (pc := 32) (As := []) (st := []) F (by omega) (HK _ _ _ _ F3 r82_3 r81_3 r88_3 hs hp h6) wv_RX12_230_yX12_p dX12_sum_32 sh_81 rfl (by decide) rfl rfl (Nat.le_of_ble_eq_true rfl) ⟨Nat.zero_le _, Nat.zero_le _⟩ (fun r4 h4 q4 => ?_)
      obtain ⟨rfl, F4, fr4, hs, hfk⟩ := q4
      obtain ⟨o4, eo4⟩ : ∃ z : Int → Int, z = h4 81 := ⟨_, rfl⟩
      obtain ⟨f4, ef4⟩ : ∃ z : Int → Int, z = h4 88 := ⟨_, rfl⟩
      rw [← eo4, ← ef4] at hs
      rw [← eo4] at hfk
      have r82_5 : h4 82 = s := (fr4 _ (by decide)).trans r82_3
      have fr5 : mh_fr [81, 88] h h4 := (mh_fr.tr fr3 fr4).mono (by simp)
      have hfo := hfo.tr hfk
      obtain ⟨p4, ep4⟩ : ∃ z : sx_S, z = (sx_P s G0) (sx_pa qa) := ⟨_, rfl⟩
      have hpn := (hG (sx_pa qa) hp).1
      have h6 : sx_w6 x p4 := fun z => by rw [ep4, (hG (sx_pa qa) hp).2.2.2.1 (h6 z)]; exact h6 z
      have hsl := (hG (sx_pa qa) hp).2.1
      rw [← ep4] at hsl
      rw [← ep4] at hs
      have hp : sx_pv s p4 := by rw [ep4]; exact hpn
      obtain ⟨hrr, hzz⟩ := sx_hr_z hb hp
      obtain ⟨hp1, hp2, hp3⟩ := sx_pv_x hp
      obtain ⟨hs1, hs2, hs3, hs4, hs5, hs6⟩ := id hs
      have hq6 := h6
      refine mh_aload0 (pc := 35) F dX12_sum_35 ?_
      refine mh_bipush (pc := 36) F dX12_sum_36 rfl ?_
      refine mh_iload1 (pc := 38) F dX12_sum_38 ?_
      refine mh_isub (pc := 39) F dX12_sum_39 ?_
      have zpv : sx_pv s (sx_pp (-100 - gg) p4) := by rw [ep4]; exact (sx_op hG hpq hq4.1 hq4.2 (g := gg) (by omega)).1
      have hms : qa.1 < (sx_pp (-100 - gg) p4).1 := by rw [ep4]; exact (sx_op hG hpq hq4.1 hq4.2 (g := gg) (by omega)).2.2.1
      have hpm : sx_m5 p4 := fun z => by have e1 : (sx_pa qa).1 = qa.1 + 1 := rfl; have e2 : (sx_pa qa).2.2.1 = qa.2.2.1 := rfl; omega
      refine mh_callV0 (pc := 40) (As := [.int (Int32.ofInt ((-100) - gg))]) (st := []) F (by omega) (k_puts (by omega) F4 r82_5 eo4.symm ef4.symm hb hs hp hpm) wv_RX12_206_yX12_puts dX12_sum_40 sh_81 rfl (by decide) rfl rfl (Nat.le_of_ble_eq_true rfl) ⟨Nat.zero_le _, Nat.zero_le _⟩ (fun r6 h6 q6 => ?_)
      obtain ⟨rfl, F6, fr6, hs, hfk⟩ := q6
      obtain ⟨o6, eo6⟩ : ∃ z : Int → Int, z = h6 81 := ⟨_, rfl⟩
      obtain ⟨f6, ef6⟩ : ∃ z : Int → Int, z = h6 88 := ⟨_, rfl⟩
      rw [← eo6, ← ef6] at hs
      rw [← eo6] at hfk
      have r82_7 : h6 82 = s := (fr6 _ (by decide)).trans r82_5
      have fr7 : mh_fr [81, 88] h h6 := (mh_fr.tr fr5 fr6).mono (by simp)
      have hfo := hfo.tr hfk
      obtain ⟨p6, ep6⟩ : ∃ z : sx_S, z = sx_pp ((-100) - gg) p4 := ⟨_, rfl⟩
      have hpn := zpv
      rw [← ep6] at hs
      have hp : sx_pv s p6 := by rw [ep6]; exact hpn
      obtain ⟨hrr, hzz⟩ := sx_hr_z hb hp
      obtain ⟨hp1, hp2, hp3⟩ := sx_pv_x hp
      obtain ⟨hs1, hs2, hs3, hs4, hs5, hs6⟩ := id hs
      have hq6 := h6
      rw [← ep6] at hms
      refine mh_aload0 (pc := 43) F dX12_sum_43 ?_
      refine mh_callVp (pc := 44) (As := []) (st := []) F (by omega) (k_here (by omega) F6 r82_7 eo6.symm hb hs hp) wv_RX12_188_yX12_here dX12_sum_44 sh_81 rfl (by decide) rfl rfl (Nat.le_of_ble_eq_true rfl) ⟨Nat.zero_le _, Nat.zero_le _⟩ ?_
      refine mh_istore1 (pc := 47) F dX12_sum_47 rfl (by decide) ?_
      refine mh_goto (pc := 48) (tgt := 9) F dX12_sum_48 rfl ?_
      exact ihL9 _ (by omega) (sx_hr s p6) h6 o6 f6 p6 F6 (fr7.mono (by simp)) r82_7 eo6.symm ef6.symm hs hp hfo rfl (fun z => absurd z hx6) (hL.trans ((sx_L_st hb hG sx_okS hpq (by first | exact decide_eq_true (by omega) | (rw [ht0]; decide))).trans (by rw [ep6, ep4, hg]))) rfl
    · refine mh_iload1 (pc := 15) F dX12_sum_15 ?_
      refine mh_bipush (pc := 16) F dX12_sum_16 rfl ?_
      refine mh_icmp_ne (pc := 18) (tgt := 51) F dX12_sum_18 rfl (by omega) (by omega) (fun c_18 => ?_) (fun c_18 => ?_)
      · exact mh_return F Z dX12_sum_51 ⟨rfl, Fa, (fra.mono (by simp)), (by rw [r81a, r88a]; exact (hs.eq (hL.trans (sx_L_no (fun z => absurd (of_decide_eq_true z) (by omega)))) rfl)), (by rw [r81a]; exact hfo)⟩
      · refine mh_aload0 (pc := 21) F dX12_sum_21 ?_
        refine mh_dup (pc := 22) F dX12_sum_22 rfl ?_
        refine mh_getir (pc := 23) F sh_81 (by decide) fw_RX12_180_12 dX12_sum_23 rfl r81a ?_
        refine mh_iconst (pc := 26) F dX12_sum_26 ?_
        refine mh_iadd (pc := 27) F dX12_sum_27 ?_
        refine mh_puti (pc := 28) F sh_81 (by decide) pw_RX12_180_12 dX12_sum_28 ?_
        refine mh_nmh (fun h8 e8 => ?_)
        have F8 : mh_FX h8 := by rw [e8]; exact Fa.upz rfl
        have r82_8 : h8 82 = s := by rw [e8, mh_up_row (by decide)]; exact r82a
        have r81_8 : h8 81 = mh_ur oa 10 ((oa 10) + 1) := by rw [e8, mh_up_rs, r81a]
        have r88_8 : h8 88 = fa := by rw [e8, mh_up_row (by decide)]; exact r88a
        have fr8 : mh_fr [81, 88] h h8 := mh_fr.upi fra e8 (by simp)
        have hq4 := hzz (by omega)
        have hpq := hp
        have hs := hs.pa rfl
        have hfo := hfo.up (i := 10) (v := (oa 10) + 1) (by decide)
        have hp : sx_pv s (sx_pa qa) := sx_pa_pv hq4.1 hp
        have hx6 : ¬ x = 6 := fun z => absurd (h6 z) (by omega)
        have h6 : sx_w6 x (sx_pa qa) := fun z => absurd z hx6
        refine mh_aload0 (pc := 31) F dX12_sum_31 ?_
        refine mh_callV0 (pc := 32) (As := []) (st := []) F (by omega) (HK _ _ _ _ F8 r82_8 r81_8 r88_8 hs hp h6) wv_RX12_230_yX12_p dX12_sum_32 sh_81 rfl (by decide) rfl rfl (Nat.le_of_ble_eq_true rfl) ⟨Nat.zero_le _, Nat.zero_le _⟩ (fun r9 h9 q9 => ?_)
        obtain ⟨rfl, F9, fr9, hs, hfk⟩ := q9
        obtain ⟨o9, eo9⟩ : ∃ z : Int → Int, z = h9 81 := ⟨_, rfl⟩
        obtain ⟨f9, ef9⟩ : ∃ z : Int → Int, z = h9 88 := ⟨_, rfl⟩
        rw [← eo9, ← ef9] at hs
        rw [← eo9] at hfk
        have r82_10 : h9 82 = s := (fr9 _ (by decide)).trans r82_8
        have fr10 : mh_fr [81, 88] h h9 := (mh_fr.tr fr8 fr9).mono (by simp)
        have hfo := hfo.tr hfk
        obtain ⟨p9, ep9⟩ : ∃ z : sx_S, z = (sx_P s G0) (sx_pa qa) := ⟨_, rfl⟩
        have hpn := (hG (sx_pa qa) hp).1
        have h6 : sx_w6 x p9 := fun z => by rw [ep9, (hG (sx_pa qa) hp).2.2.2.1 (h6 z)]; exact h6 z
        have hsl := (hG (sx_pa qa) hp).2.1
        rw [← ep9] at hsl
        rw [← ep9] at hs
        have hp : sx_pv s p9 := by rw [ep9]; exact hpn
        obtain ⟨hrr, hzz⟩ := sx_hr_z hb hp
        obtain ⟨hp1, hp2, hp3⟩ := sx_pv_x hp
        obtain ⟨hs1, hs2, hs3, hs4, hs5, hs6⟩ := id hs
        have hq6 := h6
        refine mh_aload0 (pc := 35) F dX12_sum_35 ?_
        refine mh_bipush (pc := 36) F dX12_sum_36 rfl ?_
        refine mh_iload1 (pc := 38) F dX12_sum_38 ?_
        refine mh_isub (pc := 39) F dX12_sum_39 ?_
        have zpv : sx_pv s (sx_pp (-100 - gg) p9) := by rw [ep9]; exact (sx_op hG hpq hq4.1 hq4.2 (g := gg) (by omega)).1
        have hms : qa.1 < (sx_pp (-100 - gg) p9).1 := by rw [ep9]; exact (sx_op hG hpq hq4.1 hq4.2 (g := gg) (by omega)).2.2.1
        have hpm : sx_m5 p9 := fun z => by have e1 : (sx_pa qa).1 = qa.1 + 1 := rfl; have e2 : (sx_pa qa).2.2.1 = qa.2.2.1 := rfl; omega
        refine mh_callV0 (pc := 40) (As := [.int (Int32.ofInt ((-100) - gg))]) (st := []) F (by omega) (k_puts (by omega) F9 r82_10 eo9.symm ef9.symm hb hs hp hpm) wv_RX12_206_yX12_puts dX12_sum_40 sh_81 rfl (by decide) rfl rfl (Nat.le_of_ble_eq_true rfl) ⟨Nat.zero_le _, Nat.zero_le _⟩ (fun r11 h11 q11 => ?_)
        obtain ⟨rfl, F11, fr11, hs, hfk⟩ := q11
        obtain ⟨o11, eo11⟩ : ∃ z : Int → Int, z = h11 81 := ⟨_, rfl⟩
        obtain ⟨f11, ef11⟩ : ∃ z : Int → Int, z = h11 88 := ⟨_, rfl⟩
        rw [← eo11, ← ef11] at hs
        rw [← eo11] at hfk
        have r82_12 : h11 82 = s := (fr11 _ (by decide)).trans r82_10
        have fr12 : mh_fr [81, 88] h h11 := (mh_fr.tr fr10 fr11).mono (by simp)
        have hfo := hfo.tr hfk
        obtain ⟨p11, ep11⟩ : ∃ z : sx_S, z = sx_pp ((-100) - gg) p9 := ⟨_, rfl⟩
        have hpn := zpv
        rw [← ep11] at hs
        have hp : sx_pv s p11 := by rw [ep11]; exact hpn
        obtain ⟨hrr, hzz⟩ := sx_hr_z hb hp
        obtain ⟨hp1, hp2, hp3⟩ := sx_pv_x hp
        obtain ⟨hs1, hs2, hs3, hs4, hs5, hs6⟩ := id hs
        have hq6 := h6
        rw [← ep11] at hms
        refine mh_aload0 (pc := 43) F dX12_sum_43 ?_
        refine mh_callVp (pc := 44) (As := []) (st := []) F (by omega) (k_here (by omega) F11 r82_12 eo11.symm hb hs hp) wv_RX12_188_yX12_here dX12_sum_44 sh_81 rfl (by decide) rfl rfl (Nat.le_of_ble_eq_true rfl) ⟨Nat.zero_le _, Nat.zero_le _⟩ ?_
        refine mh_istore1 (pc := 47) F dX12_sum_47 rfl (by decide) ?_
        refine mh_goto (pc := 48) (tgt := 9) F dX12_sum_48 rfl ?_
        exact ihL9 _ (by omega) (sx_hr s p11) h11 o11 f11 p11 F11 (fr12.mono (by simp)) r82_12 eo11.symm ef11.symm hs hp hfo rfl (fun z => absurd z hx6) (hL.trans ((sx_L_st hb hG sx_okS hpq (by first | exact decide_eq_true (by omega) | (rw [ht0]; decide))).trans (by rw [ep11, ep9, hg]))) rfl
  exact L9 _ (sx_hr s p1) h1 o1 f1 p1 F1 (fr2.mono (by simp)) r82_2 eo1.symm ef1.symm hs hp hfo rfl h6 (by rw [ep1]; rfl) rfl

set_option maxRecDepth 100000 in
set_option maxHeartbeats 600000 in
theorem k_a {g : mh_G} {d : Nat} (hd : 6 ≤ d) {h : Nat → Int → Int} (hF : mh_FX h) {s : Int → Int} (r82 : h 82 = s) {o : Int → Int} (r81 : h 81 = o) {fr : Int → Int} (r88 : h 88 = fr) {p : sx_S} {u x : Int} (hb : sx_by s) (hs : sx_is o fr p u x) (hp : sx_pv s p) (h6 : sx_w6 x p) {G0 : sx_S → sx_S} (hF0 : sx_gd s G0) (HK : sx_K g (d - 1) yX12_b cX12_b 2 s u x (sx_B s G0)) : mh_M g d yX12_a cX12_a 1 none 96 0 0 [.ref 81] h (sx_po h o (sx_lv s (sx_B s G0) sx_oA p) u (x)) := by
  refine mh_M_of RX12 rfl (by decide +kernel) [some (.ref 81)] rfl (Nat.le_of_ble_eq_true rfl) (fun f F Z hn0 hR => ?_)
  have hfo : sx_fo o o := sx_fo.rf
  obtain ⟨hrr, hzz⟩ := sx_hr_z hb hp
  obtain ⟨hp1, hp2, hp3⟩ := sx_pv_x hp
  obtain ⟨hs1, hs2, hs3, hs4, hs5, hs6⟩ := id hs
  have hb1 := hb.1
  have hG : sx_gd s (sx_B s G0) := sx_B_gd hb hF0
  refine mh_aload0 (pc := 0) F dX12_a_0 ?_
  refine mh_callV0 (pc := 1) (As := []) (st := []) F (by omega) (HK _ _ _ _ hF r82 r81 r88 hs hp h6) wv_RX12_236_yX12_b dX12_a_1 sh_81 rfl (by decide) rfl rfl (Nat.le_of_ble_eq_true rfl) ⟨Nat.zero_le _, Nat.zero_le _⟩ (fun r1 h1 q1 => ?_)
  obtain ⟨rfl, F1, fr1, hs, hfk⟩ := q1
  obtain ⟨o1, eo1⟩ : ∃ z : Int → Int, z = h1 81 := ⟨_, rfl⟩
  obtain ⟨f1, ef1⟩ : ∃ z : Int → Int, z = h1 88 := ⟨_, rfl⟩
  rw [← eo1, ← ef1] at hs
  rw [← eo1] at hfk
  have r82_2 : h1 82 = s := (fr1 _ (by decide)).trans r82
  have fr2 : mh_fr [81, 88] h h1 := (mh_fr.tr mh_fr.rf fr1).mono (by simp)
  have hfo := hfo.tr hfk
  obtain ⟨p1, ep1⟩ : ∃ z : sx_S, z = (sx_B s G0) p := ⟨_, rfl⟩
  have hpn := (hG p hp).1
  have h6 : sx_w6 x p1 := fun z => by rw [ep1, (hG p hp).2.2.2.1 (h6 z)]; exact h6 z
  have hsl := (hG p hp).2.1
  rw [← ep1] at hsl
  rw [← ep1] at hs
  have hp : sx_pv s p1 := by rw [ep1]; exact hpn
  obtain ⟨hrr, hzz⟩ := sx_hr_z hb hp
  obtain ⟨hp1, hp2, hp3⟩ := sx_pv_x hp
  obtain ⟨hs1, hs2, hs3, hs4, hs5, hs6⟩ := id hs
  have hq6 := h6
  have L4 : ∀ (m : Nat) (ha : Nat → Int → Int) (oa : Int → Int) (fa : Int → Int) (qa : sx_S), (mh_FX ha) → (mh_fr [81, 88] h ha) → (ha 82 = s) → (ha 81 = oa) → (ha 88 = fa) → (sx_is oa fa qa u x) → (sx_pv s qa) → (sx_fo o oa) → (sx_w6 x qa) → (sx_lv s (sx_B s G0) sx_oA p = sx_L s (sx_B s G0) sx_oA qa) → (s 4 - qa.1).toNat = m → mh_V g f 1 96 0 0 4 [some (.ref 81)] [] ha := by
    intro m
    induction m using Nat.strongRecOn with
    | _ m ihL4 =>
    intro ha oa fa qa Fa fra r82a r81a r88a hs hp hfo h6 hL hmz
    obtain ⟨hrr, hzz⟩ := sx_hr_z hb hp
    obtain ⟨hp1, hp2, hp3⟩ := sx_pv_x hp
    obtain ⟨hs1, hs2, hs3, hs4, hs5, hs6⟩ := id hs
    have hq6 := h6
    refine mh_aload0 (pc := 4) F dX12_a_4 ?_
    refine mh_bipush (pc := 5) F dX12_a_5 rfl ?_
    refine mh_callV0 (pc := 7) (As := [.int (Int32.ofInt (38))]) (st := []) F (by omega) (k_takesX (by omega) Fa r82a r81a r88a hb hs hp (by omega)) wv_RX12_227_yX12_takes_ dX12_a_7 sh_81 rfl (by decide) rfl rfl (Nat.le_of_ble_eq_true rfl) ⟨Nat.zero_le _, Nat.zero_le _⟩ (fun r3 h3 q3 => ?_)
    obtain ⟨rfl, F3, fr3, hs, hfk⟩ := q3
    obtain ⟨o3, eo3⟩ : ∃ z : Int → Int, z = h3 81 := ⟨_, rfl⟩
    rw [← eo3] at hs
    rw [← eo3] at hfk
    have r82_4 : h3 82 = s := (fr3 _ (by decide)).trans r82a
    have r88_4 : h3 88 = fa := (fr3 _ (by decide)).trans r88a
    have fr4 : mh_fr [81, 88] h h3 := (mh_fr.tr fra fr3).mono (by simp)
    have hfo := hfo.tr hfk
    by_cases ht3 : sx_hr s qa = 38
    · refine mh_top (y := 1) (mh_eqI (mh_B1 ht3)) ?_
      rw [if_pos ht3] at hs
      have hq4 := hzz (by omega)
      have hpq := hp
      have hp : sx_pv s (sx_pa qa) := sx_pa_pv hq4.1 hp
      have hx6 : ¬ (x) = 6 := fun z => absurd (h6 z) (by omega)
      have h6 : sx_w6 (x) (sx_pa qa) := fun z => absurd z hx6
      refine mh_if_eq (pc := 10) (tgt := 27) F dX12_a_10 rfl (by omega) (fun c_10 => ?_) (fun c_10 => ?_)
      · exact absurd c_10 (by decide)
      · refine mh_aload0 (pc := 13) F dX12_a_13 ?_
        refine mh_callV0 (pc := 14) (As := []) (st := []) F (by omega) (HK _ _ _ _ F3 r82_4 eo3.symm r88_4 hs hp h6) wv_RX12_236_yX12_b dX12_a_14 sh_81 rfl (by decide) rfl rfl (Nat.le_of_ble_eq_true rfl) ⟨Nat.zero_le _, Nat.zero_le _⟩ (fun r5 h5 q5 => ?_)
        obtain ⟨rfl, F5, fr5, hs, hfk⟩ := q5
        obtain ⟨o5, eo5⟩ : ∃ z : Int → Int, z = h5 81 := ⟨_, rfl⟩
        obtain ⟨f5, ef5⟩ : ∃ z : Int → Int, z = h5 88 := ⟨_, rfl⟩
        rw [← eo5, ← ef5] at hs
        rw [← eo5] at hfk
        have r82_6 : h5 82 = s := (fr5 _ (by decide)).trans r82_4
        have fr6 : mh_fr [81, 88] h h5 := (mh_fr.tr fr4 fr5).mono (by simp)
        have hfo := hfo.tr hfk
        obtain ⟨p5, ep5⟩ : ∃ z : sx_S, z = (sx_B s G0) (sx_pa qa) := ⟨_, rfl⟩
        have hpn := (hG (sx_pa qa) hp).1
        have h6 : sx_w6 x p5 := fun z => by rw [ep5, (hG (sx_pa qa) hp).2.2.2.1 (h6 z)]; exact h6 z
        have hsl := (hG (sx_pa qa) hp).2.1
        rw [← ep5] at hsl
        rw [← ep5] at hs
        have hp : sx_pv s p5 := by rw [ep5]; exact hpn
        obtain ⟨hrr, hzz⟩ := sx_hr_z hb hp
        obtain ⟨hp1, hp2, hp3⟩ := sx_pv_x hp
        obtain ⟨hs1, hs2, hs3, hs4, hs5, hs6⟩ := id hs
        have hq6 := h6
        refine mh_aload0 (pc := 17) F dX12_a_17 ?_
        refine mh_sipush (pc := 18) F dX12_a_18 rfl ?_
        have zpv : sx_pv s (sx_pp (-138) p5) := by rw [ep5]; exact (sx_op hG hpq hq4.1 hq4.2 (g := 38) (by omega)).1
        have hms : qa.1 < (sx_pp (-138) p5).1 := by rw [ep5]; exact (sx_op hG hpq hq4.1 hq4.2 (g := 38) (by omega)).2.2.1
        have hpm : sx_m5 p5 := fun z => by have e1 : (sx_pa qa).1 = qa.1 + 1 := rfl; have e2 : (sx_pa qa).2.2.1 = qa.2.2.1 := rfl; omega
        refine mh_callV0 (pc := 21) (As := [.int (Int32.ofInt (-138))]) (st := []) F (by omega) (k_puts (by omega) F5 r82_6 eo5.symm ef5.symm hb hs hp hpm) wv_RX12_206_yX12_puts dX12_a_21 sh_81 rfl (by decide) rfl rfl (Nat.le_of_ble_eq_true rfl) ⟨Nat.zero_le _, Nat.zero_le _⟩ (fun r7 h7 q7 => ?_)
        obtain ⟨rfl, F7, fr7, hs, hfk⟩ := q7
        obtain ⟨o7, eo7⟩ : ∃ z : Int → Int, z = h7 81 := ⟨_, rfl⟩
        obtain ⟨f7, ef7⟩ : ∃ z : Int → Int, z = h7 88 := ⟨_, rfl⟩
        rw [← eo7, ← ef7] at hs
        rw [← eo7] at hfk
        have r82_8 : h7 82 = s := (fr7 _ (by decide)).trans r82_6
        have fr8 : mh_fr [81, 88] h h7 := (mh_fr.tr fr6 fr7).mono (by simp)
        have hfo := hfo.tr hfk
        obtain ⟨p7, ep7⟩ : ∃ z : sx_S, z = sx_pp (-138) p5 := ⟨_, rfl⟩
        have hpn := zpv
        rw [← ep7] at hs
        have hp : sx_pv s p7 := by rw [ep7]; exact hpn
        obtain ⟨hrr, hzz⟩ := sx_hr_z hb hp
        obtain ⟨hp1, hp2, hp3⟩ := sx_pv_x hp
        obtain ⟨hs1, hs2, hs3, hs4, hs5, hs6⟩ := id hs
        have hq6 := h6
        rw [← ep7] at hms
        refine mh_goto (pc := 24) (tgt := 4) F dX12_a_24 rfl ?_
        exact ihL4 _ (by omega) h7 o7 f7 p7 F7 (fr8.mono (by simp)) r82_8 eo7.symm ef7.symm hs hp hfo (fun z => absurd z hx6) (hL.trans ((sx_L_st hb hG sx_okA hpq (by first | exact decide_eq_true (by omega) | (rw [ht3]; decide))).trans (by rw [ep7, ep5, ht3]; first | done | rfl))) rfl
    · refine mh_top (y := 0) (mh_eqI (mh_B0 ht3)) ?_
      rw [if_neg ht3] at hs
      refine mh_if_eq (pc := 10) (tgt := 27) F dX12_a_10 rfl (by omega) (fun c_10 => ?_) (fun c_10 => ?_)
      · exact mh_return F Z dX12_a_27 ⟨rfl, F3, (fr4.mono (by simp)), (by rw [eo3.symm, r88_4]; exact (hs.eq (hL.trans (sx_L_no (fun z => absurd (of_decide_eq_true z) (by omega)))) rfl)), (by rw [eo3.symm]; exact hfo)⟩
      · exact absurd c_10 (by decide)
  exact L4 _ h1 o1 f1 p1 F1 (fr2.mono (by simp)) r82_2 eo1.symm ef1.symm hs hp hfo h6 (by rw [ep1]; rfl) rfl

set_option maxRecDepth 100000 in
set_option maxHeartbeats 600000 in
theorem k_t {g : mh_G} {d : Nat} (hd : 6 ≤ d) {h : Nat → Int → Int} (hF : mh_FX h) {s : Int → Int} (r82 : h 82 = s) {o : Int → Int} (r81 : h 81 = o) {fr : Int → Int} (r88 : h 88 = fr) {p : sx_S} {u x : Int} (hb : sx_by s) (hs : sx_is o fr p u x) (hp : sx_pv s p) (h6 : sx_w6 x p) {G0 : sx_S → sx_S} (hF0 : sx_gd s G0) (HK : sx_K g (d - 1) yX12_a cX12_a 1 s u x (sx_A s G0)) : mh_M g d yX12_t cX12_t 1 none 96 0 0 [.ref 81] h (sx_po h o (sx_lv s (sx_A s G0) sx_oT p) u (x)) := by
  refine mh_M_of RX12 rfl (by decide +kernel) [some (.ref 81)] rfl (Nat.le_of_ble_eq_true rfl) (fun f F Z hn0 hR => ?_)
  have hfo : sx_fo o o := sx_fo.rf
  obtain ⟨hrr, hzz⟩ := sx_hr_z hb hp
  obtain ⟨hp1, hp2, hp3⟩ := sx_pv_x hp
  obtain ⟨hs1, hs2, hs3, hs4, hs5, hs6⟩ := id hs
  have hb1 := hb.1
  have hG : sx_gd s (sx_A s G0) := sx_A_gd hb hF0
  refine mh_aload0 (pc := 0) F dX12_t_0 ?_
  refine mh_callV0 (pc := 1) (As := []) (st := []) F (by omega) (HK _ _ _ _ hF r82 r81 r88 hs hp h6) wv_RX12_239_yX12_a dX12_t_1 sh_81 rfl (by decide) rfl rfl (Nat.le_of_ble_eq_true rfl) ⟨Nat.zero_le _, Nat.zero_le _⟩ (fun r1 h1 q1 => ?_)
  obtain ⟨rfl, F1, fr1, hs, hfk⟩ := q1
  obtain ⟨o1, eo1⟩ : ∃ z : Int → Int, z = h1 81 := ⟨_, rfl⟩
  obtain ⟨f1, ef1⟩ : ∃ z : Int → Int, z = h1 88 := ⟨_, rfl⟩
  rw [← eo1, ← ef1] at hs
  rw [← eo1] at hfk
  have r82_2 : h1 82 = s := (fr1 _ (by decide)).trans r82
  have fr2 : mh_fr [81, 88] h h1 := (mh_fr.tr mh_fr.rf fr1).mono (by simp)
  have hfo := hfo.tr hfk
  obtain ⟨p1, ep1⟩ : ∃ z : sx_S, z = (sx_A s G0) p := ⟨_, rfl⟩
  have hpn := (hG p hp).1
  have h6 : sx_w6 x p1 := fun z => by rw [ep1, (hG p hp).2.2.2.1 (h6 z)]; exact h6 z
  have hsl := (hG p hp).2.1
  rw [← ep1] at hsl
  rw [← ep1] at hs
  have hp : sx_pv s p1 := by rw [ep1]; exact hpn
  obtain ⟨hrr, hzz⟩ := sx_hr_z hb hp
  obtain ⟨hp1, hp2, hp3⟩ := sx_pv_x hp
  obtain ⟨hs1, hs2, hs3, hs4, hs5, hs6⟩ := id hs
  have hq6 := h6
  have L4 : ∀ (m : Nat) (ha : Nat → Int → Int) (oa : Int → Int) (fa : Int → Int) (qa : sx_S), (mh_FX ha) → (mh_fr [81, 88] h ha) → (ha 82 = s) → (ha 81 = oa) → (ha 88 = fa) → (sx_is oa fa qa u x) → (sx_pv s qa) → (sx_fo o oa) → (sx_w6 x qa) → (sx_lv s (sx_A s G0) sx_oT p = sx_L s (sx_A s G0) sx_oT qa) → (s 4 - qa.1).toNat = m → mh_V g f 1 96 0 0 4 [some (.ref 81)] [] ha := by
    intro m
    induction m using Nat.strongRecOn with
    | _ m ihL4 =>
    intro ha oa fa qa Fa fra r82a r81a r88a hs hp hfo h6 hL hmz
    obtain ⟨hrr, hzz⟩ := sx_hr_z hb hp
    obtain ⟨hp1, hp2, hp3⟩ := sx_pv_x hp
    obtain ⟨hs1, hs2, hs3, hs4, hs5, hs6⟩ := id hs
    have hq6 := h6
    refine mh_aload0 (pc := 4) F dX12_t_4 ?_
    refine mh_bipush (pc := 5) F dX12_t_5 rfl ?_
    refine mh_callV0 (pc := 7) (As := [.int (Int32.ofInt (124))]) (st := []) F (by omega) (k_takesX (by omega) Fa r82a r81a r88a hb hs hp (by omega)) wv_RX12_227_yX12_takes_ dX12_t_7 sh_81 rfl (by decide) rfl rfl (Nat.le_of_ble_eq_true rfl) ⟨Nat.zero_le _, Nat.zero_le _⟩ (fun r3 h3 q3 => ?_)
    obtain ⟨rfl, F3, fr3, hs, hfk⟩ := q3
    obtain ⟨o3, eo3⟩ : ∃ z : Int → Int, z = h3 81 := ⟨_, rfl⟩
    rw [← eo3] at hs
    rw [← eo3] at hfk
    have r82_4 : h3 82 = s := (fr3 _ (by decide)).trans r82a
    have r88_4 : h3 88 = fa := (fr3 _ (by decide)).trans r88a
    have fr4 : mh_fr [81, 88] h h3 := (mh_fr.tr fra fr3).mono (by simp)
    have hfo := hfo.tr hfk
    by_cases ht3 : sx_hr s qa = 124
    · refine mh_top (y := 1) (mh_eqI (mh_B1 ht3)) ?_
      rw [if_pos ht3] at hs
      have hq4 := hzz (by omega)
      have hpq := hp
      have hp : sx_pv s (sx_pa qa) := sx_pa_pv hq4.1 hp
      have hx6 : ¬ (x) = 6 := fun z => absurd (h6 z) (by omega)
      have h6 : sx_w6 (x) (sx_pa qa) := fun z => absurd z hx6
      refine mh_if_eq (pc := 10) (tgt := 27) F dX12_t_10 rfl (by omega) (fun c_10 => ?_) (fun c_10 => ?_)
      · exact absurd c_10 (by decide)
      · refine mh_aload0 (pc := 13) F dX12_t_13 ?_
        refine mh_callV0 (pc := 14) (As := []) (st := []) F (by omega) (HK _ _ _ _ F3 r82_4 eo3.symm r88_4 hs hp h6) wv_RX12_239_yX12_a dX12_t_14 sh_81 rfl (by decide) rfl rfl (Nat.le_of_ble_eq_true rfl) ⟨Nat.zero_le _, Nat.zero_le _⟩ (fun r5 h5 q5 => ?_)
        obtain ⟨rfl, F5, fr5, hs, hfk⟩ := q5
        obtain ⟨o5, eo5⟩ : ∃ z : Int → Int, z = h5 81 := ⟨_, rfl⟩
        obtain ⟨f5, ef5⟩ : ∃ z : Int → Int, z = h5 88 := ⟨_, rfl⟩
        rw [← eo5, ← ef5] at hs
        rw [← eo5] at hfk
        have r82_6 : h5 82 = s := (fr5 _ (by decide)).trans r82_4
        have fr6 : mh_fr [81, 88] h h5 := (mh_fr.tr fr4 fr5).mono (by simp)
        have hfo := hfo.tr hfk
        obtain ⟨p5, ep5⟩ : ∃ z : sx_S, z = (sx_A s G0) (sx_pa qa) := ⟨_, rfl⟩
        have hpn := (hG (sx_pa qa) hp).1
        have h6 : sx_w6 x p5 := fun z => by rw [ep5, (hG (sx_pa qa) hp).2.2.2.1 (h6 z)]; exact h6 z
        have hsl := (hG (sx_pa qa) hp).2.1
        rw [← ep5] at hsl
        rw [← ep5] at hs
        have hp : sx_pv s p5 := by rw [ep5]; exact hpn
        obtain ⟨hrr, hzz⟩ := sx_hr_z hb hp
        obtain ⟨hp1, hp2, hp3⟩ := sx_pv_x hp
        obtain ⟨hs1, hs2, hs3, hs4, hs5, hs6⟩ := id hs
        have hq6 := h6
        refine mh_aload0 (pc := 17) F dX12_t_17 ?_
        refine mh_sipush (pc := 18) F dX12_t_18 rfl ?_
        have zpv : sx_pv s (sx_pp (-224) p5) := by rw [ep5]; exact (sx_op hG hpq hq4.1 hq4.2 (g := 124) (by omega)).1
        have hms : qa.1 < (sx_pp (-224) p5).1 := by rw [ep5]; exact (sx_op hG hpq hq4.1 hq4.2 (g := 124) (by omega)).2.2.1
        have hpm : sx_m5 p5 := fun z => by have e1 : (sx_pa qa).1 = qa.1 + 1 := rfl; have e2 : (sx_pa qa).2.2.1 = qa.2.2.1 := rfl; omega
        refine mh_callV0 (pc := 21) (As := [.int (Int32.ofInt (-224))]) (st := []) F (by omega) (k_puts (by omega) F5 r82_6 eo5.symm ef5.symm hb hs hp hpm) wv_RX12_206_yX12_puts dX12_t_21 sh_81 rfl (by decide) rfl rfl (Nat.le_of_ble_eq_true rfl) ⟨Nat.zero_le _, Nat.zero_le _⟩ (fun r7 h7 q7 => ?_)
        obtain ⟨rfl, F7, fr7, hs, hfk⟩ := q7
        obtain ⟨o7, eo7⟩ : ∃ z : Int → Int, z = h7 81 := ⟨_, rfl⟩
        obtain ⟨f7, ef7⟩ : ∃ z : Int → Int, z = h7 88 := ⟨_, rfl⟩
        rw [← eo7, ← ef7] at hs
        rw [← eo7] at hfk
        have r82_8 : h7 82 = s := (fr7 _ (by decide)).trans r82_6
        have fr8 : mh_fr [81, 88] h h7 := (mh_fr.tr fr6 fr7).mono (by simp)
        have hfo := hfo.tr hfk
        obtain ⟨p7, ep7⟩ : ∃ z : sx_S, z = sx_pp (-224) p5 := ⟨_, rfl⟩
        have hpn := zpv
        rw [← ep7] at hs
        have hp : sx_pv s p7 := by rw [ep7]; exact hpn
        obtain ⟨hrr, hzz⟩ := sx_hr_z hb hp
        obtain ⟨hp1, hp2, hp3⟩ := sx_pv_x hp
        obtain ⟨hs1, hs2, hs3, hs4, hs5, hs6⟩ := id hs
        have hq6 := h6
        rw [← ep7] at hms
        refine mh_goto (pc := 24) (tgt := 4) F dX12_t_24 rfl ?_
        exact ihL4 _ (by omega) h7 o7 f7 p7 F7 (fr8.mono (by simp)) r82_8 eo7.symm ef7.symm hs hp hfo (fun z => absurd z hx6) (hL.trans ((sx_L_st hb hG sx_okT hpq (by first | exact decide_eq_true (by omega) | (rw [ht3]; decide))).trans (by rw [ep7, ep5, ht3]; first | done | rfl))) rfl
    · refine mh_top (y := 0) (mh_eqI (mh_B0 ht3)) ?_
      rw [if_neg ht3] at hs
      refine mh_if_eq (pc := 10) (tgt := 27) F dX12_t_10 rfl (by omega) (fun c_10 => ?_) (fun c_10 => ?_)
      · exact mh_return F Z dX12_t_27 ⟨rfl, F3, (fr4.mono (by simp)), (by rw [eo3.symm, r88_4]; exact (hs.eq (hL.trans (sx_L_no (fun z => absurd (of_decide_eq_true z) (by omega)))) rfl)), (by rw [eo3.symm]; exact hfo)⟩
      · exact absurd c_10 (by decide)
  exact L4 _ h1 o1 f1 p1 F1 (fr2.mono (by simp)) r82_2 eo1.symm ef1.symm hs hp hfo h6 (by rw [ep1]; rfl) rfl

set_option maxRecDepth 100000 in
set_option maxHeartbeats 600000 in
theorem k_b {g : mh_G} {d : Nat} (hd : 6 ≤ d) {h : Nat → Int → Int} (hF : mh_FX h) {s : Int → Int} (r82 : h 82 = s) {o : Int → Int} (r81 : h 81 = o) {fr : Int → Int} (r88 : h 88 = fr) {p : sx_S} {u x : Int} (hb : sx_by s) (hs : sx_is o fr p u x) (hp : sx_pv s p) (h6 : sx_w6 x p) {G0 : sx_S → sx_S} (hF0 : sx_gd s G0) (HK : sx_K g (d - 1) yX12_sum cX12_sum 2 s u x (sx_U s G0)) : mh_M g d yX12_b cX12_b 2 none 96 0 0 [.ref 81] h (sx_po h o (sx_B s G0 p) u (x)) := by
  refine mh_M_of RX12 rfl (by decide +kernel) [some (.ref 81), none] rfl (Nat.le_of_ble_eq_true rfl) (fun f F Z hn0 hR => ?_)
  have hfo : sx_fo o o := sx_fo.rf
  obtain ⟨hrr, hzz⟩ := sx_hr_z hb hp
  obtain ⟨hp1, hp2, hp3⟩ := sx_pv_x hp
  obtain ⟨hs1, hs2, hs3, hs4, hs5, hs6⟩ := id hs
  have hb1 := hb.1
  have hG : sx_gd s (sx_U s G0) := sx_U_gd hb hF0
  refine mh_aload0 (pc := 0) F dX12_b_0 ?_
  refine mh_callV0 (pc := 1) (As := []) (st := []) F (by omega) (HK _ _ _ _ hF r82 r81 r88 hs hp h6) wv_RX12_233_yX12_sum dX12_b_1 sh_81 rfl (by decide) rfl rfl (Nat.le_of_ble_eq_true rfl) ⟨Nat.zero_le _, Nat.zero_le _⟩ (fun r1 h1 q1 => ?_)
  obtain ⟨rfl, F1, fr1, hs, hfk⟩ := q1
  obtain ⟨o1, eo1⟩ : ∃ z : Int → Int, z = h1 81 := ⟨_, rfl⟩
  obtain ⟨f1, ef1⟩ : ∃ z : Int → Int, z = h1 88 := ⟨_, rfl⟩
  rw [← eo1, ← ef1] at hs
  rw [← eo1] at hfk
  have r82_2 : h1 82 = s := (fr1 _ (by decide)).trans r82
  have fr2 : mh_fr [81, 88] h h1 := (mh_fr.tr mh_fr.rf fr1).mono (by simp)
  have hfo := hfo.tr hfk
  obtain ⟨p1, ep1⟩ : ∃ z : sx_S, z = sx_U s G0 p := ⟨_, rfl⟩
  have hpn := (hG p hp).1
  have h6 : sx_w6 x p1 := fun z => by rw [ep1, (hG p hp).2.2.2.1 (h6 z)]; exact h6 z
  have hsl := (hG p hp).2.1
  rw [← ep1] at hsl
  rw [← ep1] at hs
  have hp : sx_pv s p1 := by rw [ep1]; exact hpn
  obtain ⟨hrr, hzz⟩ := sx_hr_z hb hp
  obtain ⟨hp1, hp2, hp3⟩ := sx_pv_x hp
  obtain ⟨hs1, hs2, hs3, hs4, hs5, hs6⟩ := id hs
  have hq6 := h6
  refine mh_aload0 (pc := 4) F dX12_b_4 ?_
  refine mh_callVp (pc := 5) (As := []) (st := []) F (by omega) (k_here (by omega) F1 r82_2 eo1.symm hb hs hp) wv_RX12_188_yX12_here dX12_b_5 sh_81 rfl (by decide) rfl rfl (Nat.le_of_ble_eq_true rfl) ⟨Nat.zero_le _, Nat.zero_le _⟩ ?_
  refine mh_istore1 (pc := 8) F dX12_b_8 rfl (by decide) ?_
  refine mh_iload1 (pc := 9) F dX12_b_9 ?_
  refine mh_bipush (pc := 10) F dX12_b_10 rfl ?_
  refine mh_icmp_eq (pc := 12) (tgt := 27) F dX12_b_12 rfl (by omega) (by omega) (fun c_12 => ?_) (fun c_12 => ?_)
  · refine mh_aload0 (pc := 27) F dX12_b_27 ?_
    refine mh_dup (pc := 28) F dX12_b_28 rfl ?_
    refine mh_getir (pc := 29) F sh_81 (by decide) fw_RX12_180_12 dX12_b_29 rfl eo1.symm ?_
    refine mh_iconst (pc := 32) F dX12_b_32 ?_
    refine mh_iadd (pc := 33) F dX12_b_33 ?_
    refine mh_puti (pc := 34) F sh_81 (by decide) pw_RX12_180_12 dX12_b_34 ?_
    refine mh_nmh (fun h3 e3 => ?_)
    have F3 : mh_FX h3 := by rw [e3]; exact F1.upz rfl
    have r82_3 : h3 82 = s := by rw [e3, mh_up_row (by decide)]; exact r82_2
    have r81_3 : h3 81 = mh_ur o1 10 ((o1 10) + 1) := by rw [e3, mh_up_rs, eo1.symm]
    have r88_3 : h3 88 = f1 := by rw [e3, mh_up_row (by decide)]; exact ef1.symm
    have fr3 : mh_fr [81, 88] h h3 := mh_fr.upi fr2 e3 (by simp)
    have hq4 := hzz (by omega)
    have hpq := hp
    have hs := hs.pa rfl
    have hfo := hfo.up (i := 10) (v := (o1 10) + 1) (by decide)
    have hp : sx_pv s (sx_pa p1) := sx_pa_pv hq4.1 hp
    have hx6 : ¬ x = 6 := fun z => absurd (h6 z) (by omega)
    have h6 : sx_w6 x (sx_pa p1) := fun z => absurd z hx6
    refine mh_aload0 (pc := 37) F dX12_b_37 ?_
    refine mh_callV0 (pc := 38) (As := []) (st := []) F (by omega) (HK _ _ _ _ F3 r82_3 r81_3 r88_3 hs hp h6) wv_RX12_233_yX12_sum dX12_b_38 sh_81 rfl (by decide) rfl rfl (Nat.le_of_ble_eq_true rfl) ⟨Nat.zero_le _, Nat.zero_le _⟩ (fun r4 h4 q4 => ?_)
    obtain ⟨rfl, F4, fr4, hs, hfk⟩ := q4
    obtain ⟨o4, eo4⟩ : ∃ z : Int → Int, z = h4 81 := ⟨_, rfl⟩
    obtain ⟨f4, ef4⟩ : ∃ z : Int → Int, z = h4 88 := ⟨_, rfl⟩
    rw [← eo4, ← ef4] at hs
    rw [← eo4] at hfk
    have r82_5 : h4 82 = s := (fr4 _ (by decide)).trans r82_3
    have fr5 : mh_fr [81, 88] h h4 := (mh_fr.tr fr3 fr4).mono (by simp)
    have hfo := hfo.tr hfk
    obtain ⟨p4, ep4⟩ : ∃ z : sx_S, z = sx_U s G0 (sx_pa p1) := ⟨_, rfl⟩
    have hpn := (hG (sx_pa p1) hp).1
    have h6 : sx_w6 x p4 := fun z => by rw [ep4, (hG (sx_pa p1) hp).2.2.2.1 (h6 z)]; exact h6 z
    have hsl := (hG (sx_pa p1) hp).2.1
    rw [← ep4] at hsl
    rw [← ep4] at hs
    have hp : sx_pv s p4 := by rw [ep4]; exact hpn
    obtain ⟨hrr, hzz⟩ := sx_hr_z hb hp
    obtain ⟨hp1, hp2, hp3⟩ := sx_pv_x hp
    obtain ⟨hs1, hs2, hs3, hs4, hs5, hs6⟩ := id hs
    have hq6 := h6
    refine mh_aload0 (pc := 41) F dX12_b_41 ?_
    refine mh_bipush (pc := 42) F dX12_b_42 rfl ?_
    refine mh_iload1 (pc := 44) F dX12_b_44 ?_
    refine mh_isub (pc := 45) F dX12_b_45 ?_
    have zpv : sx_pv s (sx_pp (-100 - sx_hr s p1) p4) := by rw [ep4]; exact (sx_op hG hpq hq4.1 hq4.2 (g := sx_hr s p1) (by omega)).1
    have hpm : sx_m5 p4 := fun z => by have e1 : (sx_pa p1).1 = p1.1 + 1 := rfl; have e2 : (sx_pa p1).2.2.1 = p1.2.2.1 := rfl; omega
    refine mh_callV0 (pc := 46) (As := [.int (Int32.ofInt ((-100) - (sx_hr s p1)))]) (st := []) F (by omega) (k_puts (by omega) F4 r82_5 eo4.symm ef4.symm hb hs hp hpm) wv_RX12_206_yX12_puts dX12_b_46 sh_81 rfl (by decide) rfl rfl (Nat.le_of_ble_eq_true rfl) ⟨Nat.zero_le _, Nat.zero_le _⟩ (fun r6 h6 q6 => ?_)
    obtain ⟨rfl, F6, fr6, hs, hfk⟩ := q6
    obtain ⟨o6, eo6⟩ : ∃ z : Int → Int, z = h6 81 := ⟨_, rfl⟩
    obtain ⟨f6, ef6⟩ : ∃ z : Int → Int, z = h6 88 := ⟨_, rfl⟩
    rw [← eo6, ← ef6] at hs
    rw [← eo6] at hfk
    have r82_7 : h6 82 = s := (fr6 _ (by decide)).trans r82_5
    have fr7 : mh_fr [81, 88] h h6 := (mh_fr.tr fr5 fr6).mono (by simp)
    have hfo := hfo.tr hfk
    obtain ⟨p6, ep6⟩ : ∃ z : sx_S, z = sx_pp ((-100) - (sx_hr s p1)) p4 := ⟨_, rfl⟩
    have hpn := zpv
    rw [← ep6] at hs
    have hp : sx_pv s p6 := by rw [ep6]; exact hpn
    obtain ⟨hrr, hzz⟩ := sx_hr_z hb hp
    obtain ⟨hp1, hp2, hp3⟩ := sx_pv_x hp
    obtain ⟨hs1, hs2, hs3, hs4, hs5, hs6⟩ := id hs
    have hq6 := h6
    exact mh_return F Z dX12_b_49 ⟨rfl, F6, (fr7.mono (by simp)), (by rw [eo6.symm, ef6.symm]; exact (hs.eq (by unfold sx_B sx_cm; rw [← ep1, if_pos (by omega), ← ep4, ← ep6]) rfl)), (by rw [eo6.symm]; exact hfo)⟩
  · refine mh_iload1 (pc := 15) F dX12_b_15 ?_
    refine mh_bipush (pc := 16) F dX12_b_16 rfl ?_
    refine mh_icmp_eq (pc := 18) (tgt := 27) F dX12_b_18 rfl (by omega) (by omega) (fun c_18 => ?_) (fun c_18 => ?_)
    · refine mh_aload0 (pc := 27) F dX12_b_27 ?_
      refine mh_dup (pc := 28) F dX12_b_28 rfl ?_
      refine mh_getir (pc := 29) F sh_81 (by decide) fw_RX12_180_12 dX12_b_29 rfl eo1.symm ?_
      refine mh_iconst (pc := 32) F dX12_b_32 ?_
      refine mh_iadd (pc := 33) F dX12_b_33 ?_
      refine mh_puti (pc := 34) F sh_81 (by decide) pw_RX12_180_12 dX12_b_34 ?_
      refine mh_nmh (fun h8 e8 => ?_)
      have F8 : mh_FX h8 := by rw [e8]; exact F1.upz rfl
      have r82_8 : h8 82 = s := by rw [e8, mh_up_row (by decide)]; exact r82_2
      have r81_8 : h8 81 = mh_ur o1 10 ((o1 10) + 1) := by rw [e8, mh_up_rs, eo1.symm]
      have r88_8 : h8 88 = f1 := by rw [e8, mh_up_row (by decide)]; exact ef1.symm
      have fr8 : mh_fr [81, 88] h h8 := mh_fr.upi fr2 e8 (by simp)
      have hq4 := hzz (by omega)
      have hpq := hp
      have hs := hs.pa rfl
      have hfo := hfo.up (i := 10) (v := (o1 10) + 1) (by decide)
      have hp : sx_pv s (sx_pa p1) := sx_pa_pv hq4.1 hp
      have hx6 : ¬ x = 6 := fun z => absurd (h6 z) (by omega)
      have h6 : sx_w6 x (sx_pa p1) := fun z => absurd z hx6
      refine mh_aload0 (pc := 37) F dX12_b_37 ?_
      refine mh_callV0 (pc := 38) (As := []) (st := []) F (by omega) (HK _ _ _ _ F8 r82_8 r81_8 r88_8 hs hp h6) wv_RX12_233_yX12_sum dX12_b_38 sh_81 rfl (by decide) rfl rfl (Nat.le_of_ble_eq_true rfl) ⟨Nat.zero_le _, Nat.zero_le _⟩ (fun r9 h9 q9 => ?_)
      obtain ⟨rfl, F9, fr9, hs, hfk⟩ := q9
      obtain ⟨o9, eo9⟩ : ∃ z : Int → Int, z = h9 81 := ⟨_, rfl⟩
      obtain ⟨f9, ef9⟩ : ∃ z : Int → Int, z = h9 88 := ⟨_, rfl⟩
      rw [← eo9, ← ef9] at hs
      rw [← eo9] at hfk
      have r82_10 : h9 82 = s := (fr9 _ (by decide)).trans r82_8
      have fr10 : mh_fr [81, 88] h h9 := (mh_fr.tr fr8 fr9).mono (by simp)
      have hfo := hfo.tr hfk
      obtain ⟨p9, ep9⟩ : ∃ z : sx_S, z = sx_U s G0 (sx_pa p1) := ⟨_, rfl⟩
      have hpn := (hG (sx_pa p1) hp).1
      have h6 : sx_w6 x p9 := fun z => by rw [ep9, (hG (sx_pa p1) hp).2.2.2.1 (h6 z)]; exact h6 z
      have hsl := (hG (sx_pa p1) hp).2.1
      rw [← ep9] at hsl
      rw [← ep9] at hs
      have hp : sx_pv s p9 := by rw [ep9]; exact hpn
      obtain ⟨hrr, hzz⟩ := sx_hr_z hb hp
      obtain ⟨hp1, hp2, hp3⟩ := sx_pv_x hp
      obtain ⟨hs1, hs2, hs3, hs4, hs5, hs6⟩ := id hs
      have hq6 := h6
      refine mh_aload0 (pc := 41) F dX12_b_41 ?_
      refine mh_bipush (pc := 42) F dX12_b_42 rfl ?_
      refine mh_iload1 (pc := 44) F dX12_b_44 ?_
      refine mh_isub (pc := 45) F dX12_b_45 ?_
      have zpv : sx_pv s (sx_pp (-100 - sx_hr s p1) p9) := by rw [ep9]; exact (sx_op hG hpq hq4.1 hq4.2 (g := sx_hr s p1) (by omega)).1
      have hpm : sx_m5 p9 := fun z => by have e1 : (sx_pa p1).1 = p1.1 + 1 := rfl; have e2 : (sx_pa p1).2.2.1 = p1.2.2.1 := rfl; omega
      refine mh_callV0 (pc := 46) (As := [.int (Int32.ofInt ((-100) - (sx_hr s p1)))]) (st := []) F (by omega) (k_puts (by omega) F9 r82_10 eo9.symm ef9.symm hb hs hp hpm) wv_RX12_206_yX12_puts dX12_b_46 sh_81 rfl (by decide) rfl rfl (Nat.le_of_ble_eq_true rfl) ⟨Nat.zero_le _, Nat.zero_le _⟩ (fun r11 h11 q11 => ?_)
      obtain ⟨rfl, F11, fr11, hs, hfk⟩ := q11
      obtain ⟨o11, eo11⟩ : ∃ z : Int → Int, z = h11 81 := ⟨_, rfl⟩
      obtain ⟨f11, ef11⟩ : ∃ z : Int → Int, z = h11 88 := ⟨_, rfl⟩
      rw [← eo11, ← ef11] at hs
      rw [← eo11] at hfk
      have r82_12 : h11 82 = s := (fr11 _ (by decide)).trans r82_10
      have fr12 : mh_fr [81, 88] h h11 := (mh_fr.tr fr10 fr11).mono (by simp)
      have hfo := hfo.tr hfk
      obtain ⟨p11, ep11⟩ : ∃ z : sx_S, z = sx_pp ((-100) - (sx_hr s p1)) p9 := ⟨_, rfl⟩
      have hpn := zpv
      rw [← ep11] at hs
      have hp : sx_pv s p11 := by rw [ep11]; exact hpn
      obtain ⟨hrr, hzz⟩ := sx_hr_z hb hp
      obtain ⟨hp1, hp2, hp3⟩ := sx_pv_x hp
      obtain ⟨hs1, hs2, hs3, hs4, hs5, hs6⟩ := id hs
      have hq6 := h6
      exact mh_return F Z dX12_b_49 ⟨rfl, F11, (fr12.mono (by simp)), (by rw [eo11.symm, ef11.symm]; exact (hs.eq (by unfold sx_B sx_cm; rw [← ep1, if_pos (by omega), ← ep9, ← ep11]) rfl)), (by rw [eo11.symm]; exact hfo)⟩
    · refine mh_iload1 (pc := 21) F dX12_b_21 ?_
      refine mh_bipush (pc := 22) F dX12_b_22 rfl ?_
      refine mh_icmp_ne (pc := 24) (tgt := 49) F dX12_b_24 rfl (by omega) (by omega) (fun c_24 => ?_) (fun c_24 => ?_)
      · exact mh_return F Z dX12_b_49 ⟨rfl, F1, (fr2.mono (by simp)), (by rw [eo1.symm, ef1.symm]; exact (hs.eq (by unfold sx_B sx_cm; rw [← ep1, if_neg (by omega)]) rfl)), (by rw [eo1.symm]; exact hfo)⟩
      · refine mh_aload0 (pc := 27) F dX12_b_27 ?_
        refine mh_dup (pc := 28) F dX12_b_28 rfl ?_
        refine mh_getir (pc := 29) F sh_81 (by decide) fw_RX12_180_12 dX12_b_29 rfl eo1.symm ?_
        refine mh_iconst (pc := 32) F dX12_b_32 ?_
        refine mh_iadd (pc := 33) F dX12_b_33 ?_
        refine mh_puti (pc := 34) F sh_81 (by decide) pw_RX12_180_12 dX12_b_34 ?_
        refine mh_nmh (fun h13 e13 => ?_)
        have F13 : mh_FX h13 := by rw [e13]; exact F1.upz rfl
        have r82_13 : h13 82 = s := by rw [e13, mh_up_row (by decide)]; exact r82_2
        have r81_13 : h13 81 = mh_ur o1 10 ((o1 10) + 1) := by rw [e13, mh_up_rs, eo1.symm]
        have r88_13 : h13 88 = f1 := by rw [e13, mh_up_row (by decide)]; exact ef1.symm
        have fr13 : mh_fr [81, 88] h h13 := mh_fr.upi fr2 e13 (by simp)
        have hq4 := hzz (by omega)
        have hpq := hp
        have hs := hs.pa rfl
        have hfo := hfo.up (i := 10) (v := (o1 10) + 1) (by decide)
        have hp : sx_pv s (sx_pa p1) := sx_pa_pv hq4.1 hp
        have hx6 : ¬ x = 6 := fun z => absurd (h6 z) (by omega)
        have h6 : sx_w6 x (sx_pa p1) := fun z => absurd z hx6
        refine mh_aload0 (pc := 37) F dX12_b_37 ?_
        refine mh_callV0 (pc := 38) (As := []) (st := []) F (by omega) (HK _ _ _ _ F13 r82_13 r81_13 r88_13 hs hp h6) wv_RX12_233_yX12_sum dX12_b_38 sh_81 rfl (by decide) rfl rfl (Nat.le_of_ble_eq_true rfl) ⟨Nat.zero_le _, Nat.zero_le _⟩ (fun r14 h14 q14 => ?_)
        obtain ⟨rfl, F14, fr14, hs, hfk⟩ := q14
        obtain ⟨o14, eo14⟩ : ∃ z : Int → Int, z = h14 81 := ⟨_, rfl⟩
        obtain ⟨f14, ef14⟩ : ∃ z : Int → Int, z = h14 88 := ⟨_, rfl⟩
        rw [← eo14, ← ef14] at hs
        rw [← eo14] at hfk
        have r82_15 : h14 82 = s := (fr14 _ (by decide)).trans r82_13
        have fr15 : mh_fr [81, 88] h h14 := (mh_fr.tr fr13 fr14).mono (by simp)
        have hfo := hfo.tr hfk
        obtain ⟨p14, ep14⟩ : ∃ z : sx_S, z = sx_U s G0 (sx_pa p1) := ⟨_, rfl⟩
        have hpn := (hG (sx_pa p1) hp).1
        have h6 : sx_w6 x p14 := fun z => by rw [ep14, (hG (sx_pa p1) hp).2.2.2.1 (h6 z)]; exact h6 z
        have hsl := (hG (sx_pa p1) hp).2.1
        rw [← ep14] at hsl
        rw [← ep14] at hs
        have hp : sx_pv s p14 := by rw [ep14]; exact hpn
        obtain ⟨hrr, hzz⟩ := sx_hr_z hb hp
        obtain ⟨hp1, hp2, hp3⟩ := sx_pv_x hp
        obtain ⟨hs1, hs2, hs3, hs4, hs5, hs6⟩ := id hs
        have hq6 := h6
        refine mh_aload0 (pc := 41) F dX12_b_41 ?_
        refine mh_bipush (pc := 42) F dX12_b_42 rfl ?_
        refine mh_iload1 (pc := 44) F dX12_b_44 ?_
        refine mh_isub (pc := 45) F dX12_b_45 ?_
        have zpv : sx_pv s (sx_pp (-100 - sx_hr s p1) p14) := by rw [ep14]; exact (sx_op hG hpq hq4.1 hq4.2 (g := sx_hr s p1) (by omega)).1
        have hpm : sx_m5 p14 := fun z => by have e1 : (sx_pa p1).1 = p1.1 + 1 := rfl; have e2 : (sx_pa p1).2.2.1 = p1.2.2.1 := rfl; omega
        refine mh_callV0 (pc := 46) (As := [.int (Int32.ofInt ((-100) - (sx_hr s p1)))]) (st := []) F (by omega) (k_puts (by omega) F14 r82_15 eo14.symm ef14.symm hb hs hp hpm) wv_RX12_206_yX12_puts dX12_b_46 sh_81 rfl (by decide) rfl rfl (Nat.le_of_ble_eq_true rfl) ⟨Nat.zero_le _, Nat.zero_le _⟩ (fun r16 h16 q16 => ?_)
        obtain ⟨rfl, F16, fr16, hs, hfk⟩ := q16
        obtain ⟨o16, eo16⟩ : ∃ z : Int → Int, z = h16 81 := ⟨_, rfl⟩
        obtain ⟨f16, ef16⟩ : ∃ z : Int → Int, z = h16 88 := ⟨_, rfl⟩
        rw [← eo16, ← ef16] at hs
        rw [← eo16] at hfk
        have r82_17 : h16 82 = s := (fr16 _ (by decide)).trans r82_15
        have fr17 : mh_fr [81, 88] h h16 := (mh_fr.tr fr15 fr16).mono (by simp)
        have hfo := hfo.tr hfk
        obtain ⟨p16, ep16⟩ : ∃ z : sx_S, z = sx_pp ((-100) - (sx_hr s p1)) p14 := ⟨_, rfl⟩
        have hpn := zpv
        rw [← ep16] at hs
        have hp : sx_pv s p16 := by rw [ep16]; exact hpn
        obtain ⟨hrr, hzz⟩ := sx_hr_z hb hp
        obtain ⟨hp1, hp2, hp3⟩ := sx_pv_x hp
        obtain ⟨hs1, hs2, hs3, hs4, hs5, hs6⟩ := id hs
        have hq6 := h6
        exact mh_return F Z dX12_b_49 ⟨rfl, F16, (fr17.mono (by simp)), (by rw [eo16.symm, ef16.symm]; exact (hs.eq (by unfold sx_B sx_cm; rw [← ep1, if_pos (by omega), ← ep14, ← ep16]) rfl)), (by rw [eo16.symm]; exact hfo)⟩

theorem sx_pm {s : Int → Int} {c : Int} {q : sx_S} (h : sx_pv s (sx_pp c q)) (hb : s 4 ≤ 50) (hw : q.2.1 = 0) : q.2.2.1 < 50 := by
  have e : sx_pp c q = (q.1, q.2.1, q.2.2.1 + 1, mh_ur q.2.2.2 q.2.2.1 c) := if_pos hw
  rw [e] at h
  have h2 : q.2.2.1 + 1 ≤ q.1 := h.2.1.2
  have h3 : q.1 ≤ s 4 := h.1.2
  omega
def sx_wst (p q : sx_S) : Prop := p.2.1 = 1 → q = p
def sx_pox (x : Int) (p q : sx_S) : Prop := (x = 5 → q = sx_pw p) ∧ (x < 5 → q = sx_pa p)
def sx_h6q (s : Int → Int) (x : Int) (p : sx_S) : Prop := sx_hr s p ≠ -1 → x ≠ 6
theorem sx_o0_ok {s : Int → Int} {p : sx_S} {x : Int} (hp : sx_pv s p) (h : p.1 < s 4) : sx_pv s (sx_o0 p x) ∧ sx_w6 (x + 1) (sx_o0 p x) := by
  unfold sx_o0
  split
  · exact ⟨(sx_pw_gr hp).1, fun _ => rfl⟩
  · split
    · exact ⟨sx_pa_pv h hp, fun z => by omega⟩
    · exact ⟨hp, fun z => by omega⟩
set_option maxRecDepth 100000 in
set_option maxHeartbeats 600000 in
theorem k_q {g : mh_G} {d : Nat} (hd : 6 ≤ d) {h : Nat → Int → Int} (hF : mh_FX h) {s : Int → Int} (r82 : h 82 = s) {o : Int → Int} (r81 : h 81 = o) {fr : Int → Int} (r88 : h 88 = fr) {p : sx_S} {u x : Int} (hb : sx_by s) (hs : sx_is o fr p u x) (hp : sx_pv s p) (hu : 0 ≤ u ∧ u ≤ 1) (hx : 0 ≤ x ∧ x ≤ 6) (h6 : sx_w6 x p) (HQ : x ≤ 5 → sx_K g (d - 1) yX12_q cX12_q 2 s u (x + 1) (sx_Q s u (5 - (x + 1)).toNat)) (HT : x ≤ 5 → sx_K g (d - 1) yX12_t cX12_t 1 s u (x + 1) (sx_T s (sx_Q s u (5 - (x + 1)).toNat))) : mh_M g d yX12_q cX12_q 2 none 96 0 0 [.ref 81] h (sx_po h o (sx_Q s u (5 - x).toNat p) u (x)) := by
  refine mh_M_of RX12 rfl (by decide +kernel) [some (.ref 81), none] rfl (Nat.le_of_ble_eq_true rfl) (fun f F Z hn0 hR => ?_)
  have hfo : sx_fo o o := sx_fo.rf
  obtain ⟨hrr, hzz⟩ := sx_hr_z hb hp
  obtain ⟨hp1, hp2, hp3⟩ := sx_pv_x hp
  obtain ⟨hs1, hs2, hs3, hs4, hs5, hs6⟩ := id hs
  have hb1 := hb.1
  have hpp := hp
  have hnm := sx_nm_rg u (sx_hr s p)
  have h6q : sx_h6q s x p := fun z1 z2 => z1 (sx_hr_w (h6 z2))
  refine mh_aload0 (pc := 0) F dX12_q_0 ?_
  refine mh_callVp (pc := 1) (As := []) (st := []) F (by omega) (k_nameHere (by omega) hF r82 r81 hb hs hp hu) wv_RX12_212_yX12_nameHere dX12_q_1 sh_81 rfl (by decide) rfl rfl (Nat.le_of_ble_eq_true rfl) ⟨Nat.zero_le _, Nat.zero_le _⟩ ?_
  refine mh_istore1 (pc := 4) F dX12_q_4 rfl (by decide) ?_
  refine mh_aload0 (pc := 5) F dX12_q_5 ?_
  refine mh_callVp (pc := 6) (As := []) (st := []) F (by omega) (k_isDigit (by omega) hF r82 r81 hb hs hp) wv_RX12_202_yX12_isDigit dX12_q_6 sh_81 rfl (by decide) rfl rfl (Nat.le_of_ble_eq_true rfl) ⟨Nat.zero_le _, Nat.zero_le _⟩ ?_
  refine mh_ifb_eq (pc := 9) (tgt := 19) F dX12_q_9 rfl (fun c_9 => ?_) (fun c_9 => ?_)
  · refine mh_iload1 (pc := 19) F dX12_q_19 ?_
    refine mh_if_lt (pc := 20) (tgt := 43) F dX12_q_20 rfl (by omega) (fun c_20 => ?_) (fun c_20 => ?_)
    · refine mh_aload0 (pc := 43) F dX12_q_43 ?_
      refine mh_callVp (pc := 44) (As := []) (st := []) F (by omega) (k_here (by omega) hF r82 r81 hb hs hp) wv_RX12_188_yX12_here dX12_q_44 sh_81 rfl (by decide) rfl rfl (Nat.le_of_ble_eq_true rfl) ⟨Nat.zero_le _, Nat.zero_le _⟩ ?_
      refine mh_bipush (pc := 47) F dX12_q_47 rfl ?_
      refine mh_icmp_ne (pc := 49) (tgt := 80) F dX12_q_49 rfl (by omega) (by omega) (fun c_49 => ?_) (fun c_49 => ?_)
      · refine mh_aload0 (pc := 80) F dX12_q_80 ?_
        refine mh_callVp (pc := 81) (As := []) (st := []) F (by omega) (k_here (by omega) hF r82 r81 hb hs hp) wv_RX12_188_yX12_here dX12_q_81 sh_81 rfl (by decide) rfl rfl (Nat.le_of_ble_eq_true rfl) ⟨Nat.zero_le _, Nat.zero_le _⟩ ?_
        refine mh_bipush (pc := 84) F dX12_q_84 rfl ?_
        refine mh_icmp_ne (pc := 86) (tgt := 135) F dX12_q_86 rfl (by omega) (by omega) (fun c_86 => ?_) (fun c_86 => ?_)
        · refine mh_aload0 (pc := 135) F dX12_q_135 ?_
          refine mh_iconst (pc := 136) F dX12_q_136 ?_
          refine mh_putz (pc := 137) F sh_81 (by decide) pw_RX12_184_12 dX12_q_137 (by omega) ?_
          refine mh_nmh (fun h1 e1 => ?_)
          have F1 : mh_FX h1 := by rw [e1]; exact hF.upz rfl
          have r82_1 : h1 82 = s := by rw [e1, mh_up_row (by decide)]; exact r82
          have r81_1 : h1 81 = mh_ur o 13 1 := by rw [e1, mh_up_rs, r81]
          have r88_1 : h1 88 = fr := by rw [e1, mh_up_row (by decide)]; exact r88
          have fr1 : mh_fr [81] h h1 := mh_fr.up mh_fr.rf e1
          have hs := hs.pw
          have hfo := hfo.up (i := 13) (v := 1) (by decide)
          exact mh_return F Z dX12_q_140 ⟨rfl, F1, (fr1.mono (by simp)), (by rw [r81_1, r88_1]; exact (hs.eq (sx_Q_oth _ (by omega) (by omega) (by omega) (by omega)) rfl)), (by rw [r81_1]; exact hfo)⟩
        · refine mh_aload0 (pc := 89) F dX12_q_89 ?_
          have hq4 := hzz (by omega)
          obtain ⟨zop, zo⟩ := sx_o0_ok (x := x) hp hq4.1
          have hx5 : x ≤ 5 := by have := h6q (by omega); omega
          refine mh_callV0 (pc := 90) (As := []) (st := []) F (by omega) (k_opens (by omega) hF r82 r81 r88 hb hs hp (by omega)) wv_RX12_218_yX12_opens dX12_q_90 sh_81 rfl (by decide) rfl rfl (Nat.le_of_ble_eq_true rfl) ⟨Nat.zero_le _, Nat.zero_le _⟩ (fun r2 h2 q2 => ?_)
          obtain ⟨rfl, F2, fr2, hs, hfk⟩ := q2
          obtain ⟨o2, eo2⟩ : ∃ z : Int → Int, z = h2 81 := ⟨_, rfl⟩
          obtain ⟨f2, ef2⟩ : ∃ z : Int → Int, z = h2 88 := ⟨_, rfl⟩
          rw [← eo2, ← ef2] at hs
          rw [← eo2] at hfk
          have r82_3 : h2 82 = s := (fr2 _ (by decide)).trans r82
          have fr3 : mh_fr [81, 88] h h2 := (mh_fr.tr mh_fr.rf fr2).mono (by simp)
          have hfo := hfo.tr hfk
          obtain ⟨p2, ep2⟩ : ∃ z : sx_S, z = sx_o0 p x := ⟨_, rfl⟩
          have hpn : sx_pv s (sx_o0 p x) := zop
          rw [← ep2] at hs
          have hp : sx_pv s p2 := by rw [ep2]; exact hpn
          obtain ⟨hrr, hzz⟩ := sx_hr_z hb hp
          obtain ⟨hp1, hp2, hp3⟩ := sx_pv_x hp
          obtain ⟨hs1, hs2, hs3, hs4, hs5, hs6⟩ := id hs
          have hq6 := h6
          have h6 : sx_w6 (x + 1) p2 := by rw [ep2]; exact zo
          have hpo : sx_pox x p p2 := ⟨fun z => by rw [ep2]; exact if_pos z, fun z => by rw [ep2]; exact (if_neg (by omega)).trans (if_pos hq4.2)⟩
          refine mh_aload0 (pc := 93) F dX12_q_93 ?_
          refine mh_callV0 (pc := 94) (As := []) (st := []) F (by omega) (HT (by omega) _ _ _ _ F2 r82_3 eo2.symm ef2.symm hs hp h6) wv_RX12_224_yX12_t dX12_q_94 sh_81 rfl (by decide) rfl rfl (Nat.le_of_ble_eq_true rfl) ⟨Nat.zero_le _, Nat.zero_le _⟩ (fun r4 h4 q4 => ?_)
          obtain ⟨rfl, F4, fr4, hs, hfk⟩ := q4
          obtain ⟨o4, eo4⟩ : ∃ z : Int → Int, z = h4 81 := ⟨_, rfl⟩
          obtain ⟨f4, ef4⟩ : ∃ z : Int → Int, z = h4 88 := ⟨_, rfl⟩
          rw [← eo4, ← ef4] at hs
          rw [← eo4] at hfk
          have r82_5 : h4 82 = s := (fr4 _ (by decide)).trans r82_3
          have fr5 : mh_fr [81, 88] h h4 := (mh_fr.tr fr3 fr4).mono (by simp)
          have hfo := hfo.tr hfk
          obtain ⟨p4, ep4⟩ : ∃ z : sx_S, z = sx_T s (sx_Q s u (5 - (x + 1)).toNat) p2 := ⟨_, rfl⟩
          have hpn := (sx_T_gd hb (sx_Q_gd (u := u) hb (5 - (x + 1)).toNat) p2 hp).1
          have hwst : sx_wst p2 (sx_T s (sx_Q s u (5 - (x + 1)).toNat) p2) := (sx_T_gd hb (sx_Q_gd (u := u) hb (5 - (x + 1)).toNat) p2 hp).2.2.2.1
          have h6 : sx_w6 (x + 1) p4 := fun z => by rw [ep4, (sx_T_gd hb (sx_Q_gd (u := u) hb (5 - (x + 1)).toNat) p2 hp).2.2.2.1 (h6 z)]; exact h6 z
          rw [← ep4] at hs
          have hp : sx_pv s p4 := by rw [ep4]; exact hpn
          obtain ⟨hrr, hzz⟩ := sx_hr_z hb hp
          obtain ⟨hp1, hp2, hp3⟩ := sx_pv_x hp
          obtain ⟨hs1, hs2, hs3, hs4, hs5, hs6⟩ := id hs
          have hq6 := h6
          refine mh_aload0 (pc := 97) F dX12_q_97 ?_
          refine mh_aload0 (pc := 98) F dX12_q_98 ?_
          refine mh_getir (pc := 99) F sh_81 (by decide) fw_RX12_184_12 dX12_q_99 rfl eo4.symm ?_
          refine mh_if_ne (pc := 102) (tgt := 114) F dX12_q_102 rfl (by omega) (fun c_102 => ?_) (fun c_102 => ?_)
          · refine mh_iconst (pc := 114) F dX12_q_114 ?_
            refine mh_goto (pc := 115) (tgt := 119) F dX12_q_115 rfl ?_
            refine mh_putz (pc := 119) F sh_81 (by decide) pw_RX12_184_12 dX12_q_119 (by omega) ?_
            refine mh_nmh (fun h6 e6 => ?_)
            have F6 : mh_FX h6 := by rw [e6]; exact F4.upz rfl
            have r82_6 : h6 82 = s := by rw [e6, mh_up_row (by decide)]; exact r82_5
            have r81_6 : h6 81 = mh_ur o4 13 1 := by rw [e6, mh_up_rs, eo4.symm]
            have r88_6 : h6 88 = f4 := by rw [e6, mh_up_row (by decide)]; exact ef4.symm
            have fr6 : mh_fr [81, 88] h h6 := mh_fr.upi fr5 e6 (by simp)
            have hs := hs.pw
            have hfo := hfo.up (i := 13) (v := 1) (by decide)
            refine mh_aload0 (pc := 122) F dX12_q_122 ?_
            refine mh_dup (pc := 123) F dX12_q_123 rfl ?_
            refine mh_getir (pc := 124) F sh_81 (by decide) fw_RX12_209_12 dX12_q_124 rfl r81_6 ?_
            refine mh_iconst (pc := 127) F dX12_q_127 ?_
            refine mh_isub (pc := 128) F dX12_q_128 ?_
            refine mh_puti (pc := 129) F sh_81 (by decide) pw_RX12_209_12 dX12_q_129 ?_
            refine mh_nmh (fun h7 e7 => ?_)
            have F7 : mh_FX h7 := by rw [e7]; exact F6.upz rfl
            have r82_7 : h7 82 = s := by rw [e7, mh_up_row (by decide)]; exact r82_6
            have r81_7 : h7 81 = mh_ur (mh_ur o4 13 1) 11 (((mh_ur o4 13 1) 11) - 1) := by rw [e7, mh_up_rs, r81_6]
            have r88_7 : h7 88 = f4 := by rw [e7, mh_up_row (by decide)]; exact r88_6
            have fr7 : mh_fr [81, 88] h h7 := mh_fr.upi fr6 e7 (by simp)
            have hs := (hs.ox (v := ((mh_ur o4 13 1) 11) - 1)).eq rfl (show x = ((mh_ur o4 13 1) 11) - 1 by have q := hs.2.2.2.2.2; omega)
            have hfo := hfo.up (i := 11) (v := ((mh_ur o4 13 1) 11) - 1) (by decide)
            refine mh_goto (pc := 132) (tgt := 140) F dX12_q_132 rfl ?_
            have hfin : sx_Q s u (5 - x).toNat p = sx_pw p4 := by
              rcases (show x = 5 ∨ x < 5 by omega) with z | z
              · have e2 : p4 = p2 := by rw [ep4]; exact hwst (by rw [hpo.1 z]; rfl)
                have hT : p4.2.1 = 1 := by rw [e2, hpo.1 z]; rfl
                first | (exfalso; omega) | (rw [show (5 - x).toNat = 0 by omega, sx_Q_0 (by omega) (by omega), e2, hpo.1 z, sx_pw_w (p := sx_pw p) rfl]; done) | (exfalso; have hw := sx_hr_w (s := s) hT; omega)
              · rw [show (5 - x).toNat = (5 - (x + 1)).toNat + 1 by omega, sx_Q_40 _ (by omega) (by omega), ← hpo.2 z, ← ep4]
                unfold sx_cl
                first | (rw [if_pos (by omega)]; done) | (rw [if_neg (by omega)]; done) | (rw [if_neg (by rw [sx_hr_w (by omega)]; decide)]; done)
            exact mh_return F Z dX12_q_140 ⟨rfl, F7, (fr7.mono (by simp)), (by rw [r81_7, r88_7]; exact (hs.eq hfin rfl)), (by rw [r81_7]; exact hfo)⟩
          · refine mh_aload0 (pc := 105) F dX12_q_105 ?_
            refine mh_bipush (pc := 106) F dX12_q_106 rfl ?_
            refine mh_callV0 (pc := 108) (As := [.int (Int32.ofInt (41))]) (st := [.ref 81]) F (by omega) (k_takesX (by omega) F4 r82_5 eo4.symm ef4.symm hb hs hp (by omega)) wv_RX12_227_yX12_takes_ dX12_q_108 sh_81 rfl (by decide) rfl rfl (Nat.le_of_ble_eq_true rfl) ⟨Nat.zero_le _, Nat.zero_le _⟩ (fun r8 h8 q8 => ?_)
            obtain ⟨rfl, F8, fr8, hs, hfk⟩ := q8
            obtain ⟨o8, eo8⟩ : ∃ z : Int → Int, z = h8 81 := ⟨_, rfl⟩
            rw [← eo8] at hs
            rw [← eo8] at hfk
            have r82_9 : h8 82 = s := (fr8 _ (by decide)).trans r82_5
            have r88_9 : h8 88 = f4 := (fr8 _ (by decide)).trans ef4.symm
            have fr9 : mh_fr [81, 88] h h8 := (mh_fr.tr fr5 fr8).mono (by simp)
            have hfo := hfo.tr hfk
            by_cases ht8 : sx_hr s p4 = 41
            · refine mh_top (y := 1) (mh_eqI (mh_B1 ht8)) ?_
              rw [if_pos ht8] at hs
              have hq4 := hzz (by omega)
              have hpq := hp
              have hp : sx_pv s (sx_pa p4) := sx_pa_pv hq4.1 hp
              have hx6 : ¬ (x + 1) = 6 := fun z => absurd (h6 z) (by omega)
              have h6 : sx_w6 (x + 1) (sx_pa p4) := fun z => absurd z hx6
              refine mh_if_ne (pc := 111) (tgt := 118) F dX12_q_111 rfl (by omega) (fun c_111 => ?_) (fun c_111 => ?_)
              · refine mh_iconst (pc := 118) F dX12_q_118 ?_
                refine mh_putz (pc := 119) F sh_81 (by decide) pw_RX12_184_12 dX12_q_119 (by omega) ?_
                refine mh_nmh (fun h10 e10 => ?_)
                have F10 : mh_FX h10 := by rw [e10]; exact F8.upz rfl
                have r82_10 : h10 82 = s := by rw [e10, mh_up_row (by decide)]; exact r82_9
                have r88_10 : h10 88 = f4 := by rw [e10, mh_up_row (by decide)]; exact r88_9
                have r81_10 : h10 81 = mh_ur o8 13 0 := by rw [e10, mh_up_rs, eo8.symm]
                have fr10 : mh_fr [81, 88] h h10 := mh_fr.upi fr9 e10 (by simp)
                have hs := hs.w0 (v := 0) (by show (0 : Int) = p4.2.1; omega)
                have hfo := hfo.up (i := 13) (v := 0) (by decide)
                refine mh_aload0 (pc := 122) F dX12_q_122 ?_
                refine mh_dup (pc := 123) F dX12_q_123 rfl ?_
                refine mh_getir (pc := 124) F sh_81 (by decide) fw_RX12_209_12 dX12_q_124 rfl r81_10 ?_
                refine mh_iconst (pc := 127) F dX12_q_127 ?_
                refine mh_isub (pc := 128) F dX12_q_128 ?_
                refine mh_puti (pc := 129) F sh_81 (by decide) pw_RX12_209_12 dX12_q_129 ?_
                refine mh_nmh (fun h11 e11 => ?_)
                have F11 : mh_FX h11 := by rw [e11]; exact F10.upz rfl
                have r82_11 : h11 82 = s := by rw [e11, mh_up_row (by decide)]; exact r82_10
                have r88_11 : h11 88 = f4 := by rw [e11, mh_up_row (by decide)]; exact r88_10
                have r81_11 : h11 81 = mh_ur (mh_ur o8 13 0) 11 (((mh_ur o8 13 0) 11) - 1) := by rw [e11, mh_up_rs, r81_10]
                have fr11 : mh_fr [81, 88] h h11 := mh_fr.upi fr10 e11 (by simp)
                have hs := (hs.ox (v := ((mh_ur o8 13 0) 11) - 1)).eq rfl (show x = ((mh_ur o8 13 0) 11) - 1 by have q := hs.2.2.2.2.2; omega)
                have hfo := hfo.up (i := 11) (v := ((mh_ur o8 13 0) 11) - 1) (by decide)
                refine mh_goto (pc := 132) (tgt := 140) F dX12_q_132 rfl ?_
                have hfin : sx_Q s u (5 - x).toNat p = sx_pa p4 := by
                  rcases (show x = 5 ∨ x < 5 by omega) with z | z
                  · have e2 : p4 = p2 := by rw [ep4]; exact hwst (by rw [hpo.1 z]; rfl)
                    have hT : p4.2.1 = 1 := by rw [e2, hpo.1 z]; rfl
                    first | (exfalso; omega) | (rw [show (5 - x).toNat = 0 by omega, sx_Q_0 (by omega) (by omega), e2, hpo.1 z, sx_pw_w (p := sx_pw p) rfl]; done) | (exfalso; have hw := sx_hr_w (s := s) hT; omega)
                  · rw [show (5 - x).toNat = (5 - (x + 1)).toNat + 1 by omega, sx_Q_40 _ (by omega) (by omega), ← hpo.2 z, ← ep4]
                    unfold sx_cl
                    first | (rw [if_pos (by omega)]; done) | (rw [if_neg (by omega)]; done) | (rw [if_neg (by rw [sx_hr_w (by omega)]; decide)]; done)
                exact mh_return F Z dX12_q_140 ⟨rfl, F11, (fr11.mono (by simp)), (by rw [r81_11, r88_11]; exact (hs.eq hfin rfl)), (by rw [r81_11]; exact hfo)⟩
              · exact absurd c_111 (by decide)
            · refine mh_top (y := 0) (mh_eqI (mh_B0 ht8)) ?_
              rw [if_neg ht8] at hs
              refine mh_if_ne (pc := 111) (tgt := 118) F dX12_q_111 rfl (by omega) (fun c_111 => ?_) (fun c_111 => ?_)
              · exact absurd c_111 (by decide)
              · refine mh_iconst (pc := 114) F dX12_q_114 ?_
                refine mh_goto (pc := 115) (tgt := 119) F dX12_q_115 rfl ?_
                refine mh_putz (pc := 119) F sh_81 (by decide) pw_RX12_184_12 dX12_q_119 (by omega) ?_
                refine mh_nmh (fun h12 e12 => ?_)
                have F12 : mh_FX h12 := by rw [e12]; exact F8.upz rfl
                have r82_12 : h12 82 = s := by rw [e12, mh_up_row (by decide)]; exact r82_9
                have r88_12 : h12 88 = f4 := by rw [e12, mh_up_row (by decide)]; exact r88_9
                have r81_12 : h12 81 = mh_ur o8 13 1 := by rw [e12, mh_up_rs, eo8.symm]
                have fr12 : mh_fr [81, 88] h h12 := mh_fr.upi fr9 e12 (by simp)
                have hs := hs.pw
                have hfo := hfo.up (i := 13) (v := 1) (by decide)
                refine mh_aload0 (pc := 122) F dX12_q_122 ?_
                refine mh_dup (pc := 123) F dX12_q_123 rfl ?_
                refine mh_getir (pc := 124) F sh_81 (by decide) fw_RX12_209_12 dX12_q_124 rfl r81_12 ?_
                refine mh_iconst (pc := 127) F dX12_q_127 ?_
                refine mh_isub (pc := 128) F dX12_q_128 ?_
                refine mh_puti (pc := 129) F sh_81 (by decide) pw_RX12_209_12 dX12_q_129 ?_
                refine mh_nmh (fun h13 e13 => ?_)
                have F13 : mh_FX h13 := by rw [e13]; exact F12.upz rfl
                have r82_13 : h13 82 = s := by rw [e13, mh_up_row (by decide)]; exact r82_12
                have r88_13 : h13 88 = f4 := by rw [e13, mh_up_row (by decide)]; exact r88_12
                have r81_13 : h13 81 = mh_ur (mh_ur o8 13 1) 11 (((mh_ur o8 13 1) 11) - 1) := by rw [e13, mh_up_rs, r81_12]
                have fr13 : mh_fr [81, 88] h h13 := mh_fr.upi fr12 e13 (by simp)
                have hs := (hs.ox (v := ((mh_ur o8 13 1) 11) - 1)).eq rfl (show x = ((mh_ur o8 13 1) 11) - 1 by have q := hs.2.2.2.2.2; omega)
                have hfo := hfo.up (i := 11) (v := ((mh_ur o8 13 1) 11) - 1) (by decide)
                refine mh_goto (pc := 132) (tgt := 140) F dX12_q_132 rfl ?_
                have hfin : sx_Q s u (5 - x).toNat p = sx_pw p4 := by
                  rcases (show x = 5 ∨ x < 5 by omega) with z | z
                  · have e2 : p4 = p2 := by rw [ep4]; exact hwst (by rw [hpo.1 z]; rfl)
                    have hT : p4.2.1 = 1 := by rw [e2, hpo.1 z]; rfl
                    first | (exfalso; omega) | (rw [show (5 - x).toNat = 0 by omega, sx_Q_0 (by omega) (by omega), e2, hpo.1 z, sx_pw_w (p := sx_pw p) rfl]; done) | (exfalso; have hw := sx_hr_w (s := s) hT; omega)
                  · rw [show (5 - x).toNat = (5 - (x + 1)).toNat + 1 by omega, sx_Q_40 _ (by omega) (by omega), ← hpo.2 z, ← ep4]
                    unfold sx_cl
                    first | (rw [if_pos (by omega)]; done) | (rw [if_neg (by omega)]; done) | (rw [if_neg (by rw [sx_hr_w (by omega)]; decide)]; done)
                exact mh_return F Z dX12_q_140 ⟨rfl, F13, (fr13.mono (by simp)), (by rw [r81_13, r88_13]; exact (hs.eq hfin rfl)), (by rw [r81_13]; exact hfo)⟩
      · refine mh_aload0 (pc := 52) F dX12_q_52 ?_
        have hq4 := hzz (by omega)
        obtain ⟨zop, zo⟩ := sx_o0_ok (x := x) hp hq4.1
        have hx5 : x ≤ 5 := by have := h6q (by omega); omega
        refine mh_callV0 (pc := 53) (As := []) (st := []) F (by omega) (k_opens (by omega) hF r82 r81 r88 hb hs hp (by omega)) wv_RX12_218_yX12_opens dX12_q_53 sh_81 rfl (by decide) rfl rfl (Nat.le_of_ble_eq_true rfl) ⟨Nat.zero_le _, Nat.zero_le _⟩ (fun r14 h14 q14 => ?_)
        obtain ⟨rfl, F14, fr14, hs, hfk⟩ := q14
        obtain ⟨o14, eo14⟩ : ∃ z : Int → Int, z = h14 81 := ⟨_, rfl⟩
        obtain ⟨f14, ef14⟩ : ∃ z : Int → Int, z = h14 88 := ⟨_, rfl⟩
        rw [← eo14, ← ef14] at hs
        rw [← eo14] at hfk
        have r82_15 : h14 82 = s := (fr14 _ (by decide)).trans r82
        have fr15 : mh_fr [81, 88] h h14 := (mh_fr.tr mh_fr.rf fr14).mono (by simp)
        have hfo := hfo.tr hfk
        obtain ⟨p14, ep14⟩ : ∃ z : sx_S, z = sx_o0 p x := ⟨_, rfl⟩
        have hpn : sx_pv s (sx_o0 p x) := zop
        rw [← ep14] at hs
        have hp : sx_pv s p14 := by rw [ep14]; exact hpn
        obtain ⟨hrr, hzz⟩ := sx_hr_z hb hp
        obtain ⟨hp1, hp2, hp3⟩ := sx_pv_x hp
        obtain ⟨hs1, hs2, hs3, hs4, hs5, hs6⟩ := id hs
        have hq6 := h6
        have h6 : sx_w6 (x + 1) p14 := by rw [ep14]; exact zo
        have hpo : sx_pox x p p14 := ⟨fun z => by rw [ep14]; exact if_pos z, fun z => by rw [ep14]; exact (if_neg (by omega)).trans (if_pos hq4.2)⟩
        refine mh_aload0 (pc := 56) F dX12_q_56 ?_
        refine mh_callV0 (pc := 57) (As := []) (st := []) F (by omega) (HQ (by omega) _ _ _ _ F14 r82_15 eo14.symm ef14.symm hs hp h6) wv_RX12_221_yX12_q dX12_q_57 sh_81 rfl (by decide) rfl rfl (Nat.le_of_ble_eq_true rfl) ⟨Nat.zero_le _, Nat.zero_le _⟩ (fun r16 h16 q16 => ?_)
        obtain ⟨rfl, F16, fr16, hs, hfk⟩ := q16
        obtain ⟨o16, eo16⟩ : ∃ z : Int → Int, z = h16 81 := ⟨_, rfl⟩
        obtain ⟨f16, ef16⟩ : ∃ z : Int → Int, z = h16 88 := ⟨_, rfl⟩
        rw [← eo16, ← ef16] at hs
        rw [← eo16] at hfk
        have r82_17 : h16 82 = s := (fr16 _ (by decide)).trans r82_15
        have fr17 : mh_fr [81, 88] h h16 := (mh_fr.tr fr15 fr16).mono (by simp)
        have hfo := hfo.tr hfk
        obtain ⟨p16, ep16⟩ : ∃ z : sx_S, z = sx_Q s u (5 - (x + 1)).toNat p14 := ⟨_, rfl⟩
        have hpn := (sx_Q_gd (u := u) hb (5 - (x + 1)).toNat p14 hp).1
        have hwst : sx_wst p14 (sx_Q s u (5 - (x + 1)).toNat p14) := (sx_Q_gd (u := u) hb (5 - (x + 1)).toNat p14 hp).2.2.2.1
        have h6 : sx_w6 (x + 1) p16 := fun z => by rw [ep16, (sx_Q_gd (u := u) hb (5 - (x + 1)).toNat p14 hp).2.2.2.1 (h6 z)]; exact h6 z
        rw [← ep16] at hs
        have hp : sx_pv s p16 := by rw [ep16]; exact hpn
        obtain ⟨hrr, hzz⟩ := sx_hr_z hb hp
        obtain ⟨hp1, hp2, hp3⟩ := sx_pv_x hp
        obtain ⟨hs1, hs2, hs3, hs4, hs5, hs6⟩ := id hs
        have hq6 := h6
        refine mh_aload0 (pc := 60) F dX12_q_60 ?_
        refine mh_dup (pc := 61) F dX12_q_61 rfl ?_
        refine mh_getir (pc := 62) F sh_81 (by decide) fw_RX12_209_12 dX12_q_62 rfl eo16.symm ?_
        refine mh_iconst (pc := 65) F dX12_q_65 ?_
        refine mh_isub (pc := 66) F dX12_q_66 ?_
        refine mh_puti (pc := 67) F sh_81 (by decide) pw_RX12_209_12 dX12_q_67 ?_
        refine mh_nmh (fun h18 e18 => ?_)
        have F18 : mh_FX h18 := by rw [e18]; exact F16.upz rfl
        have r82_18 : h18 82 = s := by rw [e18, mh_up_row (by decide)]; exact r82_17
        have r81_18 : h18 81 = mh_ur o16 11 ((o16 11) - 1) := by rw [e18, mh_up_rs, eo16.symm]
        have r88_18 : h18 88 = f16 := by rw [e18, mh_up_row (by decide)]; exact ef16.symm
        have fr18 : mh_fr [81, 88] h h18 := mh_fr.upi fr17 e18 (by simp)
        have hs := (hs.ox (v := (o16 11) - 1)).eq rfl (show x = (o16 11) - 1 by have q := hs.2.2.2.2.2; omega)
        have hfo := hfo.up (i := 11) (v := (o16 11) - 1) (by decide)
        refine mh_aload0 (pc := 70) F dX12_q_70 ?_
        refine mh_sipush (pc := 71) F dX12_q_71 rfl ?_
        have hfin : sx_Q s u (5 - x).toNat p = sx_pp (-133) p16 := by
          rcases (show x = 5 ∨ x < 5 by have := h6q (by omega); omega) with z | z
          · have e1 := hpo.1 z
            have e2 : p16 = p14 := by rw [ep16]; exact hwst (by rw [e1]; rfl)
            rw [show (5 - x).toNat = 0 by omega, sx_Q_0 (by omega) (by omega), e2, e1, sx_pp_w (p := sx_pw p) rfl]
          · rw [show (5 - x).toNat = (5 - (x + 1)).toNat + 1 by omega, sx_Q_33 _ (by omega) (by omega), ← hpo.2 z, ← ep16]
        have zpv : sx_pv s (sx_pp (-133) p16) := by rw [← hfin]; exact (sx_Q_gd hb _ p hpp).1
        have hpm := sx_pm zpv hb1.2
        refine mh_callV0 (pc := 74) (As := [.int (Int32.ofInt (-133))]) (st := []) F (by omega) (k_puts (by omega) F18 r82_18 r81_18 r88_18 hb hs hp hpm) wv_RX12_206_yX12_puts dX12_q_74 sh_81 rfl (by decide) rfl rfl (Nat.le_of_ble_eq_true rfl) ⟨Nat.zero_le _, Nat.zero_le _⟩ (fun r19 h19 q19 => ?_)
        obtain ⟨rfl, F19, fr19, hs, hfk⟩ := q19
        obtain ⟨o19, eo19⟩ : ∃ z : Int → Int, z = h19 81 := ⟨_, rfl⟩
        obtain ⟨f19, ef19⟩ : ∃ z : Int → Int, z = h19 88 := ⟨_, rfl⟩
        rw [← eo19, ← ef19] at hs
        rw [← eo19] at hfk
        have r82_20 : h19 82 = s := (fr19 _ (by decide)).trans r82_18
        have fr20 : mh_fr [81, 88] h h19 := (mh_fr.tr fr18 fr19).mono (by simp)
        have hfo := hfo.tr hfk
        obtain ⟨p19, ep19⟩ : ∃ z : sx_S, z = sx_pp (-133) p16 := ⟨_, rfl⟩
        have hpn := zpv
        rw [← ep19] at hs
        have hp : sx_pv s p19 := by rw [ep19]; exact hpn
        obtain ⟨hrr, hzz⟩ := sx_hr_z hb hp
        obtain ⟨hp1, hp2, hp3⟩ := sx_pv_x hp
        obtain ⟨hs1, hs2, hs3, hs4, hs5, hs6⟩ := id hs
        have hq6 := h6
        refine mh_goto (pc := 77) (tgt := 140) F dX12_q_77 rfl ?_
        exact mh_return F Z dX12_q_140 ⟨rfl, F19, (fr20.mono (by simp)), (by rw [eo19.symm, ef19.symm]; exact (hs.eq (by rw [hfin, ← ep19]) rfl)), (by rw [eo19.symm]; exact hfo)⟩
    · refine mh_aload0 (pc := 23) F dX12_q_23 ?_
      refine mh_dup (pc := 24) F dX12_q_24 rfl ?_
      refine mh_getir (pc := 25) F sh_81 (by decide) fw_RX12_180_12 dX12_q_25 rfl r81 ?_
      refine mh_iconst (pc := 28) F dX12_q_28 ?_
      refine mh_iadd (pc := 29) F dX12_q_29 ?_
      refine mh_puti (pc := 30) F sh_81 (by decide) pw_RX12_180_12 dX12_q_30 ?_
      refine mh_nmh (fun h21 e21 => ?_)
      have F21 : mh_FX h21 := by rw [e21]; exact hF.upz rfl
      have r82_21 : h21 82 = s := by rw [e21, mh_up_row (by decide)]; exact r82
      have r81_21 : h21 81 = mh_ur o 10 ((o 10) + 1) := by rw [e21, mh_up_rs, r81]
      have r88_21 : h21 88 = fr := by rw [e21, mh_up_row (by decide)]; exact r88
      have fr21 : mh_fr [81] h h21 := mh_fr.up mh_fr.rf e21
      have hq4 := hzz (by omega)
      have hpq := hp
      have hs := hs.pa rfl
      have hfo := hfo.up (i := 10) (v := (o 10) + 1) (by decide)
      have hp : sx_pv s (sx_pa p) := sx_pa_pv hq4.1 hp
      have hx6 : ¬ x = 6 := fun z => absurd (h6 z) (by omega)
      have h6 : sx_w6 x (sx_pa p) := fun z => absurd z hx6
      have zpv := (sx_nm_gr hb hpp (u := u) (by omega)).1
      have hpm := sx_pm zpv hb1.2
      refine mh_aload0 (pc := 33) F dX12_q_33 ?_
      refine mh_iconst (pc := 34) F dX12_q_34 ?_
      refine mh_iload1 (pc := 35) F dX12_q_35 ?_
      refine mh_isub (pc := 36) F dX12_q_36 ?_
      refine mh_callV0 (pc := 37) (As := [.int (Int32.ofInt ((-1) - (sx_nm u (sx_hr s p))))]) (st := []) F (by omega) (k_puts (by omega) F21 r82_21 r81_21 r88_21 hb hs hp hpm) wv_RX12_206_yX12_puts dX12_q_37 sh_81 rfl (by decide) rfl rfl (Nat.le_of_ble_eq_true rfl) ⟨Nat.zero_le _, Nat.zero_le _⟩ (fun r22 h22 q22 => ?_)
      obtain ⟨rfl, F22, fr22, hs, hfk⟩ := q22
      obtain ⟨o22, eo22⟩ : ∃ z : Int → Int, z = h22 81 := ⟨_, rfl⟩
      obtain ⟨f22, ef22⟩ : ∃ z : Int → Int, z = h22 88 := ⟨_, rfl⟩
      rw [← eo22, ← ef22] at hs
      rw [← eo22] at hfk
      have r82_23 : h22 82 = s := (fr22 _ (by decide)).trans r82_21
      have fr23 : mh_fr [88, 81] h h22 := (mh_fr.tr fr21 fr22).mono (by simp)
      have hfo := hfo.tr hfk
      obtain ⟨p22, ep22⟩ : ∃ z : sx_S, z = sx_pp ((-1) - (sx_nm u (sx_hr s p))) (sx_pa p) := ⟨_, rfl⟩
      have hpn := zpv
      rw [← ep22] at hs
      have hp : sx_pv s p22 := by rw [ep22]; exact hpn
      obtain ⟨hrr, hzz⟩ := sx_hr_z hb hp
      obtain ⟨hp1, hp2, hp3⟩ := sx_pv_x hp
      obtain ⟨hs1, hs2, hs3, hs4, hs5, hs6⟩ := id hs
      have hq6 := h6
      refine mh_goto (pc := 40) (tgt := 140) F dX12_q_40 rfl ?_
      exact mh_return F Z dX12_q_140 ⟨rfl, F22, (fr23.mono (by simp)), (by rw [eo22.symm, ef22.symm]; exact (hs.eq (by first | (rw [sx_Q_dig _ (by omega), ← ep22]; done) | (rw [sx_Q_nam _ (by omega) (by omega), ← ep22]; done)) rfl)), (by rw [eo22.symm]; exact hfo)⟩
  · refine mh_aload0 (pc := 12) F dX12_q_12 ?_
    refine mh_callV0 (pc := 13) (As := []) (st := []) F (by omega) (k_numberRead (by omega) hF r82 r81 r88 hb hs hp h6 (by omega)) wv_RX12_215_yX12_numberRead dX12_q_13 sh_81 rfl (by decide) rfl rfl (Nat.le_of_ble_eq_true rfl) ⟨Nat.zero_le _, Nat.zero_le _⟩ (fun r24 h24 q24 => ?_)
    obtain ⟨rfl, F24, fr24, hs, hfk⟩ := q24
    obtain ⟨o24, eo24⟩ : ∃ z : Int → Int, z = h24 81 := ⟨_, rfl⟩
    obtain ⟨f24, ef24⟩ : ∃ z : Int → Int, z = h24 88 := ⟨_, rfl⟩
    rw [← eo24, ← ef24] at hs
    rw [← eo24] at hfk
    have r82_25 : h24 82 = s := (fr24 _ (by decide)).trans r82
    have fr25 : mh_fr [81, 88] h h24 := (mh_fr.tr mh_fr.rf fr24).mono (by simp)
    have hfo := hfo.tr hfk
    obtain ⟨p24, ep24⟩ : ∃ z : sx_S, z = sx_nu s p := ⟨_, rfl⟩
    have hpn := (sx_nu_gr hb hp (by omega)).1
    rw [← ep24] at hs
    have hp : sx_pv s p24 := by rw [ep24]; exact hpn
    obtain ⟨hrr, hzz⟩ := sx_hr_z hb hp
    obtain ⟨hp1, hp2, hp3⟩ := sx_pv_x hp
    obtain ⟨hs1, hs2, hs3, hs4, hs5, hs6⟩ := id hs
    have hq6 := h6
    refine mh_goto (pc := 16) (tgt := 140) F dX12_q_16 rfl ?_
    exact mh_return F Z dX12_q_140 ⟨rfl, F24, (fr25.mono (by simp)), (by rw [eo24.symm, ef24.symm]; exact (hs.eq (by first | (rw [sx_Q_dig _ (by omega), ← ep24]; done) | (rw [sx_Q_nam _ (by omega) (by omega), ← ep24]; done)) rfl)), (by rw [eo24.symm]; exact hfo)⟩

theorem k_tK {g : mh_G} {d : Nat} (hd : 14 ≤ d) {s : Int → Int} {u x : Int} (hb : sx_by s) {G0 : sx_S → sx_S} (hG : sx_gd s G0) (HQ : sx_K g (d - 1 - 1 - 1 - 1 - 1) yX12_q cX12_q 2 s u x G0) : sx_K g d yX12_t cX12_t 1 s u x (sx_T s G0) := by
  have Kp : sx_K g (d - 1 - 1 - 1 - 1) yX12_p cX12_p 2 s u x (sx_P s G0) := fun h o fr p a1 a2 a3 a4 a5 a6 a7 => k_p (by omega) a1 a2 a3 a4 hb a5 a6 a7 hG HQ
  have Ku : sx_K g (d - 1 - 1 - 1) yX12_sum cX12_sum 2 s u x (sx_U s G0) := fun h o fr p a1 a2 a3 a4 a5 a6 a7 => k_sum (by omega) a1 a2 a3 a4 hb a5 a6 a7 hG Kp
  have Kb : sx_K g (d - 1 - 1) yX12_b cX12_b 2 s u x (sx_B s G0) := fun h o fr p a1 a2 a3 a4 a5 a6 a7 => k_b (by omega) a1 a2 a3 a4 hb a5 a6 a7 hG Ku
  have Ka : sx_K g (d - 1) yX12_a cX12_a 1 s u x (sx_A s G0) := fun h o fr p a1 a2 a3 a4 a5 a6 a7 => k_a (by omega) a1 a2 a3 a4 hb a5 a6 a7 hG Kb
  exact fun h o fr p a1 a2 a3 a4 a5 a6 a7 => k_t (by omega) a1 a2 a3 a4 hb a5 a6 a7 hG Ka
theorem k_qK {s : Int → Int} {u : Int} (hb : sx_by s) (hu : 0 ≤ u ∧ u ≤ 1) {g : mh_G} (n : Nat) : ∀ (x : Int) (d : Nat), (6 - x).toNat = n → 0 ≤ x → x ≤ 6 → 7 * n + 14 ≤ d → sx_K g d yX12_q cX12_q 2 s u x (sx_Q s u (5 - x).toNat) := by
  induction n with
  | zero => exact fun x d hn h0 h1 hd h o fr p a1 a2 a3 a4 a5 a6 a7 => k_q (by omega) a1 a2 a3 a4 hb a5 a6 hu ⟨h0, h1⟩ a7 (fun z => by omega) (fun z => by omega)
  | succ n ih =>
    intro x d hn h0 h1 hd h o fr p a1 a2 a3 a4 a5 a6 a7
    exact k_q (by omega) a1 a2 a3 a4 hb a5 a6 hu ⟨h0, h1⟩ a7 (fun z => ih (x + 1) (d - 1) (by omega) (by omega) (by omega) (by omega)) (fun z => k_tK (by omega) hb (sx_Q_gd hb _) (ih (x + 1) (d - 1 - 1 - 1 - 1 - 1 - 1) (by omega) (by omega) (by omega) (by omega)))
theorem k_tT {s : Int → Int} {u : Int} (hb : sx_by s) (hu : 0 ≤ u ∧ u ≤ 1) {g : mh_G} {d : Nat} (hd : 70 ≤ d) : sx_K g d yX12_t cX12_t 1 s u 0 (sx_T s (sx_Q s u 5)) := k_tK (by omega) hb (sx_Q_gd hb _) (k_qK hb hu 6 0 _ rfl (by decide) (by decide) (by omega))
