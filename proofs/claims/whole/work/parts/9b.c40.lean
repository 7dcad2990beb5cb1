/-! a Text reads a tape -/
/-- what the reader has read, from the start -/
def sc_q (s fr : Int → Int) (u : Int) : sx_S := sx_T s (sx_Q s u 5) (0, 0, 0, fr)
theorem sc_q_ok {s fr : Int → Int} {u : Int} (hb : sx_by s) : sx_gr s (0, 0, 0, fr) (sc_q s fr u) := sx_r_ok hb
/-- what comes of it -/
def sc_rp (h : Nat → Int → Int) (t U : Nat) (wr s : Int → Int) (q : sx_S) : Option Value → (Nat → Int → Int) → Prop := fun r h2 => mh_fr [t, t + 1, t + 2] h h2 ∧ (h2 t 0 = ((1000000 + U : Nat) : Int) + 1 ∧ h2 t 1 = wr 1 ∧ h2 t 2 = wr 2 ∧ h2 t 4 = ((t + 2 : Nat) : Int) + 1 ∧ h2 t 6 = wr 6) ∧
  (((q.2.1 = 1 ∨ q.1 < s 4) ∧ r = some (.int (Int32.ofInt q.1)) ∧ h2 (t + 1) = h (t + 1) ∧ h2 t 3 = wr 3) ∨
   (¬ (q.2.1 = 1 ∨ q.1 < s 4) ∧ r = some (.int (Int32.ofInt (-1))) ∧ h2 t 3 = q.2.2.1 ∧ ∀ k, 0 ≤ k → k < q.2.2.1 → sc_de (h2 (t + 1) k) = q.2.2.2 k ∧ sc_c1 (h2 (t + 1) k)))
theorem sc_rp_no {h h3 : Nat → Int → Int} {t tp U : Nat} {wr s : Int → Int} {q : sx_S} {S : List Nat} (hD : sc_RD h3 t tp U wr s q) (hf : mh_fr S h h3) (hS : S = [t, t + 2] ∨ S = [t + 2, t]) (hq : q.2.1 = 1 ∨ q.1 < s 4) : sc_rp h t U wr s q (some (.int (Int32.ofInt (h3 t 9)))) h3 := by
  have hn : t + 1 ∉ S := by rcases hS with z | z <;> subst z <;> simp
  refine ⟨hf.mono (by rcases hS with z | z <;> subst z <;> simp), ⟨hD.2.2.2.2.2.2.1, hD.2.2.2.2.2.2.2.1, hD.2.2.2.2.2.2.2.2.1, hD.2.2.2.2.2.1, hD.2.2.2.2.2.2.2.2.2.2⟩, Or.inl ⟨hq, by rw [hD.1], hf (t + 1) hn, hD.2.2.2.2.2.2.2.2.2.1⟩⟩
theorem sc_rp_ok {h h3 h4 h5 : Nat → Int → Int} {t tp U : Nat} {wr s : Int → Int} {q : sx_S} {S : List Nat} (hb : sx_by s) (hp : sx_pv s q) (hD : sc_RD h3 t tp U wr s q) (hf : mh_fr S h h3) (hS : S = [t, t + 2] ∨ S = [t + 2, t]) (hq : ¬ (q.2.1 = 1 ∨ q.1 < s 4)) (e4 : h4 = mh_cpH h3 (t + 2) (t + 1) 0 0 50) (e5 : h5 = mh_up h4 t 3 (h4 t 5)) : sc_rp h t U wr s q (some (.int (Int32.ofInt (-1)))) h5 := by
  have hS2 : ∀ a ∈ S, a = t ∨ a = t + 2 := by rcases hS with z | z <;> subst z <;> intro a ha <;> simp at ha <;> omega
  obtain ⟨hp1, hp2, hp3⟩ := sx_pv_x hp
  have hq0 : q.2.1 = 0 := by omega
  have hb1 := hb.1
  have r4 : h4 t = h3 t := by rw [e4, mh_cpH_row (by omega)]
  have r5 : h5 t = mh_ur (h3 t) 3 (h3 t 5) := by rw [e5, mh_up_rs, r4]
  have r6 : h5 (t + 1) = mh_cpR (h3 (t + 2)) (h3 (t + 1)) 0 0 50 := by rw [e5, mh_up_row (by omega), e4, mh_cpH_rs]
  obtain ⟨a1, a2, a3, a4, a5, a6, a7, a8, a9, a10, a11⟩ := hD
  obtain ⟨a5, a5b⟩ := a5 hq0
  refine ⟨fun a ha => ?_, ⟨by rw [r5, mh_ur_ne (by decide)]; exact a7, by rw [r5, mh_ur_ne (by decide)]; exact a8, by rw [r5, mh_ur_ne (by decide)]; exact a9, by rw [r5, mh_ur_ne (by decide)]; exact a6, by rw [r5, mh_ur_ne (by decide)]; exact a11⟩, Or.inr ⟨hq, rfl, by rw [r5, mh_ur_eq rfl]; exact a5, fun k k0 k1 => ?_⟩⟩
  · have ha2 : a ≠ t ∧ a ≠ t + 1 ∧ a ≠ t + 2 := by simp at ha; omega
    rw [e5, mh_up_row ha2.1, e4, mh_cpH_row ha2.2.1]
    exact hf a (fun z => by rcases hS2 a z with y | y <;> omega)
  · have e : h5 (t + 1) k = h3 (t + 2) k := by
      rw [r6]; unfold mh_cpR
      rw [if_pos (by omega), show (0 : Int) + (k - 0) = k by omega]
    rw [e]; exact a5b k k0 k1
set_option maxRecDepth 100000 in
set_option maxHeartbeats 2000000 in
theorem k40_read {g : mh_G} {d : Nat} (hd : 72 ≤ d) {h : Nat → Int → Int} {n t tp L U : Nat} {s fr : Int → Int}  {wr : Int → Int} (rt : h t = wr) (hq : sc_tq n t tp L s) (hq1 : mh_sh (t + 1) = .inr (0, 50) ∧ t + 1 < n) (hw2 : wr 2 = ((t + 1 : Nat) : Int) + 1) (hw4 : wr 4 = ((t + 2 : Nat) : Int) + 1) (hw0 : wr 0 = ((1000000 + U : Nat) : Int) + 1) (hT : sc_TP h tp s) (hb : sx_by s) (hU : U = 0 ∨ U = 1) : mh_M g d yX9_read cX9_read 3 (some .int) n 0 0 [.ref t, .ref tp, .int (Int32.ofInt (s 4))] h (sc_rp h t U wr s (sc_q s fr (U : Int))) := by
  refine mh_M_of RX9 rfl (by decide +kernel) [some (.ref t), some (.ref tp), some (.int (Int32.ofInt (s 4)))] rfl (Nat.le_of_ble_eq_true rfl) (fun f F Z hn0 hR => ?_)
  obtain ⟨q1, q2, q3, q4, q5, q6, q7, zNE, q9⟩ := id hq
  have hT4 := hT.1
  have hL40 := (mh_sh_len q3).1
  refine mh_aload0 (pc := 0) F dX9_read_0 ?_
  refine mh_aload1 (pc := 1) F dX9_read_1 ?_
  refine mh_putr (pc := 2) F hq.1 hq.2.2.2.1 pw_RX9_51_9 dX9_read_2 rfl ?_
  refine mh_nmh (fun h1 e1 => ?_)
  have rt_1 : h1 t = mh_ur wr 7 (((tp : Nat) : Int) + 1) := by rw [e1, mh_up_rs, rt]
  have fr1 : mh_fr [t] h h1 := mh_fr.up mh_fr.rf e1
  refine mh_aload0 (pc := 5) F dX9_read_5 ?_
  refine mh_iconst (pc := 6) F dX9_read_6 ?_
  refine mh_iload2 (pc := 7) F dX9_read_7 ?_
  refine mh_aload1 (pc := 8) F dX9_read_8 ?_
  refine mh_alen (pc := 9) F hq.2.2.1 hq.2.2.2.2.2.1 dX9_read_9 ?_
  refine mh_callSp (pc := 10) (As := [.int (Int32.ofInt (s 4)), .int (Int32.ofInt (((L : Nat) : Int)))]) (st := [.int (Int32.ofInt (0)), .ref t]) F (by omega) (ks_min (a := s 4) (b := ((L : Nat) : Int)) (by omega) (by omega) (by omega)) ws_RX9_55 dX9_read_10 rfl rfl (Nat.le_of_ble_eq_true rfl) ⟨Nat.zero_le _, Nat.zero_le _⟩ ?_
  refine mh_top (y := s 4) (mh_eqI (if_pos (by omega))) ?_
  refine mh_callSp (pc := 13) (As := [.int (Int32.ofInt (0)), .int (Int32.ofInt (s 4))]) (st := [.ref t]) F (by omega) (ks_max (a := 0) (b := s 4) (by omega) (by omega) (by omega)) ws_RX9_61 dX9_read_13 rfl rfl (Nat.le_of_ble_eq_true rfl) ⟨Nat.zero_le _, Nat.zero_le _⟩ ?_
  refine mh_top (y := s 4) (mh_eqI (by split <;> omega)) ?_
  refine mh_puti (pc := 16) F hq.1 hq.2.2.2.1 pw_RX9_64_9 dX9_read_16 ?_
  refine mh_nmh (fun h2 e2 => ?_)
  have rt_2 : h2 t = mh_ur (mh_ur wr 7 (((tp : Nat) : Int) + 1)) 8 (s 4) := by rw [e2, mh_up_rs, rt_1]
  have fr2 : mh_fr [t] h h2 := mh_fr.upi fr1 e2 (by simp)
  refine mh_aload0 (pc := 19) F dX9_read_19 ?_
  refine mh_iconst (pc := 20) F dX9_read_20 ?_
  refine mh_puti (pc := 21) F hq.1 hq.2.2.2.1 pw_RX9_67_9 dX9_read_21 ?_
  refine mh_nmh (fun h3 e3 => ?_)
  have rt_3 : h3 t = mh_ur (mh_ur (mh_ur wr 7 (((tp : Nat) : Int) + 1)) 8 (s 4)) 9 0 := by rw [e3, mh_up_rs, rt_2]
  have fr3 : mh_fr [t] h h3 := mh_fr.upi fr2 e3 (by simp)
  refine mh_aload0 (pc := 24) F dX9_read_24 ?_
  refine mh_iconst (pc := 25) F dX9_read_25 ?_
  refine mh_puti (pc := 26) F hq.1 hq.2.2.2.1 pw_RX9_70_9 dX9_read_26 ?_
  refine mh_nmh (fun h4 e4 => ?_)
  have rt_4 : h4 t = mh_ur (mh_ur (mh_ur (mh_ur wr 7 (((tp : Nat) : Int) + 1)) 8 (s 4)) 9 0) 5 0 := by rw [e4, mh_up_rs, rt_3]
  have fr4 : mh_fr [t] h h4 := mh_fr.upi fr3 e4 (by simp)
  have hD0 : sc_RD h4 t tp U wr s (0, 0, 0, fr) := by
    unfold sc_RD
    rw [rt_4]
    refine ⟨?_, ?_, ?_, ?_, fun _ => ⟨?_, fun k k0 k1 => absurd (show k < 0 from k1) (by omega)⟩, ?_, ?_, ?_, ?_, ?_, ?_⟩ <;> simp [mh_ur, hw0, hw4]
  have hp0 : sx_pv s (0, 0, 0, fr) := ⟨⟨Int.le_refl _, hb.1.1⟩, ⟨Int.le_refl _, Int.le_refl _⟩, Or.inl rfl⟩
  have hw00 : ((0, 0, 0, fr) : sx_S).2.1 = 0 := rfl
  refine mh_aload0 (pc := 29) F dX9_read_29 ?_
  refine mh_iconst (pc := 30) F dX9_read_30 ?_
  refine mh_callV0 (pc := 31) (As := [.int (Int32.ofInt (0))]) (st := []) F (by omega) (k39_anyT (by omega) hq hb hU _ _ hD0 (hT.fr ((mh_fr.mono (S' := [t, t + 2]) fr4 (by simp)) tp zNE)) hp0 hw00) wv_RX9_73_yX9_readAny dX9_read_31 hq.1 rfl hq.2.2.2.1 rfl rfl (Nat.le_of_ble_eq_true rfl) ⟨Nat.zero_le _, Nat.zero_le _⟩ (fun r5 h5 q5 => ?_)
  obtain ⟨rfl, frc5, hDc5⟩ := q5
  obtain ⟨p5, ep5⟩ : ∃ z : sx_S, z = (sx_T s (sx_Q s (U : Int) 5)) (0, 0, 0, fr) := ⟨_, rfl⟩
  have hpg5 := (sx_T_gd hb (sx_Q_gd (u := (U : Int)) hb 5)) (0, 0, 0, fr) hp0
  rw [← ep5] at hDc5 hpg5
  rw [← ep5]
  have fr6 : mh_fr [t + 2, t] h h5 := (mh_fr.tr fr4 frc5).mono (by simp)
  have hpv5 : sx_pv s p5 := hpg5.1
  have hsl5 := hpg5.2.1
  have hgo5 := hpg5.2.2.1
  obtain ⟨hp15, hp25, hp35⟩ := sx_pv_x hpv5
  have hrr5 := (sx_hr_z hb hpv5).1
  have hh5 := sx_hh hb hpv5
  have R9 := hDc5.1
  have R8 := hDc5.2.2.1
  refine mh_if_eq (pc := 34) (tgt := 48) F dX9_read_34 rfl (by omega) (fun c_34 => ?_) (fun c_34 => ?_)
  · refine mh_aload0 (pc := 48) F dX9_read_48 ?_
    refine mh_geti (pc := 49) F hq.1 hq.2.2.2.1 fw_RX9_67_9 dX9_read_49 rfl ?_
    exact mh_ireturn F Z dX9_read_52 (by show sc_rp h t U wr s (sx_T s (sx_Q s (U : Int) 5) (0, 0, 0, fr)) _ _; rw [← ep5]; exact sc_rp_no hDc5 fr6 (by first | exact Or.inl rfl | exact Or.inr rfl) (by omega))
  · refine mh_aload0 (pc := 37) F dX9_read_37 ?_
    refine mh_geti (pc := 38) F hq.1 hq.2.2.2.1 fw_RX9_67_9 dX9_read_38 rfl ?_
    refine mh_aload0 (pc := 41) F dX9_read_41 ?_
    refine mh_geti (pc := 42) F hq.1 hq.2.2.2.1 fw_RX9_64_9 dX9_read_42 rfl ?_
    refine mh_icmp_ge (pc := 45) (tgt := 53) F dX9_read_45 rfl (by omega) (by omega) (fun c_45 => ?_) (fun c_45 => ?_)
    · refine mh_aload0 (pc := 53) F dX9_read_53 ?_
      refine mh_getr (b := t + 2) (pc := 54) F hq.1 hq.2.2.2.1 fw_RX9_15_9 dX9_read_54 rfl hDc5.2.2.2.2.2.1 ?_
      refine mh_iconst (pc := 57) F dX9_read_57 ?_
      refine mh_aload0 (pc := 58) F dX9_read_58 ?_
      refine mh_getr (b := t + 1) (pc := 59) F hq.1 hq.2.2.2.1 fw_RX9_9_9 dX9_read_59 rfl (hDc5.2.2.2.2.2.2.2.2.1.trans hw2) ?_
      refine mh_iconst (pc := 62) F dX9_read_62 ?_
      refine mh_bipush (pc := 63) F dX9_read_63 rfl ?_
      refine mh_copy (pc := 65) F (by omega) hq.2.1 hq1.1 hq.2.2.2.2.1 hq1.2 (by decide) cw_RX9 cw_nat cw_stat cw_ini (by omega) (by omega) (by omega) (by omega) (by omega) (fun _ _ _ => rfl) dX9_read_65 (Nat.le_of_ble_eq_true rfl) ?_
      refine mh_nmh (fun h7 e7 => ?_)
      have frc7 : mh_fr [t + 1] h5 h7 := mh_fr.cp e7
      have fr8 : mh_fr [t + 1, t + 2, t] h h7 := (mh_fr.tr fr6 frc7).mono (by simp)
      refine mh_aload0 (pc := 68) F dX9_read_68 ?_
      refine mh_aload0 (pc := 69) F dX9_read_69 ?_
      refine mh_geti (pc := 70) F hq.1 hq.2.2.2.1 fw_RX9_70_9 dX9_read_70 rfl ?_
      refine mh_puti (pc := 73) F hq.1 hq.2.2.2.1 pw_RX9_49_9 dX9_read_73 ?_
      refine mh_nmh (fun h9 e9 => ?_)
      have fr9 : mh_fr [t + 1, t + 2, t] h h9 := mh_fr.upi fr8 e9 (by simp)
      refine mh_iconst (pc := 76) F dX9_read_76 ?_
      exact mh_ireturn F Z dX9_read_77 (by show sc_rp h t U wr s (sx_T s (sx_Q s (U : Int) 5) (0, 0, 0, fr)) _ _; rw [← ep5]; exact sc_rp_ok hb hpv5 hDc5 fr6 (by first | exact Or.inl rfl | exact Or.inr rfl) (by omega) e7 e9)
    · refine mh_aload0 (pc := 48) F dX9_read_48 ?_
      refine mh_geti (pc := 49) F hq.1 hq.2.2.2.1 fw_RX9_67_9 dX9_read_49 rfl ?_
      exact mh_ireturn F Z dX9_read_52 (by show sc_rp h t U wr s (sx_T s (sx_Q s (U : Int) 5) (0, 0, 0, fr)) _ _; rw [← ep5]; exact sc_rp_no hDc5 fr6 (by first | exact Or.inl rfl | exact Or.inr rfl) (by omega))

