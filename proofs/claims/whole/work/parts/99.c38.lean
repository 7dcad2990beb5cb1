/-! the class's reader: its levels -/
def sc_rpo (h : Nat → Int → Int) (t tp U : Nat) (wr s : Int → Int) (q : sx_S) : Option Value → (Nat → Int → Int) → Prop := fun r h2 => r = some (.int (Int32.ofInt (1 - q.2.1))) ∧ mh_fr [t, t + 2] h h2 ∧ sc_RD h2 t tp U wr s q
def sc_rK (g : mh_G) (d : Nat) (y : MethodName) (b : ByteArray) (nL : Nat) (n t tp U : Nat) (wr s : Int → Int) (x : Int) (F : sx_S → sx_S) : Prop := ∀ (h : Nat → Int → Int) (p : sx_S), sc_RD h t tp U wr s p → sc_TP h tp s → sx_pv s p → p.2.1 = 0 → mh_M g d y b nL (some .boolean) n 0 0 [.ref t, .int (Int32.ofInt x)] h (sc_rpo h t tp U wr s (F p))
def sc_rO (s : Int → Int) (u : Int) (D : Nat) (p : sx_S) : sx_S := if sx_hr s p = 33 then sx_pp (-133) (sx_Q s u D (sx_pa p)) else sx_cl s (sx_T s (sx_Q s u D) (sx_pa p))
def sc_rKO (g : mh_G) (d : Nat) (n t tp U : Nat) (wr s : Int → Int) (x : Int) (D : Nat) : Prop := ∀ (h : Nat → Int → Int) (p : sx_S), sc_RD h t tp U wr s p → sc_TP h tp s → sx_pv s p → p.2.1 = 0 → (sx_hr s p = 33 ∨ sx_hr s p = 40) → mh_M g d yX9_readOpened cX9_readOpened 4 (some .boolean) n 0 0 [.ref t, .int (Int32.ofInt x)] h (sc_rpo h t tp U wr s (sc_rO s (U : Int) D p))
theorem sx_dg_w {s : Int → Int} (f : Nat) : ∀ (v : Int) (p : sx_S), (sx_dg s f v p).2.2.1 = p.2.1 := by
  induction f with
  | zero => intro v p; rfl
  | succ f ih =>
    intro v p
    unfold sx_dg
    split
    · rw [ih]; rfl
    · rfl
theorem sx_nu_w {s : Int → Int} {p : sx_S} : (sx_nu s p).2.1 = p.2.1 := by unfold sx_nu; rw [sx_pp_e, sx_dg_w]
theorem sx_hh {s : Int → Int} {p : sx_S} (hb : sx_by s) (hp : sx_pv s p) : sx_hr s p = -1 ∨ (p.1 < s 4 ∧ p.2.1 = 0) := Classical.or_iff_not_imp_left.mpr (sx_hr_rg hb hp).2.2
set_option maxRecDepth 100000 in
set_option maxHeartbeats 2000000 in
theorem k38_prod {g : mh_G} {d : Nat} (hd : 6 ≤ d) {h : Nat → Int → Int} {n t tp L U : Nat} {wr s : Int → Int} {p : sx_S} {x : Int} {G : sx_S → sx_S} (hq : sc_tq n t tp L s) (hD : sc_RD h t tp U wr s p) (hT : sc_TP h tp s) (hp : sx_pv s p) (hw : p.2.1 = 0) (hb : sx_by s) (hG : sx_gd s G) (HK : sc_rK g (d - 1) yX9_readSingle cX9_readSingle 3 n t tp U wr s x G) : mh_M g d yX9_readProduct cX9_readProduct 5 (some .boolean) n 0 0 [.ref t, .int (Int32.ofInt (x))] h (sc_rpo h t tp U wr s (sx_lv s G sx_oP p)) := by
  refine mh_M_of RX9 rfl (by decide +kernel) [some (.ref t), some (.int (Int32.ofInt (x))), none, none, none] rfl (Nat.le_of_ble_eq_true rfl) (fun f F Z hn0 hR => ?_)
  obtain ⟨q1, q2, q3, q4, q5, q6, q7, zNE, q9⟩ := id hq
  obtain ⟨D9, D5, D8, D7, -, D4, D0⟩ := id hD
  have hT4 := hT.1
  have hb1 := hb.1
  refine mh_aload0 (pc := 0) F dX9_readProduct_0 ?_
  refine mh_iload1 (pc := 1) F dX9_readProduct_1 ?_
  refine mh_callV0 (pc := 2) (As := [.int (Int32.ofInt (x))]) (st := []) F (by omega) (HK _ _ hD hT hp hw) wv_RX9_108_yX9_readSingle dX9_readProduct_2 hq.1 rfl hq.2.2.2.1 rfl rfl (Nat.le_of_ble_eq_true rfl) ⟨Nat.zero_le _, Nat.zero_le _⟩ (fun r1 h1 q1 => ?_)
  obtain ⟨rfl, frc1, hDc1⟩ := q1
  obtain ⟨p1, ep1⟩ : ∃ z : sx_S, z = G p := ⟨_, rfl⟩
  have hpg1 := hG p hp
  rw [← ep1] at hDc1 hpg1
  rw [← ep1]
  have fr2 : mh_fr [t, t + 2] h h1 := (mh_fr.tr mh_fr.rf frc1).mono (by simp)
  have hpv1 : sx_pv s p1 := hpg1.1
  have hsl1 := hpg1.2.1
  have hgo1 := hpg1.2.2.1
  obtain ⟨hp11, hp21, hp31⟩ := sx_pv_x hpv1
  have hrr1 := (sx_hr_z hb hpv1).1
  have hh1 := sx_hh hb hpv1
  refine mh_istore2 (pc := 5) F dX9_readProduct_5 rfl (by decide) ?_
  refine mh_iconst (pc := 6) F dX9_readProduct_6 ?_
  refine mh_istore3 (pc := 7) F dX9_readProduct_7 rfl (by decide) ?_
  have L8 : ∀ (m : Nat) (rv : Int) (y : Int) (qa : sx_S) (hg : Nat → Int → Int), (mh_fr [t, t + 2] h hg) → (rv = 1 - qa.2.1) → (sc_RD hg t tp U wr s qa) → (sx_pv s qa) → (0 ≤ y ∧ y ≤ qa.1) → (sx_lv s G sx_oP p = sx_L s G sx_oP qa) → (50 - y).toNat = m → mh_V g f 5 n 0 0 8 [some (.ref t), some (.int (Int32.ofInt (x))), some (.int (Int32.ofInt (rv))), some (.int (Int32.ofInt (y))), none] [] hg := by
    intro m
    induction m using Nat.strongRecOn with
    | _ m ihL8 =>
    intro rv y qa hg frhg hrv hDq hpq hy hL hmz
    refine mh_iload3 (pc := 8) F dX9_readProduct_8 ?_
    obtain ⟨hp1, hp2, hp3⟩ := sx_pv_x hpq
    have hrr := (sx_hr_z hb hpq).1
    have hh := sx_hh hb hpq
    refine mh_bipush (pc := 9) F dX9_readProduct_9 rfl ?_
    refine mh_icmp_ge (pc := 11) (tgt := 79) F dX9_readProduct_11 rfl (by omega) (by omega) (fun c_11 => ?_) (fun c_11 => ?_)
    · refine mh_iload2 (pc := 79) F dX9_readProduct_79 ?_
      exact mh_zreturn F Z dX9_readProduct_80 (by omega) ⟨mh_sv (by rw [hL, sx_L_no (fun z => absurd (of_decide_eq_true z) (by omega))]; omega), (frhg.mono (by simp)), (by rw [hL, sx_L_no (fun z => absurd (of_decide_eq_true z) (by omega))]; exact hDq)⟩
    · refine mh_iload2 (pc := 14) F dX9_readProduct_14 ?_
      refine mh_if_eq (pc := 15) (tgt := 79) F dX9_readProduct_15 rfl (by omega) (fun c_15 => ?_) (fun c_15 => ?_)
      · refine mh_iload2 (pc := 79) F dX9_readProduct_79 ?_
        exact mh_zreturn F Z dX9_readProduct_80 (by omega) ⟨mh_sv (by rw [hL, sx_L_no (fun z => absurd (of_decide_eq_true z) (by omega))]; omega), (frhg.mono (by simp)), (by rw [hL, sx_L_no (fun z => absurd (of_decide_eq_true z) (by omega))]; exact hDq)⟩
      · have hwq : qa.2.1 = 0 := by omega
        refine mh_aload0 (pc := 18) F dX9_readProduct_18 ?_
        refine mh_bipush (pc := 19) F dX9_readProduct_19 rfl ?_
        refine mh_callVp (pc := 21) (As := [.int (Int32.ofInt (42))]) (st := []) F (by omega) (k36_sees (x := 42) (by omega) hq hDq (hT.fr (frhg tp zNE)) hpq hwq hb (by omega)) wv_RX9_88_yX9_sees dX9_readProduct_21 hq.1 rfl hq.2.2.2.1 rfl rfl (Nat.le_of_ble_eq_true rfl) ⟨Nat.zero_le _, Nat.zero_le _⟩ ?_
        refine mh_ifb_ne (pc := 24) (tgt := 45) F dX9_readProduct_24 rfl (fun c_24 => ?_) (fun c_24 => ?_)
        · refine mh_aload0 (pc := 45) F dX9_readProduct_45 ?_
          refine mh_callVp (pc := 46) (As := []) (st := []) F (by omega) (k36_next (by omega) hq hDq (hT.fr (frhg tp zNE)) hpq hwq) wv_RX9_102_yX9_next dX9_readProduct_46 hq.1 rfl hq.2.2.2.1 rfl rfl (Nat.le_of_ble_eq_true rfl) ⟨Nat.zero_le _, Nat.zero_le _⟩ ?_
          refine mh_istore4 (pc := 49) F dX9_readProduct_49 rfl (by decide) ?_
          have hq4 : qa.1 < s 4 ∧ qa.2.1 = 0 := by omega
          refine mh_aload0 (pc := 51) F dX9_readProduct_51 ?_
          refine mh_dup (pc := 52) F dX9_readProduct_52 rfl ?_
          refine mh_geti (pc := 53) F hq.1 hq.2.2.2.1 fw_RX9_67_9 dX9_readProduct_53 rfl ?_
          refine mh_iconst (pc := 56) F dX9_readProduct_56 ?_
          refine mh_iadd (pc := 57) F dX9_readProduct_57 ?_
          refine mh_puti (pc := 58) F hq.1 hq.2.2.2.1 pw_RX9_67_9 dX9_readProduct_58 ?_
          refine mh_nmh (fun h3 e3 => ?_)
          have fr3 : mh_fr [t, t + 2] h h3 := mh_fr.upi frhg e3 (by simp)
          have hDn3 : sc_RD h3 t tp U wr s (sx_pa qa) := sc_RD_pa hDq (by rw [hDq.1]) e3
          have hpn3 : sx_pv s (sx_pa qa) := sx_pa_pv (by omega) hpq
          have e13 : (sx_pa qa).1 = qa.1 + 1 := rfl
          have e23 : (sx_pa qa).2.2.1 = qa.2.2.1 := rfl
          have e33 : (sx_pa qa).2.1 = qa.2.1 := rfl
          have hwn3 : (sx_pa qa).2.1 = 0 := by omega
          refine mh_aload0 (pc := 61) F dX9_readProduct_61 ?_
          refine mh_iload1 (pc := 62) F dX9_readProduct_62 ?_
          refine mh_callV0 (pc := 63) (As := [.int (Int32.ofInt (x))]) (st := []) F (by omega) (HK _ _ hDn3 (hT.fr (fr3 tp zNE)) hpn3 hwn3) wv_RX9_108_yX9_readSingle dX9_readProduct_63 hq.1 rfl hq.2.2.2.1 rfl rfl (Nat.le_of_ble_eq_true rfl) ⟨Nat.zero_le _, Nat.zero_le _⟩ (fun r4 h4 q4 => ?_)
          obtain ⟨rfl, frc4, hDc4⟩ := q4
          obtain ⟨p4, ep4⟩ : ∃ z : sx_S, z = G (sx_pa qa) := ⟨_, rfl⟩
          have hpg4 := hG (sx_pa qa) hpn3
          rw [← ep4] at hDc4 hpg4
          rw [← ep4]
          have fr5 : mh_fr [t, t + 2] h h4 := (mh_fr.tr fr3 frc4).mono (by simp)
          have hpv4 : sx_pv s p4 := hpg4.1
          have hsl4 := hpg4.2.1
          have hgo4 := hpg4.2.2.1
          obtain ⟨hp14, hp24, hp34⟩ := sx_pv_x hpv4
          have hrr4 := (sx_hr_z hb hpv4).1
          have hh4 := sx_hh hb hpv4
          refine mh_istore2 (pc := 66) F dX9_readProduct_66 rfl (by decide) ?_
          refine mh_aload0 (pc := 67) F dX9_readProduct_67 ?_
          have hm5 : sx_m5 p4 := fun z => by omega
          have hmp : 0 ≤ p4.2.2.1 := by omega
          refine mh_iload4 (pc := 68) F dX9_readProduct_68 ?_
          refine mh_callV0 (pc := 70) (As := [.int (Int32.ofInt (sx_hr s qa))]) (st := []) F (by omega) (k36_write (c := sx_hr s qa) (v := -100 - sx_hr s qa) (by omega) hq hDc4 hm5 hmp (by rw [sc_de3 (by omega) (by omega)]) (by unfold sc_c1; omega)) wv_RX9_92_yX9_write dX9_readProduct_70 hq.1 rfl hq.2.2.2.1 rfl rfl (Nat.le_of_ble_eq_true rfl) ⟨Nat.zero_le _, Nat.zero_le _⟩ (fun r6 h6 q6 => ?_)
          obtain ⟨rfl, frw6, hDw6⟩ := q6
          have fr7 : mh_fr [t, t + 2] h h6 := (mh_fr.tr fr5 frw6).mono (by simp)
          refine mh_iinc3 (pc := 73) F dX9_readProduct_73 rfl (by decide) ?_
          refine mh_goto (pc := 76) (tgt := 8) F dX9_readProduct_76 rfl ?_
          refine mh_drop4 ?_
          exact ihL8 _ (by omega) (1 - p4.2.1) (y + 1) (sx_pp (-100 - sx_hr s qa) p4) h6 (fr7.mono (by simp)) (by rw [sx_pp_e]) hDw6 (by rw [ep4]; exact (sx_op hG hpq hq4.1 hq4.2 (g := sx_hr s qa) (by omega)).1) (by rw [sx_pp_1]; omega) (hL.trans ((sx_L_st hb hG sx_okP hpq (decide_eq_true (by omega))).trans (by rw [ep4]))) rfl
        · refine mh_aload0 (pc := 27) F dX9_readProduct_27 ?_
          refine mh_bipush (pc := 28) F dX9_readProduct_28 rfl ?_
          refine mh_callVp (pc := 30) (As := [.int (Int32.ofInt (47))]) (st := []) F (by omega) (k36_sees (x := 47) (by omega) hq hDq (hT.fr (frhg tp zNE)) hpq hwq hb (by omega)) wv_RX9_88_yX9_sees dX9_readProduct_30 hq.1 rfl hq.2.2.2.1 rfl rfl (Nat.le_of_ble_eq_true rfl) ⟨Nat.zero_le _, Nat.zero_le _⟩ ?_
          refine mh_ifb_ne (pc := 33) (tgt := 45) F dX9_readProduct_33 rfl (fun c_33 => ?_) (fun c_33 => ?_)
          · refine mh_aload0 (pc := 45) F dX9_readProduct_45 ?_
            refine mh_callVp (pc := 46) (As := []) (st := []) F (by omega) (k36_next (by omega) hq hDq (hT.fr (frhg tp zNE)) hpq hwq) wv_RX9_102_yX9_next dX9_readProduct_46 hq.1 rfl hq.2.2.2.1 rfl rfl (Nat.le_of_ble_eq_true rfl) ⟨Nat.zero_le _, Nat.zero_le _⟩ ?_
            refine mh_istore4 (pc := 49) F dX9_readProduct_49 rfl (by decide) ?_
            have hq4 : qa.1 < s 4 ∧ qa.2.1 = 0 := by omega
            refine mh_aload0 (pc := 51) F dX9_readProduct_51 ?_
            refine mh_dup (pc := 52) F dX9_readProduct_52 rfl ?_
            refine mh_geti (pc := 53) F hq.1 hq.2.2.2.1 fw_RX9_67_9 dX9_readProduct_53 rfl ?_
            refine mh_iconst (pc := 56) F dX9_readProduct_56 ?_
            refine mh_iadd (pc := 57) F dX9_readProduct_57 ?_
            refine mh_puti (pc := 58) F hq.1 hq.2.2.2.1 pw_RX9_67_9 dX9_readProduct_58 ?_
            refine mh_nmh (fun h8 e8 => ?_)
            have fr8 : mh_fr [t, t + 2] h h8 := mh_fr.upi frhg e8 (by simp)
            have hDn8 : sc_RD h8 t tp U wr s (sx_pa qa) := sc_RD_pa hDq (by rw [hDq.1]) e8
            have hpn8 : sx_pv s (sx_pa qa) := sx_pa_pv (by omega) hpq
            have e18 : (sx_pa qa).1 = qa.1 + 1 := rfl
            have e28 : (sx_pa qa).2.2.1 = qa.2.2.1 := rfl
            have e38 : (sx_pa qa).2.1 = qa.2.1 := rfl
            have hwn8 : (sx_pa qa).2.1 = 0 := by omega
            refine mh_aload0 (pc := 61) F dX9_readProduct_61 ?_
            refine mh_iload1 (pc := 62) F dX9_readProduct_62 ?_
            refine mh_callV0 (pc := 63) (As := [.int (Int32.ofInt (x))]) (st := []) F (by omega) (HK _ _ hDn8 (hT.fr (fr8 tp zNE)) hpn8 hwn8) wv_RX9_108_yX9_readSingle dX9_readProduct_63 hq.1 rfl hq.2.2.2.1 rfl rfl (Nat.le_of_ble_eq_true rfl) ⟨Nat.zero_le _, Nat.zero_le _⟩ (fun r9 h9 q9 => ?_)
            obtain ⟨rfl, frc9, hDc9⟩ := q9
            obtain ⟨p9, ep9⟩ : ∃ z : sx_S, z = G (sx_pa qa) := ⟨_, rfl⟩
            have hpg9 := hG (sx_pa qa) hpn8
            rw [← ep9] at hDc9 hpg9
            rw [← ep9]
            have fr10 : mh_fr [t, t + 2] h h9 := (mh_fr.tr fr8 frc9).mono (by simp)
            have hpv9 : sx_pv s p9 := hpg9.1
            have hsl9 := hpg9.2.1
            have hgo9 := hpg9.2.2.1
            obtain ⟨hp19, hp29, hp39⟩ := sx_pv_x hpv9
            have hrr9 := (sx_hr_z hb hpv9).1
            have hh9 := sx_hh hb hpv9
            refine mh_istore2 (pc := 66) F dX9_readProduct_66 rfl (by decide) ?_
            refine mh_aload0 (pc := 67) F dX9_readProduct_67 ?_
            have hm5 : sx_m5 p9 := fun z => by omega
            have hmp : 0 ≤ p9.2.2.1 := by omega
            refine mh_iload4 (pc := 68) F dX9_readProduct_68 ?_
            refine mh_callV0 (pc := 70) (As := [.int (Int32.ofInt (sx_hr s qa))]) (st := []) F (by omega) (k36_write (c := sx_hr s qa) (v := -100 - sx_hr s qa) (by omega) hq hDc9 hm5 hmp (by rw [sc_de3 (by omega) (by omega)]) (by unfold sc_c1; omega)) wv_RX9_92_yX9_write dX9_readProduct_70 hq.1 rfl hq.2.2.2.1 rfl rfl (Nat.le_of_ble_eq_true rfl) ⟨Nat.zero_le _, Nat.zero_le _⟩ (fun r11 h11 q11 => ?_)
            obtain ⟨rfl, frw11, hDw11⟩ := q11
            have fr12 : mh_fr [t, t + 2] h h11 := (mh_fr.tr fr10 frw11).mono (by simp)
            refine mh_iinc3 (pc := 73) F dX9_readProduct_73 rfl (by decide) ?_
            refine mh_goto (pc := 76) (tgt := 8) F dX9_readProduct_76 rfl ?_
            refine mh_drop4 ?_
            exact ihL8 _ (by omega) (1 - p9.2.1) (y + 1) (sx_pp (-100 - sx_hr s qa) p9) h11 (fr12.mono (by simp)) (by rw [sx_pp_e]) hDw11 (by rw [ep9]; exact (sx_op hG hpq hq4.1 hq4.2 (g := sx_hr s qa) (by omega)).1) (by rw [sx_pp_1]; omega) (hL.trans ((sx_L_st hb hG sx_okP hpq (decide_eq_true (by omega))).trans (by rw [ep9]))) rfl
          · refine mh_aload0 (pc := 36) F dX9_readProduct_36 ?_
            refine mh_bipush (pc := 37) F dX9_readProduct_37 rfl ?_
            refine mh_callVp (pc := 39) (As := [.int (Int32.ofInt (37))]) (st := []) F (by omega) (k36_sees (x := 37) (by omega) hq hDq (hT.fr (frhg tp zNE)) hpq hwq hb (by omega)) wv_RX9_88_yX9_sees dX9_readProduct_39 hq.1 rfl hq.2.2.2.1 rfl rfl (Nat.le_of_ble_eq_true rfl) ⟨Nat.zero_le _, Nat.zero_le _⟩ ?_
            refine mh_ifb_eq (pc := 42) (tgt := 79) F dX9_readProduct_42 rfl (fun c_42 => ?_) (fun c_42 => ?_)
            · refine mh_iload2 (pc := 79) F dX9_readProduct_79 ?_
              exact mh_zreturn F Z dX9_readProduct_80 (by omega) ⟨mh_sv (by rw [hL, sx_L_no (fun z => absurd (of_decide_eq_true z) (by omega))]; omega), (frhg.mono (by simp)), (by rw [hL, sx_L_no (fun z => absurd (of_decide_eq_true z) (by omega))]; exact hDq)⟩
            · refine mh_aload0 (pc := 45) F dX9_readProduct_45 ?_
              refine mh_callVp (pc := 46) (As := []) (st := []) F (by omega) (k36_next (by omega) hq hDq (hT.fr (frhg tp zNE)) hpq hwq) wv_RX9_102_yX9_next dX9_readProduct_46 hq.1 rfl hq.2.2.2.1 rfl rfl (Nat.le_of_ble_eq_true rfl) ⟨Nat.zero_le _, Nat.zero_le _⟩ ?_
              refine mh_istore4 (pc := 49) F dX9_readProduct_49 rfl (by decide) ?_
              have hq4 : qa.1 < s 4 ∧ qa.2.1 = 0 := by omega
              refine mh_aload0 (pc := 51) F dX9_readProduct_51 ?_
              refine mh_dup (pc := 52) F dX9_readProduct_52 rfl ?_
              refine mh_geti (pc := 53) F hq.1 hq.2.2.2.1 fw_RX9_67_9 dX9_readProduct_53 rfl ?_
              refine mh_iconst (pc := 56) F dX9_readProduct_56 ?_
              refine mh_iadd (pc := 57) F dX9_readProduct_57 ?_
              refine mh_puti (pc := 58) F hq.1 hq.2.2.2.1 pw_RX9_67_9 dX9_readProduct_58 ?_
              refine mh_nmh (fun h13 e13 => ?_)
              have fr13 : mh_fr [t, t + 2] h h13 := mh_fr.upi frhg e13 (by simp)
              have hDn13 : sc_RD h13 t tp U wr s (sx_pa qa) := sc_RD_pa hDq (by rw [hDq.1]) e13
              have hpn13 : sx_pv s (sx_pa qa) := sx_pa_pv (by omega) hpq
              have e113 : (sx_pa qa).1 = qa.1 + 1 := rfl
              have e213 : (sx_pa qa).2.2.1 = qa.2.2.1 := rfl
              have e313 : (sx_pa qa).2.1 = qa.2.1 := rfl
              have hwn13 : (sx_pa qa).2.1 = 0 := by omega
              refine mh_aload0 (pc := 61) F dX9_readProduct_61 ?_
              refine mh_iload1 (pc := 62) F dX9_readProduct_62 ?_
              refine mh_callV0 (pc := 63) (As := [.int (Int32.ofInt (x))]) (st := []) F (by omega) (HK _ _ hDn13 (hT.fr (fr13 tp zNE)) hpn13 hwn13) wv_RX9_108_yX9_readSingle dX9_readProduct_63 hq.1 rfl hq.2.2.2.1 rfl rfl (Nat.le_of_ble_eq_true rfl) ⟨Nat.zero_le _, Nat.zero_le _⟩ (fun r14 h14 q14 => ?_)
              obtain ⟨rfl, frc14, hDc14⟩ := q14
              obtain ⟨p14, ep14⟩ : ∃ z : sx_S, z = G (sx_pa qa) := ⟨_, rfl⟩
              have hpg14 := hG (sx_pa qa) hpn13
              rw [← ep14] at hDc14 hpg14
              rw [← ep14]
              have fr15 : mh_fr [t, t + 2] h h14 := (mh_fr.tr fr13 frc14).mono (by simp)
              have hpv14 : sx_pv s p14 := hpg14.1
              have hsl14 := hpg14.2.1
              have hgo14 := hpg14.2.2.1
              obtain ⟨hp114, hp214, hp314⟩ := sx_pv_x hpv14
              have hrr14 := (sx_hr_z hb hpv14).1
              have hh14 := sx_hh hb hpv14
              refine mh_istore2 (pc := 66) F dX9_readProduct_66 rfl (by decide) ?_
              refine mh_aload0 (pc := 67) F dX9_readProduct_67 ?_
              have hm5 : sx_m5 p14 := fun z => by omega
              have hmp : 0 ≤ p14.2.2.1 := by omega
              refine mh_iload4 (pc := 68) F dX9_readProduct_68 ?_
              refine mh_callV0 (pc := 70) (As := [.int (Int32.ofInt (sx_hr s qa))]) (st := []) F (by omega) (k36_write (c := sx_hr s qa) (v := -100 - sx_hr s qa) (by omega) hq hDc14 hm5 hmp (by rw [sc_de3 (by omega) (by omega)]) (by unfold sc_c1; omega)) wv_RX9_92_yX9_write dX9_readProduct_70 hq.1 rfl hq.2.2.2.1 rfl rfl (Nat.le_of_ble_eq_true rfl) ⟨Nat.zero_le _, Nat.zero_le _⟩ (fun r16 h16 q16 => ?_)
              obtain ⟨rfl, frw16, hDw16⟩ := q16
              have fr17 : mh_fr [t, t + 2] h h16 := (mh_fr.tr fr15 frw16).mono (by simp)
              refine mh_iinc3 (pc := 73) F dX9_readProduct_73 rfl (by decide) ?_
              refine mh_goto (pc := 76) (tgt := 8) F dX9_readProduct_76 rfl ?_
              refine mh_drop4 ?_
              exact ihL8 _ (by omega) (1 - p14.2.1) (y + 1) (sx_pp (-100 - sx_hr s qa) p14) h16 (fr17.mono (by simp)) (by rw [sx_pp_e]) hDw16 (by rw [ep14]; exact (sx_op hG hpq hq4.1 hq4.2 (g := sx_hr s qa) (by omega)).1) (by rw [sx_pp_1]; omega) (hL.trans ((sx_L_st hb hG sx_okP hpq (decide_eq_true (by omega))).trans (by rw [ep14]))) rfl
  exact L8 _ (1 - p1.2.1) 0 p1 h1 (fr2.mono (by simp)) rfl hDc1 hpv1 (by omega) (by rw [ep1]; rfl) rfl

set_option maxRecDepth 100000 in
set_option maxHeartbeats 2000000 in
theorem k38_sum {g : mh_G} {d : Nat} (hd : 6 ≤ d) {h : Nat → Int → Int} {n t tp L U : Nat} {wr s : Int → Int} {p : sx_S} {x : Int} {G : sx_S → sx_S} (hq : sc_tq n t tp L s) (hD : sc_RD h t tp U wr s p) (hT : sc_TP h tp s) (hp : sx_pv s p) (hw : p.2.1 = 0) (hb : sx_by s) (hG : sx_gd s G) (HK : sc_rK g (d - 1) yX9_readProduct cX9_readProduct 5 n t tp U wr s x G) : mh_M g d yX9_readSum cX9_readSum 5 (some .boolean) n 0 0 [.ref t, .int (Int32.ofInt (x))] h (sc_rpo h t tp U wr s (sx_lv s G sx_oS p)) := by
  refine mh_M_of RX9 rfl (by decide +kernel) [some (.ref t), some (.int (Int32.ofInt (x))), none, none, none] rfl (Nat.le_of_ble_eq_true rfl) (fun f F Z hn0 hR => ?_)
  obtain ⟨q1, q2, q3, q4, q5, q6, q7, zNE, q9⟩ := id hq
  obtain ⟨D9, D5, D8, D7, -, D4, D0⟩ := id hD
  have hT4 := hT.1
  have hb1 := hb.1
  refine mh_aload0 (pc := 0) F dX9_readSum_0 ?_
  refine mh_iload1 (pc := 1) F dX9_readSum_1 ?_
  refine mh_callV0 (pc := 2) (As := [.int (Int32.ofInt (x))]) (st := []) F (by omega) (HK _ _ hD hT hp hw) wv_RX9_105_yX9_readProduct dX9_readSum_2 hq.1 rfl hq.2.2.2.1 rfl rfl (Nat.le_of_ble_eq_true rfl) ⟨Nat.zero_le _, Nat.zero_le _⟩ (fun r1 h1 q1 => ?_)
  obtain ⟨rfl, frc1, hDc1⟩ := q1
  obtain ⟨p1, ep1⟩ : ∃ z : sx_S, z = G p := ⟨_, rfl⟩
  have hpg1 := hG p hp
  rw [← ep1] at hDc1 hpg1
  rw [← ep1]
  have fr2 : mh_fr [t, t + 2] h h1 := (mh_fr.tr mh_fr.rf frc1).mono (by simp)
  have hpv1 : sx_pv s p1 := hpg1.1
  have hsl1 := hpg1.2.1
  have hgo1 := hpg1.2.2.1
  obtain ⟨hp11, hp21, hp31⟩ := sx_pv_x hpv1
  have hrr1 := (sx_hr_z hb hpv1).1
  have hh1 := sx_hh hb hpv1
  refine mh_istore2 (pc := 5) F dX9_readSum_5 rfl (by decide) ?_
  refine mh_iconst (pc := 6) F dX9_readSum_6 ?_
  refine mh_istore3 (pc := 7) F dX9_readSum_7 rfl (by decide) ?_
  have L8 : ∀ (m : Nat) (rv : Int) (y : Int) (qa : sx_S) (hg : Nat → Int → Int), (mh_fr [t, t + 2] h hg) → (rv = 1 - qa.2.1) → (sc_RD hg t tp U wr s qa) → (sx_pv s qa) → (0 ≤ y ∧ y ≤ qa.1) → (sx_lv s G sx_oS p = sx_L s G sx_oS qa) → (50 - y).toNat = m → mh_V g f 5 n 0 0 8 [some (.ref t), some (.int (Int32.ofInt (x))), some (.int (Int32.ofInt (rv))), some (.int (Int32.ofInt (y))), none] [] hg := by
    intro m
    induction m using Nat.strongRecOn with
    | _ m ihL8 =>
    intro rv y qa hg frhg hrv hDq hpq hy hL hmz
    refine mh_iload3 (pc := 8) F dX9_readSum_8 ?_
    obtain ⟨hp1, hp2, hp3⟩ := sx_pv_x hpq
    have hrr := (sx_hr_z hb hpq).1
    have hh := sx_hh hb hpq
    refine mh_bipush (pc := 9) F dX9_readSum_9 rfl ?_
    refine mh_icmp_ge (pc := 11) (tgt := 70) F dX9_readSum_11 rfl (by omega) (by omega) (fun c_11 => ?_) (fun c_11 => ?_)
    · refine mh_iload2 (pc := 70) F dX9_readSum_70 ?_
      exact mh_zreturn F Z dX9_readSum_71 (by omega) ⟨mh_sv (by rw [hL, sx_L_no (fun z => absurd (of_decide_eq_true z) (by omega))]; omega), (frhg.mono (by simp)), (by rw [hL, sx_L_no (fun z => absurd (of_decide_eq_true z) (by omega))]; exact hDq)⟩
    · refine mh_iload2 (pc := 14) F dX9_readSum_14 ?_
      refine mh_if_eq (pc := 15) (tgt := 70) F dX9_readSum_15 rfl (by omega) (fun c_15 => ?_) (fun c_15 => ?_)
      · refine mh_iload2 (pc := 70) F dX9_readSum_70 ?_
        exact mh_zreturn F Z dX9_readSum_71 (by omega) ⟨mh_sv (by rw [hL, sx_L_no (fun z => absurd (of_decide_eq_true z) (by omega))]; omega), (frhg.mono (by simp)), (by rw [hL, sx_L_no (fun z => absurd (of_decide_eq_true z) (by omega))]; exact hDq)⟩
      · have hwq : qa.2.1 = 0 := by omega
        refine mh_aload0 (pc := 18) F dX9_readSum_18 ?_
        refine mh_bipush (pc := 19) F dX9_readSum_19 rfl ?_
        refine mh_callVp (pc := 21) (As := [.int (Int32.ofInt (43))]) (st := []) F (by omega) (k36_sees (x := 43) (by omega) hq hDq (hT.fr (frhg tp zNE)) hpq hwq hb (by omega)) wv_RX9_88_yX9_sees dX9_readSum_21 hq.1 rfl hq.2.2.2.1 rfl rfl (Nat.le_of_ble_eq_true rfl) ⟨Nat.zero_le _, Nat.zero_le _⟩ ?_
        refine mh_ifb_ne (pc := 24) (tgt := 36) F dX9_readSum_24 rfl (fun c_24 => ?_) (fun c_24 => ?_)
        · refine mh_aload0 (pc := 36) F dX9_readSum_36 ?_
          refine mh_callVp (pc := 37) (As := []) (st := []) F (by omega) (k36_next (by omega) hq hDq (hT.fr (frhg tp zNE)) hpq hwq) wv_RX9_102_yX9_next dX9_readSum_37 hq.1 rfl hq.2.2.2.1 rfl rfl (Nat.le_of_ble_eq_true rfl) ⟨Nat.zero_le _, Nat.zero_le _⟩ ?_
          refine mh_istore4 (pc := 40) F dX9_readSum_40 rfl (by decide) ?_
          have hq4 : qa.1 < s 4 ∧ qa.2.1 = 0 := by omega
          refine mh_aload0 (pc := 42) F dX9_readSum_42 ?_
          refine mh_dup (pc := 43) F dX9_readSum_43 rfl ?_
          refine mh_geti (pc := 44) F hq.1 hq.2.2.2.1 fw_RX9_67_9 dX9_readSum_44 rfl ?_
          refine mh_iconst (pc := 47) F dX9_readSum_47 ?_
          refine mh_iadd (pc := 48) F dX9_readSum_48 ?_
          refine mh_puti (pc := 49) F hq.1 hq.2.2.2.1 pw_RX9_67_9 dX9_readSum_49 ?_
          refine mh_nmh (fun h3 e3 => ?_)
          have fr3 : mh_fr [t, t + 2] h h3 := mh_fr.upi frhg e3 (by simp)
          have hDn3 : sc_RD h3 t tp U wr s (sx_pa qa) := sc_RD_pa hDq (by rw [hDq.1]) e3
          have hpn3 : sx_pv s (sx_pa qa) := sx_pa_pv (by omega) hpq
          have e13 : (sx_pa qa).1 = qa.1 + 1 := rfl
          have e23 : (sx_pa qa).2.2.1 = qa.2.2.1 := rfl
          have e33 : (sx_pa qa).2.1 = qa.2.1 := rfl
          have hwn3 : (sx_pa qa).2.1 = 0 := by omega
          refine mh_aload0 (pc := 52) F dX9_readSum_52 ?_
          refine mh_iload1 (pc := 53) F dX9_readSum_53 ?_
          refine mh_callV0 (pc := 54) (As := [.int (Int32.ofInt (x))]) (st := []) F (by omega) (HK _ _ hDn3 (hT.fr (fr3 tp zNE)) hpn3 hwn3) wv_RX9_105_yX9_readProduct dX9_readSum_54 hq.1 rfl hq.2.2.2.1 rfl rfl (Nat.le_of_ble_eq_true rfl) ⟨Nat.zero_le _, Nat.zero_le _⟩ (fun r4 h4 q4 => ?_)
          obtain ⟨rfl, frc4, hDc4⟩ := q4
          obtain ⟨p4, ep4⟩ : ∃ z : sx_S, z = G (sx_pa qa) := ⟨_, rfl⟩
          have hpg4 := hG (sx_pa qa) hpn3
          rw [← ep4] at hDc4 hpg4
          rw [← ep4]
          have fr5 : mh_fr [t, t + 2] h h4 := (mh_fr.tr fr3 frc4).mono (by simp)
          have hpv4 : sx_pv s p4 := hpg4.1
          have hsl4 := hpg4.2.1
          have hgo4 := hpg4.2.2.1
          obtain ⟨hp14, hp24, hp34⟩ := sx_pv_x hpv4
          have hrr4 := (sx_hr_z hb hpv4).1
          have hh4 := sx_hh hb hpv4
          refine mh_istore2 (pc := 57) F dX9_readSum_57 rfl (by decide) ?_
          refine mh_aload0 (pc := 58) F dX9_readSum_58 ?_
          have hm5 : sx_m5 p4 := fun z => by omega
          have hmp : 0 ≤ p4.2.2.1 := by omega
          refine mh_iload4 (pc := 59) F dX9_readSum_59 ?_
          refine mh_callV0 (pc := 61) (As := [.int (Int32.ofInt (sx_hr s qa))]) (st := []) F (by omega) (k36_write (c := sx_hr s qa) (v := -100 - sx_hr s qa) (by omega) hq hDc4 hm5 hmp (by rw [sc_de3 (by omega) (by omega)]) (by unfold sc_c1; omega)) wv_RX9_92_yX9_write dX9_readSum_61 hq.1 rfl hq.2.2.2.1 rfl rfl (Nat.le_of_ble_eq_true rfl) ⟨Nat.zero_le _, Nat.zero_le _⟩ (fun r6 h6 q6 => ?_)
          obtain ⟨rfl, frw6, hDw6⟩ := q6
          have fr7 : mh_fr [t, t + 2] h h6 := (mh_fr.tr fr5 frw6).mono (by simp)
          refine mh_iinc3 (pc := 64) F dX9_readSum_64 rfl (by decide) ?_
          refine mh_goto (pc := 67) (tgt := 8) F dX9_readSum_67 rfl ?_
          refine mh_drop4 ?_
          exact ihL8 _ (by omega) (1 - p4.2.1) (y + 1) (sx_pp (-100 - sx_hr s qa) p4) h6 (fr7.mono (by simp)) (by rw [sx_pp_e]) hDw6 (by rw [ep4]; exact (sx_op hG hpq hq4.1 hq4.2 (g := sx_hr s qa) (by omega)).1) (by rw [sx_pp_1]; omega) (hL.trans ((sx_L_st hb hG sx_okS hpq (decide_eq_true (by omega))).trans (by rw [ep4]))) rfl
        · refine mh_aload0 (pc := 27) F dX9_readSum_27 ?_
          refine mh_bipush (pc := 28) F dX9_readSum_28 rfl ?_
          refine mh_callVp (pc := 30) (As := [.int (Int32.ofInt (45))]) (st := []) F (by omega) (k36_sees (x := 45) (by omega) hq hDq (hT.fr (frhg tp zNE)) hpq hwq hb (by omega)) wv_RX9_88_yX9_sees dX9_readSum_30 hq.1 rfl hq.2.2.2.1 rfl rfl (Nat.le_of_ble_eq_true rfl) ⟨Nat.zero_le _, Nat.zero_le _⟩ ?_
          refine mh_ifb_eq (pc := 33) (tgt := 70) F dX9_readSum_33 rfl (fun c_33 => ?_) (fun c_33 => ?_)
          · refine mh_iload2 (pc := 70) F dX9_readSum_70 ?_
            exact mh_zreturn F Z dX9_readSum_71 (by omega) ⟨mh_sv (by rw [hL, sx_L_no (fun z => absurd (of_decide_eq_true z) (by omega))]; omega), (frhg.mono (by simp)), (by rw [hL, sx_L_no (fun z => absurd (of_decide_eq_true z) (by omega))]; exact hDq)⟩
          · refine mh_aload0 (pc := 36) F dX9_readSum_36 ?_
            refine mh_callVp (pc := 37) (As := []) (st := []) F (by omega) (k36_next (by omega) hq hDq (hT.fr (frhg tp zNE)) hpq hwq) wv_RX9_102_yX9_next dX9_readSum_37 hq.1 rfl hq.2.2.2.1 rfl rfl (Nat.le_of_ble_eq_true rfl) ⟨Nat.zero_le _, Nat.zero_le _⟩ ?_
            refine mh_istore4 (pc := 40) F dX9_readSum_40 rfl (by decide) ?_
            have hq4 : qa.1 < s 4 ∧ qa.2.1 = 0 := by omega
            refine mh_aload0 (pc := 42) F dX9_readSum_42 ?_
            refine mh_dup (pc := 43) F dX9_readSum_43 rfl ?_
            refine mh_geti (pc := 44) F hq.1 hq.2.2.2.1 fw_RX9_67_9 dX9_readSum_44 rfl ?_
            refine mh_iconst (pc := 47) F dX9_readSum_47 ?_
            refine mh_iadd (pc := 48) F dX9_readSum_48 ?_
            refine mh_puti (pc := 49) F hq.1 hq.2.2.2.1 pw_RX9_67_9 dX9_readSum_49 ?_
            refine mh_nmh (fun h8 e8 => ?_)
            have fr8 : mh_fr [t, t + 2] h h8 := mh_fr.upi frhg e8 (by simp)
            have hDn8 : sc_RD h8 t tp U wr s (sx_pa qa) := sc_RD_pa hDq (by rw [hDq.1]) e8
            have hpn8 : sx_pv s (sx_pa qa) := sx_pa_pv (by omega) hpq
            have e18 : (sx_pa qa).1 = qa.1 + 1 := rfl
            have e28 : (sx_pa qa).2.2.1 = qa.2.2.1 := rfl
            have e38 : (sx_pa qa).2.1 = qa.2.1 := rfl
            have hwn8 : (sx_pa qa).2.1 = 0 := by omega
            refine mh_aload0 (pc := 52) F dX9_readSum_52 ?_
            refine mh_iload1 (pc := 53) F dX9_readSum_53 ?_
            refine mh_callV0 (pc := 54) (As := [.int (Int32.ofInt (x))]) (st := []) F (by omega) (HK _ _ hDn8 (hT.fr (fr8 tp zNE)) hpn8 hwn8) wv_RX9_105_yX9_readProduct dX9_readSum_54 hq.1 rfl hq.2.2.2.1 rfl rfl (Nat.le_of_ble_eq_true rfl) ⟨Nat.zero_le _, Nat.zero_le _⟩ (fun r9 h9 q9 => ?_)
            obtain ⟨rfl, frc9, hDc9⟩ := q9
            obtain ⟨p9, ep9⟩ : ∃ z : sx_S, z = G (sx_pa qa) := ⟨_, rfl⟩
            have hpg9 := hG (sx_pa qa) hpn8
            rw [← ep9] at hDc9 hpg9
            rw [← ep9]
            have fr10 : mh_fr [t, t + 2] h h9 := (mh_fr.tr fr8 frc9).mono (by simp)
            have hpv9 : sx_pv s p9 := hpg9.1
            have hsl9 := hpg9.2.1
            have hgo9 := hpg9.2.2.1
            obtain ⟨hp19, hp29, hp39⟩ := sx_pv_x hpv9
            have hrr9 := (sx_hr_z hb hpv9).1
            have hh9 := sx_hh hb hpv9
            refine mh_istore2 (pc := 57) F dX9_readSum_57 rfl (by decide) ?_
            refine mh_aload0 (pc := 58) F dX9_readSum_58 ?_
            have hm5 : sx_m5 p9 := fun z => by omega
            have hmp : 0 ≤ p9.2.2.1 := by omega
            refine mh_iload4 (pc := 59) F dX9_readSum_59 ?_
            refine mh_callV0 (pc := 61) (As := [.int (Int32.ofInt (sx_hr s qa))]) (st := []) F (by omega) (k36_write (c := sx_hr s qa) (v := -100 - sx_hr s qa) (by omega) hq hDc9 hm5 hmp (by rw [sc_de3 (by omega) (by omega)]) (by unfold sc_c1; omega)) wv_RX9_92_yX9_write dX9_readSum_61 hq.1 rfl hq.2.2.2.1 rfl rfl (Nat.le_of_ble_eq_true rfl) ⟨Nat.zero_le _, Nat.zero_le _⟩ (fun r11 h11 q11 => ?_)
            obtain ⟨rfl, frw11, hDw11⟩ := q11
            have fr12 : mh_fr [t, t + 2] h h11 := (mh_fr.tr fr10 frw11).mono (by simp)
            refine mh_iinc3 (pc := 64) F dX9_readSum_64 rfl (by decide) ?_
            refine mh_goto (pc := 67) (tgt := 8) F dX9_readSum_67 rfl ?_
            refine mh_drop4 ?_
            exact ihL8 _ (by omega) (1 - p9.2.1) (y + 1) (sx_pp (-100 - sx_hr s qa) p9) h11 (fr12.mono (by simp)) (by rw [sx_pp_e]) hDw11 (by rw [ep9]; exact (sx_op hG hpq hq4.1 hq4.2 (g := sx_hr s qa) (by omega)).1) (by rw [sx_pp_1]; omega) (hL.trans ((sx_L_st hb hG sx_okS hpq (decide_eq_true (by omega))).trans (by rw [ep9]))) rfl
  exact L8 _ (1 - p1.2.1) 0 p1 h1 (fr2.mono (by simp)) rfl hDc1 hpv1 (by omega) (by rw [ep1]; rfl) rfl

set_option maxRecDepth 100000 in
set_option maxHeartbeats 2000000 in
theorem k38_all {g : mh_G} {d : Nat} (hd : 6 ≤ d) {h : Nat → Int → Int} {n t tp L U : Nat} {wr s : Int → Int} {p : sx_S} {x : Int} {G : sx_S → sx_S} (hq : sc_tq n t tp L s) (hD : sc_RD h t tp U wr s p) (hT : sc_TP h tp s) (hp : sx_pv s p) (hw : p.2.1 = 0) (hb : sx_by s) (hG : sx_gd s G) (HK : sc_rK g (d - 1) yX9_readCompared cX9_readCompared 4 n t tp U wr s x G) : mh_M g d yX9_readAll cX9_readAll 4 (some .boolean) n 0 0 [.ref t, .int (Int32.ofInt (x))] h (sc_rpo h t tp U wr s (sx_lv s G sx_oA p)) := by
  refine mh_M_of RX9 rfl (by decide +kernel) [some (.ref t), some (.int (Int32.ofInt (x))), none, none] rfl (Nat.le_of_ble_eq_true rfl) (fun f F Z hn0 hR => ?_)
  obtain ⟨q1, q2, q3, q4, q5, q6, q7, zNE, q9⟩ := id hq
  obtain ⟨D9, D5, D8, D7, -, D4, D0⟩ := id hD
  have hT4 := hT.1
  have hb1 := hb.1
  refine mh_aload0 (pc := 0) F dX9_readAll_0 ?_
  refine mh_iload1 (pc := 1) F dX9_readAll_1 ?_
  refine mh_callV0 (pc := 2) (As := [.int (Int32.ofInt (x))]) (st := []) F (by omega) (HK _ _ hD hT hp hw) wv_RX9_96_yX9_readCompared dX9_readAll_2 hq.1 rfl hq.2.2.2.1 rfl rfl (Nat.le_of_ble_eq_true rfl) ⟨Nat.zero_le _, Nat.zero_le _⟩ (fun r1 h1 q1 => ?_)
  obtain ⟨rfl, frc1, hDc1⟩ := q1
  obtain ⟨p1, ep1⟩ : ∃ z : sx_S, z = G p := ⟨_, rfl⟩
  have hpg1 := hG p hp
  rw [← ep1] at hDc1 hpg1
  rw [← ep1]
  have fr2 : mh_fr [t, t + 2] h h1 := (mh_fr.tr mh_fr.rf frc1).mono (by simp)
  have hpv1 : sx_pv s p1 := hpg1.1
  have hsl1 := hpg1.2.1
  have hgo1 := hpg1.2.2.1
  obtain ⟨hp11, hp21, hp31⟩ := sx_pv_x hpv1
  have hrr1 := (sx_hr_z hb hpv1).1
  have hh1 := sx_hh hb hpv1
  refine mh_istore2 (pc := 5) F dX9_readAll_5 rfl (by decide) ?_
  refine mh_iconst (pc := 6) F dX9_readAll_6 ?_
  refine mh_istore3 (pc := 7) F dX9_readAll_7 rfl (by decide) ?_
  have L8 : ∀ (m : Nat) (rv : Int) (y : Int) (qa : sx_S) (hg : Nat → Int → Int), (mh_fr [t, t + 2] h hg) → (rv = 1 - qa.2.1) → (sc_RD hg t tp U wr s qa) → (sx_pv s qa) → (0 ≤ y ∧ y ≤ qa.1) → (sx_lv s G sx_oA p = sx_L s G sx_oA qa) → (50 - y).toNat = m → mh_V g f 4 n 0 0 8 [some (.ref t), some (.int (Int32.ofInt (x))), some (.int (Int32.ofInt (rv))), some (.int (Int32.ofInt (y)))] [] hg := by
    intro m
    induction m using Nat.strongRecOn with
    | _ m ihL8 =>
    intro rv y qa hg frhg hrv hDq hpq hy hL hmz
    refine mh_iload3 (pc := 8) F dX9_readAll_8 ?_
    obtain ⟨hp1, hp2, hp3⟩ := sx_pv_x hpq
    have hrr := (sx_hr_z hb hpq).1
    have hh := sx_hh hb hpq
    refine mh_bipush (pc := 9) F dX9_readAll_9 rfl ?_
    refine mh_icmp_ge (pc := 11) (tgt := 55) F dX9_readAll_11 rfl (by omega) (by omega) (fun c_11 => ?_) (fun c_11 => ?_)
    · refine mh_iload2 (pc := 55) F dX9_readAll_55 ?_
      exact mh_zreturn F Z dX9_readAll_56 (by omega) ⟨mh_sv (by rw [hL, sx_L_no (fun z => absurd (of_decide_eq_true z) (by omega))]; omega), (frhg.mono (by simp)), (by rw [hL, sx_L_no (fun z => absurd (of_decide_eq_true z) (by omega))]; exact hDq)⟩
    · refine mh_iload2 (pc := 14) F dX9_readAll_14 ?_
      refine mh_if_eq (pc := 15) (tgt := 55) F dX9_readAll_15 rfl (by omega) (fun c_15 => ?_) (fun c_15 => ?_)
      · refine mh_iload2 (pc := 55) F dX9_readAll_55 ?_
        exact mh_zreturn F Z dX9_readAll_56 (by omega) ⟨mh_sv (by rw [hL, sx_L_no (fun z => absurd (of_decide_eq_true z) (by omega))]; omega), (frhg.mono (by simp)), (by rw [hL, sx_L_no (fun z => absurd (of_decide_eq_true z) (by omega))]; exact hDq)⟩
      · have hwq : qa.2.1 = 0 := by omega
        refine mh_aload0 (pc := 18) F dX9_readAll_18 ?_
        refine mh_bipush (pc := 19) F dX9_readAll_19 rfl ?_
        refine mh_callVp (pc := 21) (As := [.int (Int32.ofInt (38))]) (st := []) F (by omega) (k36_sees (x := 38) (by omega) hq hDq (hT.fr (frhg tp zNE)) hpq hwq hb (by omega)) wv_RX9_88_yX9_sees dX9_readAll_21 hq.1 rfl hq.2.2.2.1 rfl rfl (Nat.le_of_ble_eq_true rfl) ⟨Nat.zero_le _, Nat.zero_le _⟩ ?_
        refine mh_ifb_eq (pc := 24) (tgt := 55) F dX9_readAll_24 rfl (fun c_24 => ?_) (fun c_24 => ?_)
        · refine mh_iload2 (pc := 55) F dX9_readAll_55 ?_
          exact mh_zreturn F Z dX9_readAll_56 (by omega) ⟨mh_sv (by rw [hL, sx_L_no (fun z => absurd (of_decide_eq_true z) (by omega))]; omega), (frhg.mono (by simp)), (by rw [hL, sx_L_no (fun z => absurd (of_decide_eq_true z) (by omega))]; exact hDq)⟩
        · have hq4 : qa.1 < s 4 ∧ qa.2.1 = 0 := by omega
          refine mh_aload0 (pc := 27) F dX9_readAll_27 ?_
          refine mh_dup (pc := 28) F dX9_readAll_28 rfl ?_
          refine mh_geti (pc := 29) F hq.1 hq.2.2.2.1 fw_RX9_67_9 dX9_readAll_29 rfl ?_
          refine mh_iconst (pc := 32) F dX9_readAll_32 ?_
          refine mh_iadd (pc := 33) F dX9_readAll_33 ?_
          refine mh_puti (pc := 34) F hq.1 hq.2.2.2.1 pw_RX9_67_9 dX9_readAll_34 ?_
          refine mh_nmh (fun h3 e3 => ?_)
          have fr3 : mh_fr [t, t + 2] h h3 := mh_fr.upi frhg e3 (by simp)
          have hDn3 : sc_RD h3 t tp U wr s (sx_pa qa) := sc_RD_pa hDq (by rw [hDq.1]) e3
          have hpn3 : sx_pv s (sx_pa qa) := sx_pa_pv (by omega) hpq
          have e13 : (sx_pa qa).1 = qa.1 + 1 := rfl
          have e23 : (sx_pa qa).2.2.1 = qa.2.2.1 := rfl
          have e33 : (sx_pa qa).2.1 = qa.2.1 := rfl
          have hwn3 : (sx_pa qa).2.1 = 0 := by omega
          refine mh_aload0 (pc := 37) F dX9_readAll_37 ?_
          refine mh_iload1 (pc := 38) F dX9_readAll_38 ?_
          refine mh_callV0 (pc := 39) (As := [.int (Int32.ofInt (x))]) (st := []) F (by omega) (HK _ _ hDn3 (hT.fr (fr3 tp zNE)) hpn3 hwn3) wv_RX9_96_yX9_readCompared dX9_readAll_39 hq.1 rfl hq.2.2.2.1 rfl rfl (Nat.le_of_ble_eq_true rfl) ⟨Nat.zero_le _, Nat.zero_le _⟩ (fun r4 h4 q4 => ?_)
          obtain ⟨rfl, frc4, hDc4⟩ := q4
          obtain ⟨p4, ep4⟩ : ∃ z : sx_S, z = G (sx_pa qa) := ⟨_, rfl⟩
          have hpg4 := hG (sx_pa qa) hpn3
          rw [← ep4] at hDc4 hpg4
          rw [← ep4]
          have fr5 : mh_fr [t, t + 2] h h4 := (mh_fr.tr fr3 frc4).mono (by simp)
          have hpv4 : sx_pv s p4 := hpg4.1
          have hsl4 := hpg4.2.1
          have hgo4 := hpg4.2.2.1
          obtain ⟨hp14, hp24, hp34⟩ := sx_pv_x hpv4
          have hrr4 := (sx_hr_z hb hpv4).1
          have hh4 := sx_hh hb hpv4
          refine mh_istore2 (pc := 42) F dX9_readAll_42 rfl (by decide) ?_
          refine mh_aload0 (pc := 43) F dX9_readAll_43 ?_
          have hm5 : sx_m5 p4 := fun z => by omega
          have hmp : 0 ≤ p4.2.2.1 := by omega
          refine mh_bipush (pc := 44) F dX9_readAll_44 rfl ?_
          refine mh_callV0 (pc := 46) (As := [.int (Int32.ofInt (38))]) (st := []) F (by omega) (k36_write (c := 38) (v := -100 - sx_hr s qa) (by omega) hq hDc4 hm5 hmp (by rw [sc_de3 (by decide) (by decide)]; omega) (by unfold sc_c1; omega)) wv_RX9_92_yX9_write dX9_readAll_46 hq.1 rfl hq.2.2.2.1 rfl rfl (Nat.le_of_ble_eq_true rfl) ⟨Nat.zero_le _, Nat.zero_le _⟩ (fun r6 h6 q6 => ?_)
          obtain ⟨rfl, frw6, hDw6⟩ := q6
          have fr7 : mh_fr [t, t + 2] h h6 := (mh_fr.tr fr5 frw6).mono (by simp)
          refine mh_iinc3 (pc := 49) F dX9_readAll_49 rfl (by decide) ?_
          refine mh_goto (pc := 52) (tgt := 8) F dX9_readAll_52 rfl ?_
          exact ihL8 _ (by omega) (1 - p4.2.1) (y + 1) (sx_pp (-100 - sx_hr s qa) p4) h6 (fr7.mono (by simp)) (by rw [sx_pp_e]) hDw6 (by rw [ep4]; exact (sx_op hG hpq hq4.1 hq4.2 (g := sx_hr s qa) (by omega)).1) (by rw [sx_pp_1]; omega) (hL.trans ((sx_L_st hb hG sx_okA hpq (decide_eq_true (by omega))).trans (by rw [ep4]))) rfl
  exact L8 _ (1 - p1.2.1) 0 p1 h1 (fr2.mono (by simp)) rfl hDc1 hpv1 (by omega) (by rw [ep1]; rfl) rfl

set_option maxRecDepth 100000 in
set_option maxHeartbeats 2000000 in
theorem k38_any {g : mh_G} {d : Nat} (hd : 6 ≤ d) {h : Nat → Int → Int} {n t tp L U : Nat} {wr s : Int → Int} {p : sx_S} {x : Int} {G : sx_S → sx_S} (hq : sc_tq n t tp L s) (hD : sc_RD h t tp U wr s p) (hT : sc_TP h tp s) (hp : sx_pv s p) (hw : p.2.1 = 0) (hb : sx_by s) (hG : sx_gd s G) (HK : sc_rK g (d - 1) yX9_readAll cX9_readAll 4 n t tp U wr s x G) : mh_M g d yX9_readAny cX9_readAny 4 (some .boolean) n 0 0 [.ref t, .int (Int32.ofInt (x))] h (sc_rpo h t tp U wr s (sx_lv s G sx_oT p)) := by
  refine mh_M_of RX9 rfl (by decide +kernel) [some (.ref t), some (.int (Int32.ofInt (x))), none, none] rfl (Nat.le_of_ble_eq_true rfl) (fun f F Z hn0 hR => ?_)
  obtain ⟨q1, q2, q3, q4, q5, q6, q7, zNE, q9⟩ := id hq
  obtain ⟨D9, D5, D8, D7, -, D4, D0⟩ := id hD
  have hT4 := hT.1
  have hb1 := hb.1
  refine mh_aload0 (pc := 0) F dX9_readAny_0 ?_
  refine mh_iload1 (pc := 1) F dX9_readAny_1 ?_
  refine mh_callV0 (pc := 2) (As := [.int (Int32.ofInt (x))]) (st := []) F (by omega) (HK _ _ hD hT hp hw) wv_RX9_85_yX9_readAll dX9_readAny_2 hq.1 rfl hq.2.2.2.1 rfl rfl (Nat.le_of_ble_eq_true rfl) ⟨Nat.zero_le _, Nat.zero_le _⟩ (fun r1 h1 q1 => ?_)
  obtain ⟨rfl, frc1, hDc1⟩ := q1
  obtain ⟨p1, ep1⟩ : ∃ z : sx_S, z = G p := ⟨_, rfl⟩
  have hpg1 := hG p hp
  rw [← ep1] at hDc1 hpg1
  rw [← ep1]
  have fr2 : mh_fr [t, t + 2] h h1 := (mh_fr.tr mh_fr.rf frc1).mono (by simp)
  have hpv1 : sx_pv s p1 := hpg1.1
  have hsl1 := hpg1.2.1
  have hgo1 := hpg1.2.2.1
  obtain ⟨hp11, hp21, hp31⟩ := sx_pv_x hpv1
  have hrr1 := (sx_hr_z hb hpv1).1
  have hh1 := sx_hh hb hpv1
  refine mh_istore2 (pc := 5) F dX9_readAny_5 rfl (by decide) ?_
  refine mh_iconst (pc := 6) F dX9_readAny_6 ?_
  refine mh_istore3 (pc := 7) F dX9_readAny_7 rfl (by decide) ?_
  have L8 : ∀ (m : Nat) (rv : Int) (y : Int) (qa : sx_S) (hg : Nat → Int → Int), (mh_fr [t, t + 2] h hg) → (rv = 1 - qa.2.1) → (sc_RD hg t tp U wr s qa) → (sx_pv s qa) → (0 ≤ y ∧ y ≤ qa.1) → (sx_lv s G sx_oT p = sx_L s G sx_oT qa) → (50 - y).toNat = m → mh_V g f 4 n 0 0 8 [some (.ref t), some (.int (Int32.ofInt (x))), some (.int (Int32.ofInt (rv))), some (.int (Int32.ofInt (y)))] [] hg := by
    intro m
    induction m using Nat.strongRecOn with
    | _ m ihL8 =>
    intro rv y qa hg frhg hrv hDq hpq hy hL hmz
    refine mh_iload3 (pc := 8) F dX9_readAny_8 ?_
    obtain ⟨hp1, hp2, hp3⟩ := sx_pv_x hpq
    have hrr := (sx_hr_z hb hpq).1
    have hh := sx_hh hb hpq
    refine mh_bipush (pc := 9) F dX9_readAny_9 rfl ?_
    refine mh_icmp_ge (pc := 11) (tgt := 55) F dX9_readAny_11 rfl (by omega) (by omega) (fun c_11 => ?_) (fun c_11 => ?_)
    · refine mh_iload2 (pc := 55) F dX9_readAny_55 ?_
      exact mh_zreturn F Z dX9_readAny_56 (by omega) ⟨mh_sv (by rw [hL, sx_L_no (fun z => absurd (of_decide_eq_true z) (by omega))]; omega), (frhg.mono (by simp)), (by rw [hL, sx_L_no (fun z => absurd (of_decide_eq_true z) (by omega))]; exact hDq)⟩
    · refine mh_iload2 (pc := 14) F dX9_readAny_14 ?_
      refine mh_if_eq (pc := 15) (tgt := 55) F dX9_readAny_15 rfl (by omega) (fun c_15 => ?_) (fun c_15 => ?_)
      · refine mh_iload2 (pc := 55) F dX9_readAny_55 ?_
        exact mh_zreturn F Z dX9_readAny_56 (by omega) ⟨mh_sv (by rw [hL, sx_L_no (fun z => absurd (of_decide_eq_true z) (by omega))]; omega), (frhg.mono (by simp)), (by rw [hL, sx_L_no (fun z => absurd (of_decide_eq_true z) (by omega))]; exact hDq)⟩
      · have hwq : qa.2.1 = 0 := by omega
        refine mh_aload0 (pc := 18) F dX9_readAny_18 ?_
        refine mh_bipush (pc := 19) F dX9_readAny_19 rfl ?_
        refine mh_callVp (pc := 21) (As := [.int (Int32.ofInt (124))]) (st := []) F (by omega) (k36_sees (x := 124) (by omega) hq hDq (hT.fr (frhg tp zNE)) hpq hwq hb (by omega)) wv_RX9_88_yX9_sees dX9_readAny_21 hq.1 rfl hq.2.2.2.1 rfl rfl (Nat.le_of_ble_eq_true rfl) ⟨Nat.zero_le _, Nat.zero_le _⟩ ?_
        refine mh_ifb_eq (pc := 24) (tgt := 55) F dX9_readAny_24 rfl (fun c_24 => ?_) (fun c_24 => ?_)
        · refine mh_iload2 (pc := 55) F dX9_readAny_55 ?_
          exact mh_zreturn F Z dX9_readAny_56 (by omega) ⟨mh_sv (by rw [hL, sx_L_no (fun z => absurd (of_decide_eq_true z) (by omega))]; omega), (frhg.mono (by simp)), (by rw [hL, sx_L_no (fun z => absurd (of_decide_eq_true z) (by omega))]; exact hDq)⟩
        · have hq4 : qa.1 < s 4 ∧ qa.2.1 = 0 := by omega
          refine mh_aload0 (pc := 27) F dX9_readAny_27 ?_
          refine mh_dup (pc := 28) F dX9_readAny_28 rfl ?_
          refine mh_geti (pc := 29) F hq.1 hq.2.2.2.1 fw_RX9_67_9 dX9_readAny_29 rfl ?_
          refine mh_iconst (pc := 32) F dX9_readAny_32 ?_
          refine mh_iadd (pc := 33) F dX9_readAny_33 ?_
          refine mh_puti (pc := 34) F hq.1 hq.2.2.2.1 pw_RX9_67_9 dX9_readAny_34 ?_
          refine mh_nmh (fun h3 e3 => ?_)
          have fr3 : mh_fr [t, t + 2] h h3 := mh_fr.upi frhg e3 (by simp)
          have hDn3 : sc_RD h3 t tp U wr s (sx_pa qa) := sc_RD_pa hDq (by rw [hDq.1]) e3
          have hpn3 : sx_pv s (sx_pa qa) := sx_pa_pv (by omega) hpq
          have e13 : (sx_pa qa).1 = qa.1 + 1 := rfl
          have e23 : (sx_pa qa).2.2.1 = qa.2.2.1 := rfl
          have e33 : (sx_pa qa).2.1 = qa.2.1 := rfl
          have hwn3 : (sx_pa qa).2.1 = 0 := by omega
          refine mh_aload0 (pc := 37) F dX9_readAny_37 ?_
          refine mh_iload1 (pc := 38) F dX9_readAny_38 ?_
          refine mh_callV0 (pc := 39) (As := [.int (Int32.ofInt (x))]) (st := []) F (by omega) (HK _ _ hDn3 (hT.fr (fr3 tp zNE)) hpn3 hwn3) wv_RX9_85_yX9_readAll dX9_readAny_39 hq.1 rfl hq.2.2.2.1 rfl rfl (Nat.le_of_ble_eq_true rfl) ⟨Nat.zero_le _, Nat.zero_le _⟩ (fun r4 h4 q4 => ?_)
          obtain ⟨rfl, frc4, hDc4⟩ := q4
          obtain ⟨p4, ep4⟩ : ∃ z : sx_S, z = G (sx_pa qa) := ⟨_, rfl⟩
          have hpg4 := hG (sx_pa qa) hpn3
          rw [← ep4] at hDc4 hpg4
          rw [← ep4]
          have fr5 : mh_fr [t, t + 2] h h4 := (mh_fr.tr fr3 frc4).mono (by simp)
          have hpv4 : sx_pv s p4 := hpg4.1
          have hsl4 := hpg4.2.1
          have hgo4 := hpg4.2.2.1
          obtain ⟨hp14, hp24, hp34⟩ := sx_pv_x hpv4
          have hrr4 := (sx_hr_z hb hpv4).1
          have hh4 := sx_hh hb hpv4
          refine mh_istore2 (pc := 42) F dX9_readAny_42 rfl (by decide) ?_
          refine mh_aload0 (pc := 43) F dX9_readAny_43 ?_
          have hm5 : sx_m5 p4 := fun z => by omega
          have hmp : 0 ≤ p4.2.2.1 := by omega
          refine mh_bipush (pc := 44) F dX9_readAny_44 rfl ?_
          refine mh_callV0 (pc := 46) (As := [.int (Int32.ofInt (124))]) (st := []) F (by omega) (k36_write (c := 124) (v := -100 - sx_hr s qa) (by omega) hq hDc4 hm5 hmp (by rw [sc_de3 (by decide) (by decide)]; omega) (by unfold sc_c1; omega)) wv_RX9_92_yX9_write dX9_readAny_46 hq.1 rfl hq.2.2.2.1 rfl rfl (Nat.le_of_ble_eq_true rfl) ⟨Nat.zero_le _, Nat.zero_le _⟩ (fun r6 h6 q6 => ?_)
          obtain ⟨rfl, frw6, hDw6⟩ := q6
          have fr7 : mh_fr [t, t + 2] h h6 := (mh_fr.tr fr5 frw6).mono (by simp)
          refine mh_iinc3 (pc := 49) F dX9_readAny_49 rfl (by decide) ?_
          refine mh_goto (pc := 52) (tgt := 8) F dX9_readAny_52 rfl ?_
          exact ihL8 _ (by omega) (1 - p4.2.1) (y + 1) (sx_pp (-100 - sx_hr s qa) p4) h6 (fr7.mono (by simp)) (by rw [sx_pp_e]) hDw6 (by rw [ep4]; exact (sx_op hG hpq hq4.1 hq4.2 (g := sx_hr s qa) (by omega)).1) (by rw [sx_pp_1]; omega) (hL.trans ((sx_L_st hb hG sx_okT hpq (decide_eq_true (by omega))).trans (by rw [ep4]))) rfl
  exact L8 _ (1 - p1.2.1) 0 p1 h1 (fr2.mono (by simp)) rfl hDc1 hpv1 (by omega) (by rw [ep1]; rfl) rfl

