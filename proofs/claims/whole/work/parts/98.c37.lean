/-! the class's reader: a number -/
set_option maxRecDepth 100000 in
set_option maxHeartbeats 2000000 in
theorem k37_num {g : mh_G} {d : Nat} (hd : 4 ≤ d) {h : Nat → Int → Int} {n t tp L U : Nat} {wr s : Int → Int} {p : sx_S} (hq : sc_tq n t tp L s) (hD : sc_RD h t tp U wr s p) (hT : sc_TP h tp s) (hp : sx_pv s p) (hw : p.2.1 = 0) (hb : sx_by s) (hm : p.2.2.1 < 50) : mh_M g d yX9_readNumber cX9_readNumber 3 none n 0 0 [.ref t] h (fun r h2 => r = none ∧ mh_fr [t, t + 2] h h2 ∧ sc_RD h2 t tp U wr s (sx_nu s p)) := by
  refine mh_M_of RX9 rfl (by decide +kernel) [some (.ref t), none, none] rfl (Nat.le_of_ble_eq_true rfl) (fun f F Z hn0 hR => ?_)
  obtain ⟨q1, q2, q3, q4, q5, q6, q7, zNE, q9⟩ := id hq
  obtain ⟨D9, D5, D8, D7, -, D4, D0⟩ := id hD
  have hT4 := hT.1
  refine mh_iconst (pc := 0) F dX9_readNumber_0 ?_
  refine mh_istore1 (pc := 1) F dX9_readNumber_1 rfl (by decide) ?_
  refine mh_iconst (pc := 2) F dX9_readNumber_2 ?_
  refine mh_istore2 (pc := 3) F dX9_readNumber_3 rfl (by decide) ?_
  have L4 : ∀ (m : Nat) (v : Int) (y : Int) (qa : sx_S) (hg : Nat → Int → Int), (mh_fr [t, t + 2] h hg) → (0 ≤ y ∧ y ≤ 4) → (0 ≤ v) → (sx_dg s 4 0 p = sx_dg s (4 - y).toNat v qa) → (sc_RD hg t tp U wr s qa) → (sx_pv s qa) → (qa.2.1 = 0) → (qa.2.2.1 = p.2.2.1) → (4 - y).toNat = m → mh_V g f 3 n 0 0 4 [some (.ref t), some (.int (Int32.ofInt (v))), some (.int (Int32.ofInt (y)))] [] hg := by
    intro m
    induction m using Nat.strongRecOn with
    | _ m ihL4 =>
    intro v y qa hg frhg hy hv0 hdg hDq hpq hwq hml hmz
    refine mh_iload2 (pc := 4) F dX9_readNumber_4 ?_
    refine mh_iconst (pc := 5) F dX9_readNumber_5 ?_
    refine mh_icmp_ge (pc := 6) (tgt := 45) F dX9_readNumber_6 rfl (by omega) (by omega) (fun c_6 => ?_) (fun c_6 => ?_)
    · have hdz : sx_dg s 4 0 p = (v, qa) := hdg.trans (by rcases (show y = 4 ∨ y < 4 by omega) with z | z; rw [z]; rfl; rw [show (4 - y).toNat = (4 - (y + 1)).toNat + 1 by omega]; exact if_neg (by omega))
      obtain ⟨hq1, hq2, hq3⟩ := id hpq
      obtain ⟨zz, zv, -⟩ := sx_dg_rg hb 4 0 1 p hp (by decide) (by decide) (by decide)
      rw [hdz] at zv
      have zv2 : v < 10000 := zv.2
      have hm5 : sx_m5 qa := fun z => by omega
      have hmp : 0 ≤ qa.2.2.1 := by omega
      refine mh_aload0 (pc := 45) F dX9_readNumber_45 ?_
      refine mh_sipush (pc := 46) F dX9_readNumber_46 rfl ?_
      refine mh_iload1 (pc := 49) F dX9_readNumber_49 ?_
      refine mh_iadd (pc := 50) F dX9_readNumber_50 ?_
      refine mh_callV0 (pc := 51) (As := [.int (Int32.ofInt (1000 + v))]) (st := []) F (by omega) (k36_write (c := 1000 + v) (v := v) (by omega) hq hDq hm5 hmp (by rw [sc_de1 (by omega)]; omega) (by unfold sc_c1; omega)) wv_RX9_92_yX9_write dX9_readNumber_51 hq.1 rfl hq.2.2.2.1 rfl rfl (Nat.le_of_ble_eq_true rfl) ⟨Nat.zero_le _, Nat.zero_le _⟩ (fun r1 h1 q1 => ?_)
      obtain ⟨rfl, frw1, hDw1⟩ := q1
      have fr2 : mh_fr [t, t + 2] h h1 := (mh_fr.tr frhg frw1).mono (by simp)
      exact mh_return F Z dX9_readNumber_54 ⟨rfl, (fr2.mono (by simp)), (by unfold sx_nu; rw [hdz]; exact hDw1)⟩
    · refine mh_aload0 (pc := 9) F dX9_readNumber_9 ?_
      refine mh_callVp (pc := 10) (As := []) (st := []) F (by omega) (k36_digit (by omega) hq hDq (hT.fr (frhg tp zNE)) hpq hwq hb) wv_RX9_111_yX9_seesDigit dX9_readNumber_10 hq.1 rfl hq.2.2.2.1 rfl rfl (Nat.le_of_ble_eq_true rfl) ⟨Nat.zero_le _, Nat.zero_le _⟩ ?_
      refine mh_ifb_eq (pc := 13) (tgt := 45) F dX9_readNumber_13 rfl (fun c_13 => ?_) (fun c_13 => ?_)
      · have hdz : sx_dg s 4 0 p = (v, qa) := hdg.trans (by rcases (show y = 4 ∨ y < 4 by omega) with z | z; rw [z]; rfl; rw [show (4 - y).toNat = (4 - (y + 1)).toNat + 1 by omega]; exact if_neg (by omega))
        obtain ⟨hq1, hq2, hq3⟩ := id hpq
        obtain ⟨zz, zv, -⟩ := sx_dg_rg hb 4 0 1 p hp (by decide) (by decide) (by decide)
        rw [hdz] at zv
        have zv2 : v < 10000 := zv.2
        have hm5 : sx_m5 qa := fun z => by omega
        have hmp : 0 ≤ qa.2.2.1 := by omega
        refine mh_aload0 (pc := 45) F dX9_readNumber_45 ?_
        refine mh_sipush (pc := 46) F dX9_readNumber_46 rfl ?_
        refine mh_iload1 (pc := 49) F dX9_readNumber_49 ?_
        refine mh_iadd (pc := 50) F dX9_readNumber_50 ?_
        refine mh_callV0 (pc := 51) (As := [.int (Int32.ofInt (1000 + v))]) (st := []) F (by omega) (k36_write (c := 1000 + v) (v := v) (by omega) hq hDq hm5 hmp (by rw [sc_de1 (by omega)]; omega) (by unfold sc_c1; omega)) wv_RX9_92_yX9_write dX9_readNumber_51 hq.1 rfl hq.2.2.2.1 rfl rfl (Nat.le_of_ble_eq_true rfl) ⟨Nat.zero_le _, Nat.zero_le _⟩ (fun r3 h3 q3 => ?_)
        obtain ⟨rfl, frw3, hDw3⟩ := q3
        have fr4 : mh_fr [t, t + 2] h h3 := (mh_fr.tr frhg frw3).mono (by simp)
        exact mh_return F Z dX9_readNumber_54 ⟨rfl, (fr4.mono (by simp)), (by unfold sx_nu; rw [hdz]; exact hDw3)⟩
      · have hrz := sx_hr_z hb hpq
        have hpn : sx_pv s (sx_pa qa) := sx_pa_pv (hrz.2 (by omega)).1 hpq
        refine mh_bipush (pc := 16) F dX9_readNumber_16 rfl ?_
        refine mh_iload1 (pc := 18) F dX9_readNumber_18 ?_
        refine mh_imul (pc := 19) F dX9_readNumber_19 ?_
        refine mh_aload0 (pc := 20) F dX9_readNumber_20 ?_
        refine mh_callVp (pc := 21) (As := []) (st := [.int (Int32.ofInt (10 * v))]) F (by omega) (k36_next (by omega) hq hDq (hT.fr (frhg tp zNE)) hpq hwq) wv_RX9_102_yX9_next dX9_readNumber_21 hq.1 rfl hq.2.2.2.1 rfl rfl (Nat.le_of_ble_eq_true rfl) ⟨Nat.zero_le _, Nat.zero_le _⟩ ?_
        refine mh_iadd (pc := 24) F dX9_readNumber_24 ?_
        refine mh_bipush (pc := 25) F dX9_readNumber_25 rfl ?_
        refine mh_isub (pc := 27) F dX9_readNumber_27 ?_
        refine mh_istore1 (pc := 28) F dX9_readNumber_28 rfl (by decide) ?_
        refine mh_aload0 (pc := 29) F dX9_readNumber_29 ?_
        refine mh_dup (pc := 30) F dX9_readNumber_30 rfl ?_
        refine mh_geti (pc := 31) F hq.1 hq.2.2.2.1 fw_RX9_67_9 dX9_readNumber_31 rfl ?_
        refine mh_iconst (pc := 34) F dX9_readNumber_34 ?_
        refine mh_iadd (pc := 35) F dX9_readNumber_35 ?_
        refine mh_puti (pc := 36) F hq.1 hq.2.2.2.1 pw_RX9_67_9 dX9_readNumber_36 ?_
        refine mh_nmh (fun h5 e5 => ?_)
        have fr5 : mh_fr [t, t + 2] h h5 := mh_fr.upi frhg e5 (by simp)
        have hDn : sc_RD h5 t tp U wr s (sx_pa qa) := sc_RD_pa hDq (by rw [hDq.1]) e5
        refine mh_iinc2 (pc := 39) F dX9_readNumber_39 rfl (by decide) ?_
        refine mh_goto (pc := 42) (tgt := 4) F dX9_readNumber_42 rfl ?_
        exact ihL4 _ (by omega) (((10 * v) + (sx_hr s qa)) - 48) (y + 1) (sx_pa qa) h5 (fr5.mono (by simp)) (by omega) (by omega) (by rw [hdg, show (4 - y).toNat = (4 - (y + 1)).toNat + 1 by omega]; exact (if_pos (by omega)).trans (by congr 1)) hDn hpn hwq hml rfl
  exact L4 _ 0 0 p h (mh_fr.rf.mono (by simp)) (by omega) (by decide) rfl hD hp hw rfl rfl

