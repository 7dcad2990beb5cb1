/-! a new Text: it reads its own first words -/
def sc_s0 (i : Nat) : Int → Int := fun k => if k = 4 then ((mh_sl.getD i 0 : Nat) : Int) else mh_sB i (k - 197)
theorem sc_s0_by {i : Nat} (hi : i < 4) : sx_by (sc_s0 i) := by
  have hl := mh_sl_ok i hi
  have e4 : sc_s0 i 4 = ((mh_sl.getD i 0 : Nat) : Int) := rfl
  refine ⟨by rw [e4]; omega, fun j j0 j1 => ?_⟩
  rw [e4] at j1
  have e : sc_s0 i (197 + j) = mh_sB i j := by
    unfold sc_s0
    rw [if_neg (by omega), show 197 + j - 197 = j by omega]
  have := mh_sBat hi ⟨j0, j1⟩
  rw [e]; omega
def sc_q0 : sx_S := sc_q (sc_s0 2) (fun _ => 0) 0
def sc_q1 : sx_S := sc_q (sc_s0 3) (fun _ => 0) 1
theorem sc_q0_v : sc_q0.2.1 = 0 ∧ sc_q0.1 = 3 ∧ sc_q0.2.2.1 = 3 ∧ ∀ k : Nat, k < 3 → sc_q0.2.2.2 (k : Int) = sc_df 0 (k : Int) := by decide +kernel
theorem sc_q1_v : sc_q1.2.1 = 0 ∧ sc_q1.1 = 17 ∧ sc_q1.2.2.1 = 11 ∧ ∀ k : Nat, k < 11 → sc_q1.2.2.2 (k : Int) = sc_df 1 (k : Int) := by decide +kernel
/-- a Text as it is made -/
def sc_tz (h : Nat → Int → Int) (t U : Nat) : Prop := h t 0 = ((1000000 + U : Nat) : Int) + 1 ∧ h t 1 = (if U = 0 then 40 else 999) ∧ h t 2 = ((t + 1 : Nat) : Int) + 1 ∧ h t 4 = ((t + 2 : Nat) : Int) + 1 ∧ h t 6 = ((t + 3 : Nat) : Int) + 1 ∧ h t 3 = (if U = 0 then 3 else 11) ∧ ∀ k, 0 ≤ k → k < h t 3 → sc_de (h (t + 1) k) = sc_df (U : Int) k ∧ sc_c1 (h (t + 1) k)
theorem sc_tz_of {h h2 : Nat → Int → Int} {t U : Nat} {wr s : Int → Int} {q : sx_S} {r : Option Value} (hp : sc_rp h t U wr s q r h2) (q1 : q.2.1 = 0) (q2 : ¬ q.1 < s 4) (q3 : q.2.2.1 = (if U = 0 then 3 else 11)) (q4 : ∀ k : Nat, (k : Int) < q.2.2.1 → q.2.2.2 (k : Int) = sc_df (U : Int) (k : Int)) (w1 : wr 1 = (if U = 0 then 40 else 999)) (w2 : wr 2 = ((t + 1 : Nat) : Int) + 1) (w6 : wr 6 = ((t + 3 : Nat) : Int) + 1) : r = some (.int (Int32.ofInt (-1))) ∧ mh_fr [t, t + 1, t + 2] h h2 ∧ sc_tz h2 t U := by
  obtain ⟨hf, ⟨g0, g1, g2, g4, g6⟩, hor⟩ := hp
  rcases hor with ⟨c, -⟩ | ⟨-, rfl, g3, gc⟩
  · exfalso; omega
  · refine ⟨rfl, hf, g0, g1.trans w1, g2.trans w2, g4, g6.trans w6, g3.trans q3, fun k k0 k1 => ?_⟩
    rw [g3] at k1
    obtain ⟨c1, c2⟩ := gc k k0 k1
    have := q4 k.toNat (by omega)
    rw [Int.toNat_of_nonneg k0] at this
    exact ⟨c1.trans this, c2⟩

set_option maxRecDepth 100000 in
set_option maxHeartbeats 2000000 in
theorem q45_text_33 {g : mh_G} {d : Nat} (hd : 73 ≤ d) {h : Nat → Int → Int}  (r33 : h 33 = fun _ => (0 : Int)) : mh_M g d yX9_init cX9_init 6 none 34 4 153 [.ref 33, .ref 1000000, .ref 1000002, .int (Int32.ofInt (40))] h (fun r h2 => r = none ∧ mh_fr [33, 34, 35, 36, 37] h h2 ∧ sc_tz h2 33 0) := by
  refine mh_M_of RX9 rfl (by decide +kernel) [some (.ref 33), some (.ref 1000000), some (.ref 1000002), some (.int (Int32.ofInt (40))), none, none] rfl (Nat.le_of_ble_eq_true rfl) (fun f F Z hn0 hR => ?_)
  refine mh_aload0 (pc := 0) F dX9_init_0 ?_
  refine mh_objI (pc := 1) F (by omega) tw_1_152 (Nat.le_of_ble_eq_true rfl) dX9_init_1 ?_
  refine mh_aload0 (pc := 4) F dX9_init_4 ?_
  refine mh_bipush (pc := 5) F dX9_init_5 rfl ?_
  refine mh_newarr (t := 0) (len := 50) (n1 := 35) (cl1 := 1) (sl1 := 50) (pc := 7) F sh_34 (by decide) (by decide) rfl rfl tw_1_134 ⟨rfl, rfl, rfl⟩ (by rw [hR.1, hR.2]; exact ⟨Nat.le_of_ble_eq_true rfl, Nat.le_of_ble_eq_true rfl⟩) dX9_init_7 ?_
  refine mh_nmh (fun h1 e1 => ?_)
  have r33_1 : h1 33 = fun _ => (0 : Int) := by rw [e1, mh_zr_row (by decide)]; exact r33
  have r34_1 : h1 34 = fun _ => (0 : Int) := by rw [e1]; exact mh_zr_rs
  have fr1 : mh_fr [34] h h1 := mh_fr.zr mh_fr.rf e1
  refine mh_putFr (pc := 9) F hn0 sh_33 (by decide) qw_RX9_9_9 dX9_init_9 rfl ?_
  refine mh_nmh (fun h2 e2 => ?_)
  have r33_2 : h2 33 = mh_ur (fun _ => (0 : Int)) 2 (((34 : Nat) : Int) + 1) := by rw [e2, mh_up_rs, r33_1] <;> rfl
  have fr2 : mh_fr [33, 34] h h2 := mh_fr.up fr1 e2
  refine mh_aload0 (pc := 12) F dX9_init_12 ?_
  refine mh_bipush (pc := 13) F dX9_init_13 rfl ?_
  refine mh_newarr (t := 0) (len := 50) (n1 := 36) (cl1 := 2) (sl1 := 100) (pc := 15) F sh_35 (by decide) (by decide) rfl rfl tw_1_134 ⟨rfl, rfl, rfl⟩ (by rw [hR.1, hR.2]; exact ⟨Nat.le_of_ble_eq_true rfl, Nat.le_of_ble_eq_true rfl⟩) dX9_init_15 ?_
  refine mh_nmh (fun h3 e3 => ?_)
  have r33_3 : h3 33 = mh_ur (fun _ => (0 : Int)) 2 (((34 : Nat) : Int) + 1) := by rw [e3, mh_zr_row (by decide)]; exact r33_2
  have r35_3 : h3 35 = fun _ => (0 : Int) := by rw [e3]; exact mh_zr_rs
  have fr3 : mh_fr [35, 33, 34] h h3 := mh_fr.zr fr2 e3
  refine mh_putFr (pc := 17) F hn0 sh_33 (by decide) qw_RX9_15_9 dX9_init_17 rfl ?_
  refine mh_nmh (fun h4 e4 => ?_)
  have r33_4 : h4 33 = mh_ur (mh_ur (fun _ => (0 : Int)) 2 (((34 : Nat) : Int) + 1)) 4 (((35 : Nat) : Int) + 1) := by rw [e4, mh_up_rs, r33_3] <;> rfl
  have fr4 : mh_fr [35, 33, 34] h h4 := mh_fr.upi fr3 e4 (by simp)
  refine mh_aload0 (pc := 20) F dX9_init_20 ?_
  refine mh_bipush (pc := 21) F dX9_init_21 rfl ?_
  refine mh_newarr (t := 0) (len := 50) (n1 := 37) (cl1 := 3) (sl1 := 150) (pc := 23) F sh_36 (by decide) (by decide) rfl rfl tw_1_134 ⟨rfl, rfl, rfl⟩ (by rw [hR.1, hR.2]; exact ⟨Nat.le_of_ble_eq_true rfl, Nat.le_of_ble_eq_true rfl⟩) dX9_init_23 ?_
  refine mh_nmh (fun h5 e5 => ?_)
  have r33_5 : h5 33 = mh_ur (mh_ur (fun _ => (0 : Int)) 2 (((34 : Nat) : Int) + 1)) 4 (((35 : Nat) : Int) + 1) := by rw [e5, mh_zr_row (by decide)]; exact r33_4
  have r36_5 : h5 36 = fun _ => (0 : Int) := by rw [e5]; exact mh_zr_rs
  have fr5 : mh_fr [36, 35, 33, 34] h h5 := mh_fr.zr fr4 e5
  refine mh_putFr (pc := 25) F hn0 sh_33 (by decide) qw_RX9_18_9 dX9_init_25 rfl ?_
  refine mh_nmh (fun h6 e6 => ?_)
  have r33_6 : h6 33 = mh_ur (mh_ur (mh_ur (fun _ => (0 : Int)) 2 (((34 : Nat) : Int) + 1)) 4 (((35 : Nat) : Int) + 1)) 6 (((36 : Nat) : Int) + 1) := by rw [e6, mh_up_rs, r33_5] <;> rfl
  have fr6 : mh_fr [36, 35, 33, 34] h h6 := mh_fr.upi fr5 e6 (by simp)
  refine mh_aload0 (pc := 28) F dX9_init_28 ?_
  refine mh_aload1 (pc := 29) F dX9_init_29 ?_
  refine mh_putFr (pc := 30) F hn0 sh_33 (by decide) qw_RX9_21_9 dX9_init_30 rfl ?_
  refine mh_nmh (fun h7 e7 => ?_)
  have r33_7 : h7 33 = mh_ur (mh_ur (mh_ur (mh_ur (fun _ => (0 : Int)) 2 (((34 : Nat) : Int) + 1)) 4 (((35 : Nat) : Int) + 1)) 6 (((36 : Nat) : Int) + 1)) 0 (((1000000 : Nat) : Int) + 1) := by rw [e7, mh_up_rs, r33_6] <;> rfl
  have fr7 : mh_fr [36, 35, 33, 34] h h7 := mh_fr.upi fr6 e7 (by simp)
  refine mh_aload0 (pc := 33) F dX9_init_33 ?_
  refine mh_iload3 (pc := 34) F dX9_init_34 ?_
  refine mh_putFi (pc := 35) F hn0 sh_33 (by decide) qw_RX9_25_9 dX9_init_35 ?_
  refine mh_nmh (fun h8 e8 => ?_)
  have r33_8 : h8 33 = mh_ur (mh_ur (mh_ur (mh_ur (mh_ur (fun _ => (0 : Int)) 2 (((34 : Nat) : Int) + 1)) 4 (((35 : Nat) : Int) + 1)) 6 (((36 : Nat) : Int) + 1)) 0 (((1000000 : Nat) : Int) + 1)) 1 40 := by rw [e8, mh_up_rs, r33_7] <;> rfl
  have fr8 : mh_fr [36, 35, 33, 34] h h8 := mh_fr.upi fr7 e8 (by simp)
  refine mh_aload2 (pc := 38) F dX9_init_38 ?_
  refine mh_callVSp (pc := 39) (As := []) (st := []) F (by omega) (i := 2) (by decide) rfl (ks_len_2 (by omega)) wv_RX9_29_yJ0_length_8abf5 dX9_init_39 rfl rfl rfl (Nat.le_of_ble_eq_true rfl) (by rw [hR.1, hR.2]; exact ⟨Nat.le_of_ble_eq_true rfl, Nat.le_of_ble_eq_true rfl⟩) ?_
  refine mh_newarr (t := 2) (len := 3) (n1 := 38) (cl1 := 4) (sl1 := 153) (pc := 42) F sh_37 (by decide) (by decide) rfl rfl tw_2_108 ⟨rfl, rfl, rfl⟩ (by rw [hR.1, hR.2]; exact ⟨Nat.le_of_ble_eq_true rfl, Nat.le_of_ble_eq_true rfl⟩) dX9_init_42 ?_
  refine mh_nmh (fun h9 e9 => ?_)
  have r33_9 : h9 33 = mh_ur (mh_ur (mh_ur (mh_ur (mh_ur (fun _ => (0 : Int)) 2 (((34 : Nat) : Int) + 1)) 4 (((35 : Nat) : Int) + 1)) 6 (((36 : Nat) : Int) + 1)) 0 (((1000000 : Nat) : Int) + 1)) 1 40 := by rw [e9, mh_zr_row (by decide)]; exact r33_8
  have r37_9 : h9 37 = fun _ => (0 : Int) := by rw [e9]; exact mh_zr_rs
  have fr9 : mh_fr [37, 36, 35, 33, 34] h h9 := mh_fr.zr fr8 e9
  refine mh_astore4 (pc := 44) F dX9_init_44 rfl (by decide) ?_
  refine mh_iconst (pc := 46) F dX9_init_46 ?_
  refine mh_istore5 (pc := 47) F dX9_init_47 rfl (by decide) ?_
  refine mh_iload5 (pc := 49) F dX9_init_49 ?_
  refine mh_aload4 (pc := 51) F dX9_init_51 ?_
  refine mh_alen (pc := 53) F sh_37 (by decide) dX9_init_53 ?_
  refine mh_top (y := 3) rfl ?_
  refine mh_icmp_ge (pc := 54) (tgt := 75) F dX9_init_54 rfl (by omega) (by omega) (fun c_54 => ?_) (fun c_54 => ?_)
  · exact absurd c_54 (by decide)
  · refine mh_aload4 (pc := 57) F dX9_init_57 ?_
    refine mh_iload5 (pc := 59) F dX9_init_59 ?_
    refine mh_aload2 (pc := 61) F dX9_init_61 ?_
    refine mh_iload5 (pc := 62) F dX9_init_62 ?_
    refine mh_callVSp (pc := 64) (As := [.int (Int32.ofInt (0))]) (st := [.int (Int32.ofInt (0)), .ref 37]) F (by omega) (i := 2) (by decide) rfl (ks_char_2 (by omega) (by omega)) wv_RX9_35_yJ0_charAt_5068e dX9_init_64 rfl rfl rfl (Nat.le_of_ble_eq_true rfl) (by rw [hR.1, hR.2]; exact ⟨Nat.le_of_ble_eq_true rfl, Nat.le_of_ble_eq_true rfl⟩) ?_
    refine mh_i2b (pc := 67) F dX9_init_67 ?_
    refine mh_top (y := 116) (by decide +kernel) ?_
    refine mh_bastore (pc := 68) F sh_37 (by decide) (by omega) dX9_init_68 (by omega) ?_
    refine mh_nmh (fun h10 e10 => ?_)
    have r33_10 : h10 33 = mh_ur (mh_ur (mh_ur (mh_ur (mh_ur (fun _ => (0 : Int)) 2 (((34 : Nat) : Int) + 1)) 4 (((35 : Nat) : Int) + 1)) 6 (((36 : Nat) : Int) + 1)) 0 (((1000000 : Nat) : Int) + 1)) 1 40 := by rw [e10, mh_up_row (by decide)]; exact r33_9
    have r37_10 : h10 37 = mh_ur (fun _ => (0 : Int)) 0 116 := by rw [e10, mh_up_rs, r37_9] <;> rfl
    have fr10 : mh_fr [37, 36, 35, 33, 34] h h10 := mh_fr.upi fr9 e10 (by simp)
    refine mh_iinc5 (pc := 69) F dX9_init_69 rfl (by decide) ?_
    refine mh_goto (pc := 72) (tgt := 49) F dX9_init_72 rfl ?_
    refine mh_iload5 (pc := 49) F dX9_init_49 ?_
    refine mh_aload4 (pc := 51) F dX9_init_51 ?_
    refine mh_alen (pc := 53) F sh_37 (by decide) dX9_init_53 ?_
    refine mh_top (y := 3) rfl ?_
    refine mh_icmp_ge (pc := 54) (tgt := 75) F dX9_init_54 rfl (by omega) (by omega) (fun c_54 => ?_) (fun c_54 => ?_)
    · exact absurd c_54 (by decide)
    · refine mh_aload4 (pc := 57) F dX9_init_57 ?_
      refine mh_iload5 (pc := 59) F dX9_init_59 ?_
      refine mh_aload2 (pc := 61) F dX9_init_61 ?_
      refine mh_iload5 (pc := 62) F dX9_init_62 ?_
      refine mh_callVSp (pc := 64) (As := [.int (Int32.ofInt (1))]) (st := [.int (Int32.ofInt (1)), .ref 37]) F (by omega) (i := 2) (by decide) rfl (ks_char_2 (by omega) (by omega)) wv_RX9_35_yJ0_charAt_5068e dX9_init_64 rfl rfl rfl (Nat.le_of_ble_eq_true rfl) (by rw [hR.1, hR.2]; exact ⟨Nat.le_of_ble_eq_true rfl, Nat.le_of_ble_eq_true rfl⟩) ?_
      refine mh_i2b (pc := 67) F dX9_init_67 ?_
      refine mh_top (y := 47) (by decide +kernel) ?_
      refine mh_bastore (pc := 68) F sh_37 (by decide) (by omega) dX9_init_68 (by omega) ?_
      refine mh_nmh (fun h11 e11 => ?_)
      have r33_11 : h11 33 = mh_ur (mh_ur (mh_ur (mh_ur (mh_ur (fun _ => (0 : Int)) 2 (((34 : Nat) : Int) + 1)) 4 (((35 : Nat) : Int) + 1)) 6 (((36 : Nat) : Int) + 1)) 0 (((1000000 : Nat) : Int) + 1)) 1 40 := by rw [e11, mh_up_row (by decide)]; exact r33_10
      have r37_11 : h11 37 = mh_ur (mh_ur (fun _ => (0 : Int)) 0 116) 1 47 := by rw [e11, mh_up_rs, r37_10] <;> rfl
      have fr11 : mh_fr [37, 36, 35, 33, 34] h h11 := mh_fr.upi fr10 e11 (by simp)
      refine mh_iinc5 (pc := 69) F dX9_init_69 rfl (by decide) ?_
      refine mh_goto (pc := 72) (tgt := 49) F dX9_init_72 rfl ?_
      refine mh_iload5 (pc := 49) F dX9_init_49 ?_
      refine mh_aload4 (pc := 51) F dX9_init_51 ?_
      refine mh_alen (pc := 53) F sh_37 (by decide) dX9_init_53 ?_
      refine mh_top (y := 3) rfl ?_
      refine mh_icmp_ge (pc := 54) (tgt := 75) F dX9_init_54 rfl (by omega) (by omega) (fun c_54 => ?_) (fun c_54 => ?_)
      · exact absurd c_54 (by decide)
      · refine mh_aload4 (pc := 57) F dX9_init_57 ?_
        refine mh_iload5 (pc := 59) F dX9_init_59 ?_
        refine mh_aload2 (pc := 61) F dX9_init_61 ?_
        refine mh_iload5 (pc := 62) F dX9_init_62 ?_
        refine mh_callVSp (pc := 64) (As := [.int (Int32.ofInt (2))]) (st := [.int (Int32.ofInt (2)), .ref 37]) F (by omega) (i := 2) (by decide) rfl (ks_char_2 (by omega) (by omega)) wv_RX9_35_yJ0_charAt_5068e dX9_init_64 rfl rfl rfl (Nat.le_of_ble_eq_true rfl) (by rw [hR.1, hR.2]; exact ⟨Nat.le_of_ble_eq_true rfl, Nat.le_of_ble_eq_true rfl⟩) ?_
        refine mh_i2b (pc := 67) F dX9_init_67 ?_
        refine mh_top (y := 52) (by decide +kernel) ?_
        refine mh_bastore (pc := 68) F sh_37 (by decide) (by omega) dX9_init_68 (by omega) ?_
        refine mh_nmh (fun h12 e12 => ?_)
        have r33_12 : h12 33 = mh_ur (mh_ur (mh_ur (mh_ur (mh_ur (fun _ => (0 : Int)) 2 (((34 : Nat) : Int) + 1)) 4 (((35 : Nat) : Int) + 1)) 6 (((36 : Nat) : Int) + 1)) 0 (((1000000 : Nat) : Int) + 1)) 1 40 := by rw [e12, mh_up_row (by decide)]; exact r33_11
        have r37_12 : h12 37 = mh_ur (mh_ur (mh_ur (fun _ => (0 : Int)) 0 116) 1 47) 2 52 := by rw [e12, mh_up_rs, r37_11] <;> rfl
        have fr12 : mh_fr [37, 36, 35, 33, 34] h h12 := mh_fr.upi fr11 e12 (by simp)
        refine mh_iinc5 (pc := 69) F dX9_init_69 rfl (by decide) ?_
        refine mh_goto (pc := 72) (tgt := 49) F dX9_init_72 rfl ?_
        refine mh_iload5 (pc := 49) F dX9_init_49 ?_
        refine mh_aload4 (pc := 51) F dX9_init_51 ?_
        refine mh_alen (pc := 53) F sh_37 (by decide) dX9_init_53 ?_
        refine mh_top (y := 3) rfl ?_
        refine mh_icmp_ge (pc := 54) (tgt := 75) F dX9_init_54 rfl (by omega) (by omega) (fun c_54 => ?_) (fun c_54 => ?_)
        · refine mh_aload0 (pc := 75) F dX9_init_75 ?_
          refine mh_aload4 (pc := 76) F dX9_init_76 ?_
          refine mh_aload4 (pc := 78) F dX9_init_78 ?_
          refine mh_alen (pc := 80) F sh_37 (by decide) dX9_init_80 ?_
          refine mh_top (y := sc_s0 2 4) (by decide +kernel) ?_
          have hsb : ∀ k : Nat, k < 3 → mh_and ((mh_ur (mh_ur (mh_ur (fun _ => (0 : Int)) 0 116) 1 47) 2 52 : Int → Int) (k : Int)) 255 = sc_s0 2 (197 + (k : Int)) := by decide +kernel
          have hs4 : sc_s0 2 4 = 3 := by decide +kernel
          have hTP : sc_TP h12 37 (sc_s0 2) := ⟨by decide +kernel, fun i i0 i1 => by rw [r37_12]; have z := hsb i.toNat (by rw [hs4] at i1; omega); rw [Int.toNat_of_nonneg i0] at z; exact z⟩
          refine mh_callV0 (pc := 81) (As := [.ref 37, .int (Int32.ofInt (sc_s0 2 4))]) (st := []) F (by omega) (k40_read (n := 38) (L := 3) (t := 33) (tp := 37) (U := 0) (s := sc_s0 2) (fr := fun _ => 0) (by omega) r33_12 ⟨sh_33, sh_35, sh_37, by decide, by decide, by decide, by decide +kernel, by decide, by decide⟩ ⟨sh_34, by decide⟩ (by decide +kernel) (by decide +kernel) (by decide +kernel) hTP (sc_s0_by (by decide)) (by decide)) wv_RX9_39_yX9_read dX9_init_81 sh_33 rfl (by decide) rfl rfl (Nat.le_of_ble_eq_true rfl) (by rw [hR.1, hR.2]; exact ⟨Nat.le_of_ble_eq_true rfl, Nat.le_of_ble_eq_true rfl⟩) (fun r13 h13 q13 => ?_)
          obtain ⟨rfl, fr13, ht0⟩ := sc_tz_of (q := sc_q0) q13 sc_q0_v.1 (by rw [sc_q0_v.2.1]; decide +kernel) (by rw [sc_q0_v.2.2.1]; rfl) (fun k hk => sc_q0_v.2.2.2 k (by rw [sc_q0_v.2.2.1] at hk; omega)) (by decide +kernel) (by decide +kernel) (by decide +kernel)
          have r37_14 : h13 37 = mh_ur (mh_ur (mh_ur (fun _ => (0 : Int)) 0 116) 1 47) 2 52 := (fr13 _ (by decide)).trans r37_12
          have fr14 : mh_fr [37, 36, 35, 33, 34] h h13 := (mh_fr.tr fr12 fr13).mono (by simp)
          refine mh_pop (pc := 84) F dX9_init_84 rfl ?_
          exact mh_return F Z dX9_init_85 ⟨rfl, (fr14.mono (by simp)), ht0⟩
        · exact absurd c_54 (by decide)

set_option maxRecDepth 100000 in
set_option maxHeartbeats 2000000 in
theorem q45_text_38 {g : mh_G} {d : Nat} (hd : 73 ≤ d) {h : Nat → Int → Int}  (r38 : h 38 = fun _ => (0 : Int)) : mh_M g d yX9_init cX9_init 6 none 39 4 167 [.ref 38, .ref 1000001, .ref 1000003, .int (Int32.ofInt (999))] h (fun r h2 => r = none ∧ mh_fr [38, 39, 40, 41, 42] h h2 ∧ sc_tz h2 38 1) := by
  refine mh_M_of RX9 rfl (by decide +kernel) [some (.ref 38), some (.ref 1000001), some (.ref 1000003), some (.int (Int32.ofInt (999))), none, none] rfl (Nat.le_of_ble_eq_true rfl) (fun f F Z hn0 hR => ?_)
  refine mh_aload0 (pc := 0) F dX9_init_0 ?_
  refine mh_objI (pc := 1) F (by omega) tw_1_152 (Nat.le_of_ble_eq_true rfl) dX9_init_1 ?_
  refine mh_aload0 (pc := 4) F dX9_init_4 ?_
  refine mh_bipush (pc := 5) F dX9_init_5 rfl ?_
  refine mh_newarr (t := 0) (len := 50) (n1 := 40) (cl1 := 1) (sl1 := 50) (pc := 7) F sh_39 (by decide) (by decide) rfl rfl tw_1_134 ⟨rfl, rfl, rfl⟩ (by rw [hR.1, hR.2]; exact ⟨Nat.le_of_ble_eq_true rfl, Nat.le_of_ble_eq_true rfl⟩) dX9_init_7 ?_
  refine mh_nmh (fun h1 e1 => ?_)
  have r38_1 : h1 38 = fun _ => (0 : Int) := by rw [e1, mh_zr_row (by decide)]; exact r38
  have r39_1 : h1 39 = fun _ => (0 : Int) := by rw [e1]; exact mh_zr_rs
  have fr1 : mh_fr [39] h h1 := mh_fr.zr mh_fr.rf e1
  refine mh_putFr (pc := 9) F hn0 sh_38 (by decide) qw_RX9_9_9 dX9_init_9 rfl ?_
  refine mh_nmh (fun h2 e2 => ?_)
  have r38_2 : h2 38 = mh_ur (fun _ => (0 : Int)) 2 (((39 : Nat) : Int) + 1) := by rw [e2, mh_up_rs, r38_1] <;> rfl
  have fr2 : mh_fr [38, 39] h h2 := mh_fr.up fr1 e2
  refine mh_aload0 (pc := 12) F dX9_init_12 ?_
  refine mh_bipush (pc := 13) F dX9_init_13 rfl ?_
  refine mh_newarr (t := 0) (len := 50) (n1 := 41) (cl1 := 2) (sl1 := 100) (pc := 15) F sh_40 (by decide) (by decide) rfl rfl tw_1_134 ⟨rfl, rfl, rfl⟩ (by rw [hR.1, hR.2]; exact ⟨Nat.le_of_ble_eq_true rfl, Nat.le_of_ble_eq_true rfl⟩) dX9_init_15 ?_
  refine mh_nmh (fun h3 e3 => ?_)
  have r38_3 : h3 38 = mh_ur (fun _ => (0 : Int)) 2 (((39 : Nat) : Int) + 1) := by rw [e3, mh_zr_row (by decide)]; exact r38_2
  have r40_3 : h3 40 = fun _ => (0 : Int) := by rw [e3]; exact mh_zr_rs
  have fr3 : mh_fr [40, 38, 39] h h3 := mh_fr.zr fr2 e3
  refine mh_putFr (pc := 17) F hn0 sh_38 (by decide) qw_RX9_15_9 dX9_init_17 rfl ?_
  refine mh_nmh (fun h4 e4 => ?_)
  have r38_4 : h4 38 = mh_ur (mh_ur (fun _ => (0 : Int)) 2 (((39 : Nat) : Int) + 1)) 4 (((40 : Nat) : Int) + 1) := by rw [e4, mh_up_rs, r38_3] <;> rfl
  have fr4 : mh_fr [40, 38, 39] h h4 := mh_fr.upi fr3 e4 (by simp)
  refine mh_aload0 (pc := 20) F dX9_init_20 ?_
  refine mh_bipush (pc := 21) F dX9_init_21 rfl ?_
  refine mh_newarr (t := 0) (len := 50) (n1 := 42) (cl1 := 3) (sl1 := 150) (pc := 23) F sh_41 (by decide) (by decide) rfl rfl tw_1_134 ⟨rfl, rfl, rfl⟩ (by rw [hR.1, hR.2]; exact ⟨Nat.le_of_ble_eq_true rfl, Nat.le_of_ble_eq_true rfl⟩) dX9_init_23 ?_
  refine mh_nmh (fun h5 e5 => ?_)
  have r38_5 : h5 38 = mh_ur (mh_ur (fun _ => (0 : Int)) 2 (((39 : Nat) : Int) + 1)) 4 (((40 : Nat) : Int) + 1) := by rw [e5, mh_zr_row (by decide)]; exact r38_4
  have r41_5 : h5 41 = fun _ => (0 : Int) := by rw [e5]; exact mh_zr_rs
  have fr5 : mh_fr [41, 40, 38, 39] h h5 := mh_fr.zr fr4 e5
  refine mh_putFr (pc := 25) F hn0 sh_38 (by decide) qw_RX9_18_9 dX9_init_25 rfl ?_
  refine mh_nmh (fun h6 e6 => ?_)
  have r38_6 : h6 38 = mh_ur (mh_ur (mh_ur (fun _ => (0 : Int)) 2 (((39 : Nat) : Int) + 1)) 4 (((40 : Nat) : Int) + 1)) 6 (((41 : Nat) : Int) + 1) := by rw [e6, mh_up_rs, r38_5] <;> rfl
  have fr6 : mh_fr [41, 40, 38, 39] h h6 := mh_fr.upi fr5 e6 (by simp)
  refine mh_aload0 (pc := 28) F dX9_init_28 ?_
  refine mh_aload1 (pc := 29) F dX9_init_29 ?_
  refine mh_putFr (pc := 30) F hn0 sh_38 (by decide) qw_RX9_21_9 dX9_init_30 rfl ?_
  refine mh_nmh (fun h7 e7 => ?_)
  have r38_7 : h7 38 = mh_ur (mh_ur (mh_ur (mh_ur (fun _ => (0 : Int)) 2 (((39 : Nat) : Int) + 1)) 4 (((40 : Nat) : Int) + 1)) 6 (((41 : Nat) : Int) + 1)) 0 (((1000001 : Nat) : Int) + 1) := by rw [e7, mh_up_rs, r38_6] <;> rfl
  have fr7 : mh_fr [41, 40, 38, 39] h h7 := mh_fr.upi fr6 e7 (by simp)
  refine mh_aload0 (pc := 33) F dX9_init_33 ?_
  refine mh_iload3 (pc := 34) F dX9_init_34 ?_
  refine mh_putFi (pc := 35) F hn0 sh_38 (by decide) qw_RX9_25_9 dX9_init_35 ?_
  refine mh_nmh (fun h8 e8 => ?_)
  have r38_8 : h8 38 = mh_ur (mh_ur (mh_ur (mh_ur (mh_ur (fun _ => (0 : Int)) 2 (((39 : Nat) : Int) + 1)) 4 (((40 : Nat) : Int) + 1)) 6 (((41 : Nat) : Int) + 1)) 0 (((1000001 : Nat) : Int) + 1)) 1 999 := by rw [e8, mh_up_rs, r38_7] <;> rfl
  have fr8 : mh_fr [41, 40, 38, 39] h h8 := mh_fr.upi fr7 e8 (by simp)
  refine mh_aload2 (pc := 38) F dX9_init_38 ?_
  refine mh_callVSp (pc := 39) (As := []) (st := []) F (by omega) (i := 3) (by decide) rfl (ks_len_3 (by omega)) wv_RX9_29_yJ0_length_8abf5 dX9_init_39 rfl rfl rfl (Nat.le_of_ble_eq_true rfl) (by rw [hR.1, hR.2]; exact ⟨Nat.le_of_ble_eq_true rfl, Nat.le_of_ble_eq_true rfl⟩) ?_
  refine mh_newarr (t := 2) (len := 17) (n1 := 43) (cl1 := 4) (sl1 := 167) (pc := 42) F sh_42 (by decide) (by decide) rfl rfl tw_2_108 ⟨rfl, rfl, rfl⟩ (by rw [hR.1, hR.2]; exact ⟨Nat.le_of_ble_eq_true rfl, Nat.le_of_ble_eq_true rfl⟩) dX9_init_42 ?_
  refine mh_nmh (fun h9 e9 => ?_)
  have r38_9 : h9 38 = mh_ur (mh_ur (mh_ur (mh_ur (mh_ur (fun _ => (0 : Int)) 2 (((39 : Nat) : Int) + 1)) 4 (((40 : Nat) : Int) + 1)) 6 (((41 : Nat) : Int) + 1)) 0 (((1000001 : Nat) : Int) + 1)) 1 999 := by rw [e9, mh_zr_row (by decide)]; exact r38_8
  have r42_9 : h9 42 = fun _ => (0 : Int) := by rw [e9]; exact mh_zr_rs
  have fr9 : mh_fr [42, 41, 40, 38, 39] h h9 := mh_fr.zr fr8 e9
  refine mh_astore4 (pc := 44) F dX9_init_44 rfl (by decide) ?_
  refine mh_iconst (pc := 46) F dX9_init_46 ?_
  refine mh_istore5 (pc := 47) F dX9_init_47 rfl (by decide) ?_
  refine mh_iload5 (pc := 49) F dX9_init_49 ?_
  refine mh_aload4 (pc := 51) F dX9_init_51 ?_
  refine mh_alen (pc := 53) F sh_42 (by decide) dX9_init_53 ?_
  refine mh_top (y := 17) rfl ?_
  refine mh_icmp_ge (pc := 54) (tgt := 75) F dX9_init_54 rfl (by omega) (by omega) (fun c_54 => ?_) (fun c_54 => ?_)
  · exact absurd c_54 (by decide)
  · refine mh_aload4 (pc := 57) F dX9_init_57 ?_
    refine mh_iload5 (pc := 59) F dX9_init_59 ?_
    refine mh_aload2 (pc := 61) F dX9_init_61 ?_
    refine mh_iload5 (pc := 62) F dX9_init_62 ?_
    refine mh_callVSp (pc := 64) (As := [.int (Int32.ofInt (0))]) (st := [.int (Int32.ofInt (0)), .ref 42]) F (by omega) (i := 3) (by decide) rfl (ks_char_3 (by omega) (by omega)) wv_RX9_35_yJ0_charAt_5068e dX9_init_64 rfl rfl rfl (Nat.le_of_ble_eq_true rfl) (by rw [hR.1, hR.2]; exact ⟨Nat.le_of_ble_eq_true rfl, Nat.le_of_ble_eq_true rfl⟩) ?_
    refine mh_i2b (pc := 67) F dX9_init_67 ?_
    refine mh_top (y := 40) (by decide +kernel) ?_
    refine mh_bastore (pc := 68) F sh_42 (by decide) (by omega) dX9_init_68 (by omega) ?_
    refine mh_nmh (fun h10 e10 => ?_)
    have r38_10 : h10 38 = mh_ur (mh_ur (mh_ur (mh_ur (mh_ur (fun _ => (0 : Int)) 2 (((39 : Nat) : Int) + 1)) 4 (((40 : Nat) : Int) + 1)) 6 (((41 : Nat) : Int) + 1)) 0 (((1000001 : Nat) : Int) + 1)) 1 999 := by rw [e10, mh_up_row (by decide)]; exact r38_9
    have r42_10 : h10 42 = mh_ur (fun _ => (0 : Int)) 0 40 := by rw [e10, mh_up_rs, r42_9] <;> rfl
    have fr10 : mh_fr [42, 41, 40, 38, 39] h h10 := mh_fr.upi fr9 e10 (by simp)
    refine mh_iinc5 (pc := 69) F dX9_init_69 rfl (by decide) ?_
    refine mh_goto (pc := 72) (tgt := 49) F dX9_init_72 rfl ?_
    refine mh_iload5 (pc := 49) F dX9_init_49 ?_
    refine mh_aload4 (pc := 51) F dX9_init_51 ?_
    refine mh_alen (pc := 53) F sh_42 (by decide) dX9_init_53 ?_
    refine mh_top (y := 17) rfl ?_
    refine mh_icmp_ge (pc := 54) (tgt := 75) F dX9_init_54 rfl (by omega) (by omega) (fun c_54 => ?_) (fun c_54 => ?_)
    · exact absurd c_54 (by decide)
    · refine mh_aload4 (pc := 57) F dX9_init_57 ?_
      refine mh_iload5 (pc := 59) F dX9_init_59 ?_
      refine mh_aload2 (pc := 61) F dX9_init_61 ?_
      refine mh_iload5 (pc := 62) F dX9_init_62 ?_
      refine mh_callVSp (pc := 64) (As := [.int (Int32.ofInt (1))]) (st := [.int (Int32.ofInt (1)), .ref 42]) F (by omega) (i := 3) (by decide) rfl (ks_char_3 (by omega) (by omega)) wv_RX9_35_yJ0_charAt_5068e dX9_init_64 rfl rfl rfl (Nat.le_of_ble_eq_true rfl) (by rw [hR.1, hR.2]; exact ⟨Nat.le_of_ble_eq_true rfl, Nat.le_of_ble_eq_true rfl⟩) ?_
      refine mh_i2b (pc := 67) F dX9_init_67 ?_
      refine mh_top (y := 115) (by decide +kernel) ?_
      refine mh_bastore (pc := 68) F sh_42 (by decide) (by omega) dX9_init_68 (by omega) ?_
      refine mh_nmh (fun h11 e11 => ?_)
      have r38_11 : h11 38 = mh_ur (mh_ur (mh_ur (mh_ur (mh_ur (fun _ => (0 : Int)) 2 (((39 : Nat) : Int) + 1)) 4 (((40 : Nat) : Int) + 1)) 6 (((41 : Nat) : Int) + 1)) 0 (((1000001 : Nat) : Int) + 1)) 1 999 := by rw [e11, mh_up_row (by decide)]; exact r38_10
      have r42_11 : h11 42 = mh_ur (mh_ur (fun _ => (0 : Int)) 0 40) 1 115 := by rw [e11, mh_up_rs, r42_10] <;> rfl
      have fr11 : mh_fr [42, 41, 40, 38, 39] h h11 := mh_fr.upi fr10 e11 (by simp)
      refine mh_iinc5 (pc := 69) F dX9_init_69 rfl (by decide) ?_
      refine mh_goto (pc := 72) (tgt := 49) F dX9_init_72 rfl ?_
      refine mh_iload5 (pc := 49) F dX9_init_49 ?_
      refine mh_aload4 (pc := 51) F dX9_init_51 ?_
      refine mh_alen (pc := 53) F sh_42 (by decide) dX9_init_53 ?_
      refine mh_top (y := 17) rfl ?_
      refine mh_icmp_ge (pc := 54) (tgt := 75) F dX9_init_54 rfl (by omega) (by omega) (fun c_54 => ?_) (fun c_54 => ?_)
      · exact absurd c_54 (by decide)
      · refine mh_aload4 (pc := 57) F dX9_init_57 ?_
        refine mh_iload5 (pc := 59) F dX9_init_59 ?_
        refine mh_aload2 (pc := 61) F dX9_init_61 ?_
        refine mh_iload5 (pc := 62) F dX9_init_62 ?_
        refine mh_callVSp (pc := 64) (As := [.int (Int32.ofInt (2))]) (st := [.int (Int32.ofInt (2)), .ref 42]) F (by omega) (i := 3) (by decide) rfl (ks_char_3 (by omega) (by omega)) wv_RX9_35_yJ0_charAt_5068e dX9_init_64 rfl rfl rfl (Nat.le_of_ble_eq_true rfl) (by rw [hR.1, hR.2]; exact ⟨Nat.le_of_ble_eq_true rfl, Nat.le_of_ble_eq_true rfl⟩) ?_
        refine mh_i2b (pc := 67) F dX9_init_67 ?_
        refine mh_top (y := 61) (by decide +kernel) ?_
        refine mh_bastore (pc := 68) F sh_42 (by decide) (by omega) dX9_init_68 (by omega) ?_
        refine mh_nmh (fun h12 e12 => ?_)
        have r38_12 : h12 38 = mh_ur (mh_ur (mh_ur (mh_ur (mh_ur (fun _ => (0 : Int)) 2 (((39 : Nat) : Int) + 1)) 4 (((40 : Nat) : Int) + 1)) 6 (((41 : Nat) : Int) + 1)) 0 (((1000001 : Nat) : Int) + 1)) 1 999 := by rw [e12, mh_up_row (by decide)]; exact r38_11
        have r42_12 : h12 42 = mh_ur (mh_ur (mh_ur (fun _ => (0 : Int)) 0 40) 1 115) 2 61 := by rw [e12, mh_up_rs, r42_11] <;> rfl
        have fr12 : mh_fr [42, 41, 40, 38, 39] h h12 := mh_fr.upi fr11 e12 (by simp)
        refine mh_iinc5 (pc := 69) F dX9_init_69 rfl (by decide) ?_
        refine mh_goto (pc := 72) (tgt := 49) F dX9_init_72 rfl ?_
        refine mh_iload5 (pc := 49) F dX9_init_49 ?_
        refine mh_aload4 (pc := 51) F dX9_init_51 ?_
        refine mh_alen (pc := 53) F sh_42 (by decide) dX9_init_53 ?_
        refine mh_top (y := 17) rfl ?_
        refine mh_icmp_ge (pc := 54) (tgt := 75) F dX9_init_54 rfl (by omega) (by omega) (fun c_54 => ?_) (fun c_54 => ?_)
        · exact absurd c_54 (by decide)
        · refine mh_aload4 (pc := 57) F dX9_init_57 ?_
          refine mh_iload5 (pc := 59) F dX9_init_59 ?_
          refine mh_aload2 (pc := 61) F dX9_init_61 ?_
          refine mh_iload5 (pc := 62) F dX9_init_62 ?_
          refine mh_callVSp (pc := 64) (As := [.int (Int32.ofInt (3))]) (st := [.int (Int32.ofInt (3)), .ref 42]) F (by omega) (i := 3) (by decide) rfl (ks_char_3 (by omega) (by omega)) wv_RX9_35_yJ0_charAt_5068e dX9_init_64 rfl rfl rfl (Nat.le_of_ble_eq_true rfl) (by rw [hR.1, hR.2]; exact ⟨Nat.le_of_ble_eq_true rfl, Nat.le_of_ble_eq_true rfl⟩) ?_
          refine mh_i2b (pc := 67) F dX9_init_67 ?_
          refine mh_top (y := 48) (by decide +kernel) ?_
          refine mh_bastore (pc := 68) F sh_42 (by decide) (by omega) dX9_init_68 (by omega) ?_
          refine mh_nmh (fun h13 e13 => ?_)
          have r38_13 : h13 38 = mh_ur (mh_ur (mh_ur (mh_ur (mh_ur (fun _ => (0 : Int)) 2 (((39 : Nat) : Int) + 1)) 4 (((40 : Nat) : Int) + 1)) 6 (((41 : Nat) : Int) + 1)) 0 (((1000001 : Nat) : Int) + 1)) 1 999 := by rw [e13, mh_up_row (by decide)]; exact r38_12
          have r42_13 : h13 42 = mh_ur (mh_ur (mh_ur (mh_ur (fun _ => (0 : Int)) 0 40) 1 115) 2 61) 3 48 := by rw [e13, mh_up_rs, r42_12] <;> rfl
          have fr13 : mh_fr [42, 41, 40, 38, 39] h h13 := mh_fr.upi fr12 e13 (by simp)
          refine mh_iinc5 (pc := 69) F dX9_init_69 rfl (by decide) ?_
          refine mh_goto (pc := 72) (tgt := 49) F dX9_init_72 rfl ?_
          refine mh_iload5 (pc := 49) F dX9_init_49 ?_
          refine mh_aload4 (pc := 51) F dX9_init_51 ?_
          refine mh_alen (pc := 53) F sh_42 (by decide) dX9_init_53 ?_
          refine mh_top (y := 17) rfl ?_
          refine mh_icmp_ge (pc := 54) (tgt := 75) F dX9_init_54 rfl (by omega) (by omega) (fun c_54 => ?_) (fun c_54 => ?_)
          · exact absurd c_54 (by decide)
          · refine mh_aload4 (pc := 57) F dX9_init_57 ?_
            refine mh_iload5 (pc := 59) F dX9_init_59 ?_
            refine mh_aload2 (pc := 61) F dX9_init_61 ?_
            refine mh_iload5 (pc := 62) F dX9_init_62 ?_
            refine mh_callVSp (pc := 64) (As := [.int (Int32.ofInt (4))]) (st := [.int (Int32.ofInt (4)), .ref 42]) F (by omega) (i := 3) (by decide) rfl (ks_char_3 (by omega) (by omega)) wv_RX9_35_yJ0_charAt_5068e dX9_init_64 rfl rfl rfl (Nat.le_of_ble_eq_true rfl) (by rw [hR.1, hR.2]; exact ⟨Nat.le_of_ble_eq_true rfl, Nat.le_of_ble_eq_true rfl⟩) ?_
            refine mh_i2b (pc := 67) F dX9_init_67 ?_
            refine mh_top (y := 41) (by decide +kernel) ?_
            refine mh_bastore (pc := 68) F sh_42 (by decide) (by omega) dX9_init_68 (by omega) ?_
            refine mh_nmh (fun h14 e14 => ?_)
            have r38_14 : h14 38 = mh_ur (mh_ur (mh_ur (mh_ur (mh_ur (fun _ => (0 : Int)) 2 (((39 : Nat) : Int) + 1)) 4 (((40 : Nat) : Int) + 1)) 6 (((41 : Nat) : Int) + 1)) 0 (((1000001 : Nat) : Int) + 1)) 1 999 := by rw [e14, mh_up_row (by decide)]; exact r38_13
            have r42_14 : h14 42 = mh_ur (mh_ur (mh_ur (mh_ur (mh_ur (fun _ => (0 : Int)) 0 40) 1 115) 2 61) 3 48) 4 41 := by rw [e14, mh_up_rs, r42_13] <;> rfl
            have fr14 : mh_fr [42, 41, 40, 38, 39] h h14 := mh_fr.upi fr13 e14 (by simp)
            refine mh_iinc5 (pc := 69) F dX9_init_69 rfl (by decide) ?_
            refine mh_goto (pc := 72) (tgt := 49) F dX9_init_72 rfl ?_
            refine mh_iload5 (pc := 49) F dX9_init_49 ?_
            refine mh_aload4 (pc := 51) F dX9_init_51 ?_
            refine mh_alen (pc := 53) F sh_42 (by decide) dX9_init_53 ?_
            refine mh_top (y := 17) rfl ?_
            refine mh_icmp_ge (pc := 54) (tgt := 75) F dX9_init_54 rfl (by omega) (by omega) (fun c_54 => ?_) (fun c_54 => ?_)
            · exact absurd c_54 (by decide)
            · refine mh_aload4 (pc := 57) F dX9_init_57 ?_
              refine mh_iload5 (pc := 59) F dX9_init_59 ?_
              refine mh_aload2 (pc := 61) F dX9_init_61 ?_
              refine mh_iload5 (pc := 62) F dX9_init_62 ?_
              refine mh_callVSp (pc := 64) (As := [.int (Int32.ofInt (5))]) (st := [.int (Int32.ofInt (5)), .ref 42]) F (by omega) (i := 3) (by decide) rfl (ks_char_3 (by omega) (by omega)) wv_RX9_35_yJ0_charAt_5068e dX9_init_64 rfl rfl rfl (Nat.le_of_ble_eq_true rfl) (by rw [hR.1, hR.2]; exact ⟨Nat.le_of_ble_eq_true rfl, Nat.le_of_ble_eq_true rfl⟩) ?_
              refine mh_i2b (pc := 67) F dX9_init_67 ?_
              refine mh_top (y := 42) (by decide +kernel) ?_
              refine mh_bastore (pc := 68) F sh_42 (by decide) (by omega) dX9_init_68 (by omega) ?_
              refine mh_nmh (fun h15 e15 => ?_)
              have r38_15 : h15 38 = mh_ur (mh_ur (mh_ur (mh_ur (mh_ur (fun _ => (0 : Int)) 2 (((39 : Nat) : Int) + 1)) 4 (((40 : Nat) : Int) + 1)) 6 (((41 : Nat) : Int) + 1)) 0 (((1000001 : Nat) : Int) + 1)) 1 999 := by rw [e15, mh_up_row (by decide)]; exact r38_14
              have r42_15 : h15 42 = mh_ur (mh_ur (mh_ur (mh_ur (mh_ur (mh_ur (fun _ => (0 : Int)) 0 40) 1 115) 2 61) 3 48) 4 41) 5 42 := by rw [e15, mh_up_rs, r42_14] <;> rfl
              have fr15 : mh_fr [42, 41, 40, 38, 39] h h15 := mh_fr.upi fr14 e15 (by simp)
              refine mh_iinc5 (pc := 69) F dX9_init_69 rfl (by decide) ?_
              refine mh_goto (pc := 72) (tgt := 49) F dX9_init_72 rfl ?_
              refine mh_iload5 (pc := 49) F dX9_init_49 ?_
              refine mh_aload4 (pc := 51) F dX9_init_51 ?_
              refine mh_alen (pc := 53) F sh_42 (by decide) dX9_init_53 ?_
              refine mh_top (y := 17) rfl ?_
              refine mh_icmp_ge (pc := 54) (tgt := 75) F dX9_init_54 rfl (by omega) (by omega) (fun c_54 => ?_) (fun c_54 => ?_)
              · exact absurd c_54 (by decide)
              · refine mh_aload4 (pc := 57) F dX9_init_57 ?_
                refine mh_iload5 (pc := 59) F dX9_init_59 ?_
                refine mh_aload2 (pc := 61) F dX9_init_61 ?_
                refine mh_iload5 (pc := 62) F dX9_init_62 ?_
                refine mh_callVSp (pc := 64) (As := [.int (Int32.ofInt (6))]) (st := [.int (Int32.ofInt (6)), .ref 42]) F (by omega) (i := 3) (by decide) rfl (ks_char_3 (by omega) (by omega)) wv_RX9_35_yJ0_charAt_5068e dX9_init_64 rfl rfl rfl (Nat.le_of_ble_eq_true rfl) (by rw [hR.1, hR.2]; exact ⟨Nat.le_of_ble_eq_true rfl, Nat.le_of_ble_eq_true rfl⟩) ?_
                refine mh_i2b (pc := 67) F dX9_init_67 ?_
                refine mh_top (y := 53) (by decide +kernel) ?_
                refine mh_bastore (pc := 68) F sh_42 (by decide) (by omega) dX9_init_68 (by omega) ?_
                refine mh_nmh (fun h16 e16 => ?_)
                have r38_16 : h16 38 = mh_ur (mh_ur (mh_ur (mh_ur (mh_ur (fun _ => (0 : Int)) 2 (((39 : Nat) : Int) + 1)) 4 (((40 : Nat) : Int) + 1)) 6 (((41 : Nat) : Int) + 1)) 0 (((1000001 : Nat) : Int) + 1)) 1 999 := by rw [e16, mh_up_row (by decide)]; exact r38_15
                have r42_16 : h16 42 = mh_ur (mh_ur (mh_ur (mh_ur (mh_ur (mh_ur (mh_ur (fun _ => (0 : Int)) 0 40) 1 115) 2 61) 3 48) 4 41) 5 42) 6 53 := by rw [e16, mh_up_rs, r42_15] <;> rfl
                have fr16 : mh_fr [42, 41, 40, 38, 39] h h16 := mh_fr.upi fr15 e16 (by simp)
                refine mh_iinc5 (pc := 69) F dX9_init_69 rfl (by decide) ?_
                refine mh_goto (pc := 72) (tgt := 49) F dX9_init_72 rfl ?_
                refine mh_iload5 (pc := 49) F dX9_init_49 ?_
                refine mh_aload4 (pc := 51) F dX9_init_51 ?_
                refine mh_alen (pc := 53) F sh_42 (by decide) dX9_init_53 ?_
                refine mh_top (y := 17) rfl ?_
                refine mh_icmp_ge (pc := 54) (tgt := 75) F dX9_init_54 rfl (by omega) (by omega) (fun c_54 => ?_) (fun c_54 => ?_)
                · exact absurd c_54 (by decide)
                · refine mh_aload4 (pc := 57) F dX9_init_57 ?_
                  refine mh_iload5 (pc := 59) F dX9_init_59 ?_
                  refine mh_aload2 (pc := 61) F dX9_init_61 ?_
                  refine mh_iload5 (pc := 62) F dX9_init_62 ?_
                  refine mh_callVSp (pc := 64) (As := [.int (Int32.ofInt (7))]) (st := [.int (Int32.ofInt (7)), .ref 42]) F (by omega) (i := 3) (by decide) rfl (ks_char_3 (by omega) (by omega)) wv_RX9_35_yJ0_charAt_5068e dX9_init_64 rfl rfl rfl (Nat.le_of_ble_eq_true rfl) (by rw [hR.1, hR.2]; exact ⟨Nat.le_of_ble_eq_true rfl, Nat.le_of_ble_eq_true rfl⟩) ?_
                  refine mh_i2b (pc := 67) F dX9_init_67 ?_
                  refine mh_top (y := 48) (by decide +kernel) ?_
                  refine mh_bastore (pc := 68) F sh_42 (by decide) (by omega) dX9_init_68 (by omega) ?_
                  refine mh_nmh (fun h17 e17 => ?_)
                  have r38_17 : h17 38 = mh_ur (mh_ur (mh_ur (mh_ur (mh_ur (fun _ => (0 : Int)) 2 (((39 : Nat) : Int) + 1)) 4 (((40 : Nat) : Int) + 1)) 6 (((41 : Nat) : Int) + 1)) 0 (((1000001 : Nat) : Int) + 1)) 1 999 := by rw [e17, mh_up_row (by decide)]; exact r38_16
                  have r42_17 : h17 42 = mh_ur (mh_ur (mh_ur (mh_ur (mh_ur (mh_ur (mh_ur (mh_ur (fun _ => (0 : Int)) 0 40) 1 115) 2 61) 3 48) 4 41) 5 42) 6 53) 7 48 := by rw [e17, mh_up_rs, r42_16] <;> rfl
                  have fr17 : mh_fr [42, 41, 40, 38, 39] h h17 := mh_fr.upi fr16 e17 (by simp)
                  refine mh_iinc5 (pc := 69) F dX9_init_69 rfl (by decide) ?_
                  refine mh_goto (pc := 72) (tgt := 49) F dX9_init_72 rfl ?_
                  refine mh_iload5 (pc := 49) F dX9_init_49 ?_
                  refine mh_aload4 (pc := 51) F dX9_init_51 ?_
                  refine mh_alen (pc := 53) F sh_42 (by decide) dX9_init_53 ?_
                  refine mh_top (y := 17) rfl ?_
                  refine mh_icmp_ge (pc := 54) (tgt := 75) F dX9_init_54 rfl (by omega) (by omega) (fun c_54 => ?_) (fun c_54 => ?_)
                  · exact absurd c_54 (by decide)
                  · refine mh_aload4 (pc := 57) F dX9_init_57 ?_
                    refine mh_iload5 (pc := 59) F dX9_init_59 ?_
                    refine mh_aload2 (pc := 61) F dX9_init_61 ?_
                    refine mh_iload5 (pc := 62) F dX9_init_62 ?_
                    refine mh_callVSp (pc := 64) (As := [.int (Int32.ofInt (8))]) (st := [.int (Int32.ofInt (8)), .ref 42]) F (by omega) (i := 3) (by decide) rfl (ks_char_3 (by omega) (by omega)) wv_RX9_35_yJ0_charAt_5068e dX9_init_64 rfl rfl rfl (Nat.le_of_ble_eq_true rfl) (by rw [hR.1, hR.2]; exact ⟨Nat.le_of_ble_eq_true rfl, Nat.le_of_ble_eq_true rfl⟩) ?_
                    refine mh_i2b (pc := 67) F dX9_init_67 ?_
                    refine mh_top (y := 43) (by decide +kernel) ?_
                    refine mh_bastore (pc := 68) F sh_42 (by decide) (by omega) dX9_init_68 (by omega) ?_
                    refine mh_nmh (fun h18 e18 => ?_)
                    have r38_18 : h18 38 = mh_ur (mh_ur (mh_ur (mh_ur (mh_ur (fun _ => (0 : Int)) 2 (((39 : Nat) : Int) + 1)) 4 (((40 : Nat) : Int) + 1)) 6 (((41 : Nat) : Int) + 1)) 0 (((1000001 : Nat) : Int) + 1)) 1 999 := by rw [e18, mh_up_row (by decide)]; exact r38_17
                    have r42_18 : h18 42 = mh_ur (mh_ur (mh_ur (mh_ur (mh_ur (mh_ur (mh_ur (mh_ur (mh_ur (fun _ => (0 : Int)) 0 40) 1 115) 2 61) 3 48) 4 41) 5 42) 6 53) 7 48) 8 43 := by rw [e18, mh_up_rs, r42_17] <;> rfl
                    have fr18 : mh_fr [42, 41, 40, 38, 39] h h18 := mh_fr.upi fr17 e18 (by simp)
                    refine mh_iinc5 (pc := 69) F dX9_init_69 rfl (by decide) ?_
                    refine mh_goto (pc := 72) (tgt := 49) F dX9_init_72 rfl ?_
                    refine mh_iload5 (pc := 49) F dX9_init_49 ?_
                    refine mh_aload4 (pc := 51) F dX9_init_51 ?_
                    refine mh_alen (pc := 53) F sh_42 (by decide) dX9_init_53 ?_
                    refine mh_top (y := 17) rfl ?_
                    refine mh_icmp_ge (pc := 54) (tgt := 75) F dX9_init_54 rfl (by omega) (by omega) (fun c_54 => ?_) (fun c_54 => ?_)
                    · exact absurd c_54 (by decide)
                    · refine mh_aload4 (pc := 57) F dX9_init_57 ?_
                      refine mh_iload5 (pc := 59) F dX9_init_59 ?_
                      refine mh_aload2 (pc := 61) F dX9_init_61 ?_
                      refine mh_iload5 (pc := 62) F dX9_init_62 ?_
                      refine mh_callVSp (pc := 64) (As := [.int (Int32.ofInt (9))]) (st := [.int (Int32.ofInt (9)), .ref 42]) F (by omega) (i := 3) (by decide) rfl (ks_char_3 (by omega) (by omega)) wv_RX9_35_yJ0_charAt_5068e dX9_init_64 rfl rfl rfl (Nat.le_of_ble_eq_true rfl) (by rw [hR.1, hR.2]; exact ⟨Nat.le_of_ble_eq_true rfl, Nat.le_of_ble_eq_true rfl⟩) ?_
                      refine mh_i2b (pc := 67) F dX9_init_67 ?_
                      refine mh_top (y := 40) (by decide +kernel) ?_
                      refine mh_bastore (pc := 68) F sh_42 (by decide) (by omega) dX9_init_68 (by omega) ?_
                      refine mh_nmh (fun h19 e19 => ?_)
                      have r38_19 : h19 38 = mh_ur (mh_ur (mh_ur (mh_ur (mh_ur (fun _ => (0 : Int)) 2 (((39 : Nat) : Int) + 1)) 4 (((40 : Nat) : Int) + 1)) 6 (((41 : Nat) : Int) + 1)) 0 (((1000001 : Nat) : Int) + 1)) 1 999 := by rw [e19, mh_up_row (by decide)]; exact r38_18
                      have r42_19 : h19 42 = mh_ur (mh_ur (mh_ur (mh_ur (mh_ur (mh_ur (mh_ur (mh_ur (mh_ur (mh_ur (fun _ => (0 : Int)) 0 40) 1 115) 2 61) 3 48) 4 41) 5 42) 6 53) 7 48) 8 43) 9 40 := by rw [e19, mh_up_rs, r42_18] <;> rfl
                      have fr19 : mh_fr [42, 41, 40, 38, 39] h h19 := mh_fr.upi fr18 e19 (by simp)
                      refine mh_iinc5 (pc := 69) F dX9_init_69 rfl (by decide) ?_
                      refine mh_goto (pc := 72) (tgt := 49) F dX9_init_72 rfl ?_
                      refine mh_iload5 (pc := 49) F dX9_init_49 ?_
                      refine mh_aload4 (pc := 51) F dX9_init_51 ?_
                      refine mh_alen (pc := 53) F sh_42 (by decide) dX9_init_53 ?_
                      refine mh_top (y := 17) rfl ?_
                      refine mh_icmp_ge (pc := 54) (tgt := 75) F dX9_init_54 rfl (by omega) (by omega) (fun c_54 => ?_) (fun c_54 => ?_)
                      · exact absurd c_54 (by decide)
                      · refine mh_aload4 (pc := 57) F dX9_init_57 ?_
                        refine mh_iload5 (pc := 59) F dX9_init_59 ?_
                        refine mh_aload2 (pc := 61) F dX9_init_61 ?_
                        refine mh_iload5 (pc := 62) F dX9_init_62 ?_
                        refine mh_callVSp (pc := 64) (As := [.int (Int32.ofInt (10))]) (st := [.int (Int32.ofInt (10)), .ref 42]) F (by omega) (i := 3) (by decide) rfl (ks_char_3 (by omega) (by omega)) wv_RX9_35_yJ0_charAt_5068e dX9_init_64 rfl rfl rfl (Nat.le_of_ble_eq_true rfl) (by rw [hR.1, hR.2]; exact ⟨Nat.le_of_ble_eq_true rfl, Nat.le_of_ble_eq_true rfl⟩) ?_
                        refine mh_i2b (pc := 67) F dX9_init_67 ?_
                        refine mh_top (y := 115) (by decide +kernel) ?_
                        refine mh_bastore (pc := 68) F sh_42 (by decide) (by omega) dX9_init_68 (by omega) ?_
                        refine mh_nmh (fun h20 e20 => ?_)
                        have r38_20 : h20 38 = mh_ur (mh_ur (mh_ur (mh_ur (mh_ur (fun _ => (0 : Int)) 2 (((39 : Nat) : Int) + 1)) 4 (((40 : Nat) : Int) + 1)) 6 (((41 : Nat) : Int) + 1)) 0 (((1000001 : Nat) : Int) + 1)) 1 999 := by rw [e20, mh_up_row (by decide)]; exact r38_19
                        have r42_20 : h20 42 = mh_ur (mh_ur (mh_ur (mh_ur (mh_ur (mh_ur (mh_ur (mh_ur (mh_ur (mh_ur (mh_ur (fun _ => (0 : Int)) 0 40) 1 115) 2 61) 3 48) 4 41) 5 42) 6 53) 7 48) 8 43) 9 40) 10 115 := by rw [e20, mh_up_rs, r42_19] <;> rfl
                        have fr20 : mh_fr [42, 41, 40, 38, 39] h h20 := mh_fr.upi fr19 e20 (by simp)
                        refine mh_iinc5 (pc := 69) F dX9_init_69 rfl (by decide) ?_
                        refine mh_goto (pc := 72) (tgt := 49) F dX9_init_72 rfl ?_
                        refine mh_iload5 (pc := 49) F dX9_init_49 ?_
                        refine mh_aload4 (pc := 51) F dX9_init_51 ?_
                        refine mh_alen (pc := 53) F sh_42 (by decide) dX9_init_53 ?_
                        refine mh_top (y := 17) rfl ?_
                        refine mh_icmp_ge (pc := 54) (tgt := 75) F dX9_init_54 rfl (by omega) (by omega) (fun c_54 => ?_) (fun c_54 => ?_)
                        · exact absurd c_54 (by decide)
                        · refine mh_aload4 (pc := 57) F dX9_init_57 ?_
                          refine mh_iload5 (pc := 59) F dX9_init_59 ?_
                          refine mh_aload2 (pc := 61) F dX9_init_61 ?_
                          refine mh_iload5 (pc := 62) F dX9_init_62 ?_
                          refine mh_callVSp (pc := 64) (As := [.int (Int32.ofInt (11))]) (st := [.int (Int32.ofInt (11)), .ref 42]) F (by omega) (i := 3) (by decide) rfl (ks_char_3 (by omega) (by omega)) wv_RX9_35_yJ0_charAt_5068e dX9_init_64 rfl rfl rfl (Nat.le_of_ble_eq_true rfl) (by rw [hR.1, hR.2]; exact ⟨Nat.le_of_ble_eq_true rfl, Nat.le_of_ble_eq_true rfl⟩) ?_
                          refine mh_i2b (pc := 67) F dX9_init_67 ?_
                          refine mh_top (y := 61) (by decide +kernel) ?_
                          refine mh_bastore (pc := 68) F sh_42 (by decide) (by omega) dX9_init_68 (by omega) ?_
                          refine mh_nmh (fun h21 e21 => ?_)
                          have r38_21 : h21 38 = mh_ur (mh_ur (mh_ur (mh_ur (mh_ur (fun _ => (0 : Int)) 2 (((39 : Nat) : Int) + 1)) 4 (((40 : Nat) : Int) + 1)) 6 (((41 : Nat) : Int) + 1)) 0 (((1000001 : Nat) : Int) + 1)) 1 999 := by rw [e21, mh_up_row (by decide)]; exact r38_20
                          have r42_21 : h21 42 = mh_ur (mh_ur (mh_ur (mh_ur (mh_ur (mh_ur (mh_ur (mh_ur (mh_ur (mh_ur (mh_ur (mh_ur (fun _ => (0 : Int)) 0 40) 1 115) 2 61) 3 48) 4 41) 5 42) 6 53) 7 48) 8 43) 9 40) 10 115) 11 61 := by rw [e21, mh_up_rs, r42_20] <;> rfl
                          have fr21 : mh_fr [42, 41, 40, 38, 39] h h21 := mh_fr.upi fr20 e21 (by simp)
                          refine mh_iinc5 (pc := 69) F dX9_init_69 rfl (by decide) ?_
                          refine mh_goto (pc := 72) (tgt := 49) F dX9_init_72 rfl ?_
                          refine mh_iload5 (pc := 49) F dX9_init_49 ?_
                          refine mh_aload4 (pc := 51) F dX9_init_51 ?_
                          refine mh_alen (pc := 53) F sh_42 (by decide) dX9_init_53 ?_
                          refine mh_top (y := 17) rfl ?_
                          refine mh_icmp_ge (pc := 54) (tgt := 75) F dX9_init_54 rfl (by omega) (by omega) (fun c_54 => ?_) (fun c_54 => ?_)
                          · exact absurd c_54 (by decide)
                          · refine mh_aload4 (pc := 57) F dX9_init_57 ?_
                            refine mh_iload5 (pc := 59) F dX9_init_59 ?_
                            refine mh_aload2 (pc := 61) F dX9_init_61 ?_
                            refine mh_iload5 (pc := 62) F dX9_init_62 ?_
                            refine mh_callVSp (pc := 64) (As := [.int (Int32.ofInt (12))]) (st := [.int (Int32.ofInt (12)), .ref 42]) F (by omega) (i := 3) (by decide) rfl (ks_char_3 (by omega) (by omega)) wv_RX9_35_yJ0_charAt_5068e dX9_init_64 rfl rfl rfl (Nat.le_of_ble_eq_true rfl) (by rw [hR.1, hR.2]; exact ⟨Nat.le_of_ble_eq_true rfl, Nat.le_of_ble_eq_true rfl⟩) ?_
                            refine mh_i2b (pc := 67) F dX9_init_67 ?_
                            refine mh_top (y := 49) (by decide +kernel) ?_
                            refine mh_bastore (pc := 68) F sh_42 (by decide) (by omega) dX9_init_68 (by omega) ?_
                            refine mh_nmh (fun h22 e22 => ?_)
                            have r38_22 : h22 38 = mh_ur (mh_ur (mh_ur (mh_ur (mh_ur (fun _ => (0 : Int)) 2 (((39 : Nat) : Int) + 1)) 4 (((40 : Nat) : Int) + 1)) 6 (((41 : Nat) : Int) + 1)) 0 (((1000001 : Nat) : Int) + 1)) 1 999 := by rw [e22, mh_up_row (by decide)]; exact r38_21
                            have r42_22 : h22 42 = mh_ur (mh_ur (mh_ur (mh_ur (mh_ur (mh_ur (mh_ur (mh_ur (mh_ur (mh_ur (mh_ur (mh_ur (mh_ur (fun _ => (0 : Int)) 0 40) 1 115) 2 61) 3 48) 4 41) 5 42) 6 53) 7 48) 8 43) 9 40) 10 115) 11 61) 12 49 := by rw [e22, mh_up_rs, r42_21] <;> rfl
                            have fr22 : mh_fr [42, 41, 40, 38, 39] h h22 := mh_fr.upi fr21 e22 (by simp)
                            refine mh_iinc5 (pc := 69) F dX9_init_69 rfl (by decide) ?_
                            refine mh_goto (pc := 72) (tgt := 49) F dX9_init_72 rfl ?_
                            refine mh_iload5 (pc := 49) F dX9_init_49 ?_
                            refine mh_aload4 (pc := 51) F dX9_init_51 ?_
                            refine mh_alen (pc := 53) F sh_42 (by decide) dX9_init_53 ?_
                            refine mh_top (y := 17) rfl ?_
                            refine mh_icmp_ge (pc := 54) (tgt := 75) F dX9_init_54 rfl (by omega) (by omega) (fun c_54 => ?_) (fun c_54 => ?_)
                            · exact absurd c_54 (by decide)
                            · refine mh_aload4 (pc := 57) F dX9_init_57 ?_
                              refine mh_iload5 (pc := 59) F dX9_init_59 ?_
                              refine mh_aload2 (pc := 61) F dX9_init_61 ?_
                              refine mh_iload5 (pc := 62) F dX9_init_62 ?_
                              refine mh_callVSp (pc := 64) (As := [.int (Int32.ofInt (13))]) (st := [.int (Int32.ofInt (13)), .ref 42]) F (by omega) (i := 3) (by decide) rfl (ks_char_3 (by omega) (by omega)) wv_RX9_35_yJ0_charAt_5068e dX9_init_64 rfl rfl rfl (Nat.le_of_ble_eq_true rfl) (by rw [hR.1, hR.2]; exact ⟨Nat.le_of_ble_eq_true rfl, Nat.le_of_ble_eq_true rfl⟩) ?_
                              refine mh_i2b (pc := 67) F dX9_init_67 ?_
                              refine mh_top (y := 41) (by decide +kernel) ?_
                              refine mh_bastore (pc := 68) F sh_42 (by decide) (by omega) dX9_init_68 (by omega) ?_
                              refine mh_nmh (fun h23 e23 => ?_)
                              have r38_23 : h23 38 = mh_ur (mh_ur (mh_ur (mh_ur (mh_ur (fun _ => (0 : Int)) 2 (((39 : Nat) : Int) + 1)) 4 (((40 : Nat) : Int) + 1)) 6 (((41 : Nat) : Int) + 1)) 0 (((1000001 : Nat) : Int) + 1)) 1 999 := by rw [e23, mh_up_row (by decide)]; exact r38_22
                              have r42_23 : h23 42 = mh_ur (mh_ur (mh_ur (mh_ur (mh_ur (mh_ur (mh_ur (mh_ur (mh_ur (mh_ur (mh_ur (mh_ur (mh_ur (mh_ur (fun _ => (0 : Int)) 0 40) 1 115) 2 61) 3 48) 4 41) 5 42) 6 53) 7 48) 8 43) 9 40) 10 115) 11 61) 12 49) 13 41 := by rw [e23, mh_up_rs, r42_22] <;> rfl
                              have fr23 : mh_fr [42, 41, 40, 38, 39] h h23 := mh_fr.upi fr22 e23 (by simp)
                              refine mh_iinc5 (pc := 69) F dX9_init_69 rfl (by decide) ?_
                              refine mh_goto (pc := 72) (tgt := 49) F dX9_init_72 rfl ?_
                              refine mh_iload5 (pc := 49) F dX9_init_49 ?_
                              refine mh_aload4 (pc := 51) F dX9_init_51 ?_
                              refine mh_alen (pc := 53) F sh_42 (by decide) dX9_init_53 ?_
                              refine mh_top (y := 17) rfl ?_
                              refine mh_icmp_ge (pc := 54) (tgt := 75) F dX9_init_54 rfl (by omega) (by omega) (fun c_54 => ?_) (fun c_54 => ?_)
                              · exact absurd c_54 (by decide)
                              · refine mh_aload4 (pc := 57) F dX9_init_57 ?_
                                refine mh_iload5 (pc := 59) F dX9_init_59 ?_
                                refine mh_aload2 (pc := 61) F dX9_init_61 ?_
                                refine mh_iload5 (pc := 62) F dX9_init_62 ?_
                                refine mh_callVSp (pc := 64) (As := [.int (Int32.ofInt (14))]) (st := [.int (Int32.ofInt (14)), .ref 42]) F (by omega) (i := 3) (by decide) rfl (ks_char_3 (by omega) (by omega)) wv_RX9_35_yJ0_charAt_5068e dX9_init_64 rfl rfl rfl (Nat.le_of_ble_eq_true rfl) (by rw [hR.1, hR.2]; exact ⟨Nat.le_of_ble_eq_true rfl, Nat.le_of_ble_eq_true rfl⟩) ?_
                                refine mh_i2b (pc := 67) F dX9_init_67 ?_
                                refine mh_top (y := 42) (by decide +kernel) ?_
                                refine mh_bastore (pc := 68) F sh_42 (by decide) (by omega) dX9_init_68 (by omega) ?_
                                refine mh_nmh (fun h24 e24 => ?_)
                                have r38_24 : h24 38 = mh_ur (mh_ur (mh_ur (mh_ur (mh_ur (fun _ => (0 : Int)) 2 (((39 : Nat) : Int) + 1)) 4 (((40 : Nat) : Int) + 1)) 6 (((41 : Nat) : Int) + 1)) 0 (((1000001 : Nat) : Int) + 1)) 1 999 := by rw [e24, mh_up_row (by decide)]; exact r38_23
                                have r42_24 : h24 42 = mh_ur (mh_ur (mh_ur (mh_ur (mh_ur (mh_ur (mh_ur (mh_ur (mh_ur (mh_ur (mh_ur (mh_ur (mh_ur (mh_ur (mh_ur (fun _ => (0 : Int)) 0 40) 1 115) 2 61) 3 48) 4 41) 5 42) 6 53) 7 48) 8 43) 9 40) 10 115) 11 61) 12 49) 13 41) 14 42 := by rw [e24, mh_up_rs, r42_23] <;> rfl
                                have fr24 : mh_fr [42, 41, 40, 38, 39] h h24 := mh_fr.upi fr23 e24 (by simp)
                                refine mh_iinc5 (pc := 69) F dX9_init_69 rfl (by decide) ?_
                                refine mh_goto (pc := 72) (tgt := 49) F dX9_init_72 rfl ?_
                                refine mh_iload5 (pc := 49) F dX9_init_49 ?_
                                refine mh_aload4 (pc := 51) F dX9_init_51 ?_
                                refine mh_alen (pc := 53) F sh_42 (by decide) dX9_init_53 ?_
                                refine mh_top (y := 17) rfl ?_
                                refine mh_icmp_ge (pc := 54) (tgt := 75) F dX9_init_54 rfl (by omega) (by omega) (fun c_54 => ?_) (fun c_54 => ?_)
                                · exact absurd c_54 (by decide)
                                · refine mh_aload4 (pc := 57) F dX9_init_57 ?_
                                  refine mh_iload5 (pc := 59) F dX9_init_59 ?_
                                  refine mh_aload2 (pc := 61) F dX9_init_61 ?_
                                  refine mh_iload5 (pc := 62) F dX9_init_62 ?_
                                  refine mh_callVSp (pc := 64) (As := [.int (Int32.ofInt (15))]) (st := [.int (Int32.ofInt (15)), .ref 42]) F (by omega) (i := 3) (by decide) rfl (ks_char_3 (by omega) (by omega)) wv_RX9_35_yJ0_charAt_5068e dX9_init_64 rfl rfl rfl (Nat.le_of_ble_eq_true rfl) (by rw [hR.1, hR.2]; exact ⟨Nat.le_of_ble_eq_true rfl, Nat.le_of_ble_eq_true rfl⟩) ?_
                                  refine mh_i2b (pc := 67) F dX9_init_67 ?_
                                  refine mh_top (y := 51) (by decide +kernel) ?_
                                  refine mh_bastore (pc := 68) F sh_42 (by decide) (by omega) dX9_init_68 (by omega) ?_
                                  refine mh_nmh (fun h25 e25 => ?_)
                                  have r38_25 : h25 38 = mh_ur (mh_ur (mh_ur (mh_ur (mh_ur (fun _ => (0 : Int)) 2 (((39 : Nat) : Int) + 1)) 4 (((40 : Nat) : Int) + 1)) 6 (((41 : Nat) : Int) + 1)) 0 (((1000001 : Nat) : Int) + 1)) 1 999 := by rw [e25, mh_up_row (by decide)]; exact r38_24
                                  have r42_25 : h25 42 = mh_ur (mh_ur (mh_ur (mh_ur (mh_ur (mh_ur (mh_ur (mh_ur (mh_ur (mh_ur (mh_ur (mh_ur (mh_ur (mh_ur (mh_ur (mh_ur (fun _ => (0 : Int)) 0 40) 1 115) 2 61) 3 48) 4 41) 5 42) 6 53) 7 48) 8 43) 9 40) 10 115) 11 61) 12 49) 13 41) 14 42) 15 51 := by rw [e25, mh_up_rs, r42_24] <;> rfl
                                  have fr25 : mh_fr [42, 41, 40, 38, 39] h h25 := mh_fr.upi fr24 e25 (by simp)
                                  refine mh_iinc5 (pc := 69) F dX9_init_69 rfl (by decide) ?_
                                  refine mh_goto (pc := 72) (tgt := 49) F dX9_init_72 rfl ?_
                                  refine mh_iload5 (pc := 49) F dX9_init_49 ?_
                                  refine mh_aload4 (pc := 51) F dX9_init_51 ?_
                                  refine mh_alen (pc := 53) F sh_42 (by decide) dX9_init_53 ?_
                                  refine mh_top (y := 17) rfl ?_
                                  refine mh_icmp_ge (pc := 54) (tgt := 75) F dX9_init_54 rfl (by omega) (by omega) (fun c_54 => ?_) (fun c_54 => ?_)
                                  · exact absurd c_54 (by decide)
                                  · refine mh_aload4 (pc := 57) F dX9_init_57 ?_
                                    refine mh_iload5 (pc := 59) F dX9_init_59 ?_
                                    refine mh_aload2 (pc := 61) F dX9_init_61 ?_
                                    refine mh_iload5 (pc := 62) F dX9_init_62 ?_
                                    refine mh_callVSp (pc := 64) (As := [.int (Int32.ofInt (16))]) (st := [.int (Int32.ofInt (16)), .ref 42]) F (by omega) (i := 3) (by decide) rfl (ks_char_3 (by omega) (by omega)) wv_RX9_35_yJ0_charAt_5068e dX9_init_64 rfl rfl rfl (Nat.le_of_ble_eq_true rfl) (by rw [hR.1, hR.2]; exact ⟨Nat.le_of_ble_eq_true rfl, Nat.le_of_ble_eq_true rfl⟩) ?_
                                    refine mh_i2b (pc := 67) F dX9_init_67 ?_
                                    refine mh_top (y := 48) (by decide +kernel) ?_
                                    refine mh_bastore (pc := 68) F sh_42 (by decide) (by omega) dX9_init_68 (by omega) ?_
                                    refine mh_nmh (fun h26 e26 => ?_)
                                    have r38_26 : h26 38 = mh_ur (mh_ur (mh_ur (mh_ur (mh_ur (fun _ => (0 : Int)) 2 (((39 : Nat) : Int) + 1)) 4 (((40 : Nat) : Int) + 1)) 6 (((41 : Nat) : Int) + 1)) 0 (((1000001 : Nat) : Int) + 1)) 1 999 := by rw [e26, mh_up_row (by decide)]; exact r38_25
                                    have r42_26 : h26 42 = mh_ur (mh_ur (mh_ur (mh_ur (mh_ur (mh_ur (mh_ur (mh_ur (mh_ur (mh_ur (mh_ur (mh_ur (mh_ur (mh_ur (mh_ur (mh_ur (mh_ur (fun _ => (0 : Int)) 0 40) 1 115) 2 61) 3 48) 4 41) 5 42) 6 53) 7 48) 8 43) 9 40) 10 115) 11 61) 12 49) 13 41) 14 42) 15 51) 16 48 := by rw [e26, mh_up_rs, r42_25] <;> rfl
                                    have fr26 : mh_fr [42, 41, 40, 38, 39] h h26 := mh_fr.upi fr25 e26 (by simp)
                                    refine mh_iinc5 (pc := 69) F dX9_init_69 rfl (by decide) ?_
                                    refine mh_goto (pc := 72) (tgt := 49) F dX9_init_72 rfl ?_
                                    refine mh_iload5 (pc := 49) F dX9_init_49 ?_
                                    refine mh_aload4 (pc := 51) F dX9_init_51 ?_
                                    refine mh_alen (pc := 53) F sh_42 (by decide) dX9_init_53 ?_
                                    refine mh_top (y := 17) rfl ?_
                                    refine mh_icmp_ge (pc := 54) (tgt := 75) F dX9_init_54 rfl (by omega) (by omega) (fun c_54 => ?_) (fun c_54 => ?_)
                                    · refine mh_aload0 (pc := 75) F dX9_init_75 ?_
                                      refine mh_aload4 (pc := 76) F dX9_init_76 ?_
                                      refine mh_aload4 (pc := 78) F dX9_init_78 ?_
                                      refine mh_alen (pc := 80) F sh_42 (by decide) dX9_init_80 ?_
                                      refine mh_top (y := sc_s0 3 4) (by decide +kernel) ?_
                                      have hsb : ∀ k : Nat, k < 17 → mh_and ((mh_ur (mh_ur (mh_ur (mh_ur (mh_ur (mh_ur (mh_ur (mh_ur (mh_ur (mh_ur (mh_ur (mh_ur (mh_ur (mh_ur (mh_ur (mh_ur (mh_ur (fun _ => (0 : Int)) 0 40) 1 115) 2 61) 3 48) 4 41) 5 42) 6 53) 7 48) 8 43) 9 40) 10 115) 11 61) 12 49) 13 41) 14 42) 15 51) 16 48 : Int → Int) (k : Int)) 255 = sc_s0 3 (197 + (k : Int)) := by decide +kernel
                                      have hs4 : sc_s0 3 4 = 17 := by decide +kernel
                                      have hTP : sc_TP h26 42 (sc_s0 3) := ⟨by decide +kernel, fun i i0 i1 => by rw [r42_26]; have z := hsb i.toNat (by rw [hs4] at i1; omega); rw [Int.toNat_of_nonneg i0] at z; exact z⟩
                                      refine mh_callV0 (pc := 81) (As := [.ref 42, .int (Int32.ofInt (sc_s0 3 4))]) (st := []) F (by omega) (k40_read (n := 43) (L := 17) (t := 38) (tp := 42) (U := 1) (s := sc_s0 3) (fr := fun _ => 0) (by omega) r38_26 ⟨sh_38, sh_40, sh_42, by decide, by decide, by decide, by decide +kernel, by decide, by decide⟩ ⟨sh_39, by decide⟩ (by decide +kernel) (by decide +kernel) (by decide +kernel) hTP (sc_s0_by (by decide)) (by decide)) wv_RX9_39_yX9_read dX9_init_81 sh_38 rfl (by decide) rfl rfl (Nat.le_of_ble_eq_true rfl) (by rw [hR.1, hR.2]; exact ⟨Nat.le_of_ble_eq_true rfl, Nat.le_of_ble_eq_true rfl⟩) (fun r27 h27 q27 => ?_)
                                      obtain ⟨rfl, fr27, ht0⟩ := sc_tz_of (q := sc_q1) q27 sc_q1_v.1 (by rw [sc_q1_v.2.1]; decide +kernel) (by rw [sc_q1_v.2.2.1]; rfl) (fun k hk => sc_q1_v.2.2.2 k (by rw [sc_q1_v.2.2.1] at hk; omega)) (by decide +kernel) (by decide +kernel) (by decide +kernel)
                                      have r42_28 : h27 42 = mh_ur (mh_ur (mh_ur (mh_ur (mh_ur (mh_ur (mh_ur (mh_ur (mh_ur (mh_ur (mh_ur (mh_ur (mh_ur (mh_ur (mh_ur (mh_ur (mh_ur (fun _ => (0 : Int)) 0 40) 1 115) 2 61) 3 48) 4 41) 5 42) 6 53) 7 48) 8 43) 9 40) 10 115) 11 61) 12 49) 13 41) 14 42) 15 51) 16 48 := (fr27 _ (by decide)).trans r42_26
                                      have fr28 : mh_fr [42, 41, 40, 38, 39] h h27 := (mh_fr.tr fr26 fr27).mono (by simp)
                                      refine mh_pop (pc := 84) F dX9_init_84 rfl ?_
                                      exact mh_return F Z dX9_init_85 ⟨rfl, (fr28.mono (by simp)), ht0⟩
                                    · exact absurd c_54 (by decide)

set_option maxRecDepth 100000 in
set_option maxHeartbeats 2000000 in
theorem q45_text_58 {g : mh_G} {d : Nat} (hd : 73 ≤ d) {h : Nat → Int → Int}  (r58 : h 58 = fun _ => (0 : Int)) : mh_M g d yX9_init cX9_init 6 none 59 4 153 [.ref 58, .ref 1000000, .ref 1000002, .int (Int32.ofInt (40))] h (fun r h2 => r = none ∧ mh_fr [58, 59, 60, 61, 62] h h2 ∧ sc_tz h2 58 0) := by
  refine mh_M_of RX9 rfl (by decide +kernel) [some (.ref 58), some (.ref 1000000), some (.ref 1000002), some (.int (Int32.ofInt (40))), none, none] rfl (Nat.le_of_ble_eq_true rfl) (fun f F Z hn0 hR => ?_)
  refine mh_aload0 (pc := 0) F dX9_init_0 ?_
  refine mh_objI (pc := 1) F (by omega) tw_1_152 (Nat.le_of_ble_eq_true rfl) dX9_init_1 ?_
  refine mh_aload0 (pc := 4) F dX9_init_4 ?_
  refine mh_bipush (pc := 5) F dX9_init_5 rfl ?_
  refine mh_newarr (t := 0) (len := 50) (n1 := 60) (cl1 := 1) (sl1 := 50) (pc := 7) F sh_59 (by decide) (by decide) rfl rfl tw_1_134 ⟨rfl, rfl, rfl⟩ (by rw [hR.1, hR.2]; exact ⟨Nat.le_of_ble_eq_true rfl, Nat.le_of_ble_eq_true rfl⟩) dX9_init_7 ?_
  refine mh_nmh (fun h1 e1 => ?_)
  have r58_1 : h1 58 = fun _ => (0 : Int) := by rw [e1, mh_zr_row (by decide)]; exact r58
  have r59_1 : h1 59 = fun _ => (0 : Int) := by rw [e1]; exact mh_zr_rs
  have fr1 : mh_fr [59] h h1 := mh_fr.zr mh_fr.rf e1
  refine mh_putFr (pc := 9) F hn0 sh_58 (by decide) qw_RX9_9_9 dX9_init_9 rfl ?_
  refine mh_nmh (fun h2 e2 => ?_)
  have r58_2 : h2 58 = mh_ur (fun _ => (0 : Int)) 2 (((59 : Nat) : Int) + 1) := by rw [e2, mh_up_rs, r58_1] <;> rfl
  have fr2 : mh_fr [58, 59] h h2 := mh_fr.up fr1 e2
  refine mh_aload0 (pc := 12) F dX9_init_12 ?_
  refine mh_bipush (pc := 13) F dX9_init_13 rfl ?_
  refine mh_newarr (t := 0) (len := 50) (n1 := 61) (cl1 := 2) (sl1 := 100) (pc := 15) F sh_60 (by decide) (by decide) rfl rfl tw_1_134 ⟨rfl, rfl, rfl⟩ (by rw [hR.1, hR.2]; exact ⟨Nat.le_of_ble_eq_true rfl, Nat.le_of_ble_eq_true rfl⟩) dX9_init_15 ?_
  refine mh_nmh (fun h3 e3 => ?_)
  have r58_3 : h3 58 = mh_ur (fun _ => (0 : Int)) 2 (((59 : Nat) : Int) + 1) := by rw [e3, mh_zr_row (by decide)]; exact r58_2
  have r60_3 : h3 60 = fun _ => (0 : Int) := by rw [e3]; exact mh_zr_rs
  have fr3 : mh_fr [60, 58, 59] h h3 := mh_fr.zr fr2 e3
  refine mh_putFr (pc := 17) F hn0 sh_58 (by decide) qw_RX9_15_9 dX9_init_17 rfl ?_
  refine mh_nmh (fun h4 e4 => ?_)
  have r58_4 : h4 58 = mh_ur (mh_ur (fun _ => (0 : Int)) 2 (((59 : Nat) : Int) + 1)) 4 (((60 : Nat) : Int) + 1) := by rw [e4, mh_up_rs, r58_3] <;> rfl
  have fr4 : mh_fr [60, 58, 59] h h4 := mh_fr.upi fr3 e4 (by simp)
  refine mh_aload0 (pc := 20) F dX9_init_20 ?_
  refine mh_bipush (pc := 21) F dX9_init_21 rfl ?_
  refine mh_newarr (t := 0) (len := 50) (n1 := 62) (cl1 := 3) (sl1 := 150) (pc := 23) F sh_61 (by decide) (by decide) rfl rfl tw_1_134 ⟨rfl, rfl, rfl⟩ (by rw [hR.1, hR.2]; exact ⟨Nat.le_of_ble_eq_true rfl, Nat.le_of_ble_eq_true rfl⟩) dX9_init_23 ?_
  refine mh_nmh (fun h5 e5 => ?_)
  have r58_5 : h5 58 = mh_ur (mh_ur (fun _ => (0 : Int)) 2 (((59 : Nat) : Int) + 1)) 4 (((60 : Nat) : Int) + 1) := by rw [e5, mh_zr_row (by decide)]; exact r58_4
  have r61_5 : h5 61 = fun _ => (0 : Int) := by rw [e5]; exact mh_zr_rs
  have fr5 : mh_fr [61, 60, 58, 59] h h5 := mh_fr.zr fr4 e5
  refine mh_putFr (pc := 25) F hn0 sh_58 (by decide) qw_RX9_18_9 dX9_init_25 rfl ?_
  refine mh_nmh (fun h6 e6 => ?_)
  have r58_6 : h6 58 = mh_ur (mh_ur (mh_ur (fun _ => (0 : Int)) 2 (((59 : Nat) : Int) + 1)) 4 (((60 : Nat) : Int) + 1)) 6 (((61 : Nat) : Int) + 1) := by rw [e6, mh_up_rs, r58_5] <;> rfl
  have fr6 : mh_fr [61, 60, 58, 59] h h6 := mh_fr.upi fr5 e6 (by simp)
  refine mh_aload0 (pc := 28) F dX9_init_28 ?_
  refine mh_aload1 (pc := 29) F dX9_init_29 ?_
  refine mh_putFr (pc := 30) F hn0 sh_58 (by decide) qw_RX9_21_9 dX9_init_30 rfl ?_
  refine mh_nmh (fun h7 e7 => ?_)
  have r58_7 : h7 58 = mh_ur (mh_ur (mh_ur (mh_ur (fun _ => (0 : Int)) 2 (((59 : Nat) : Int) + 1)) 4 (((60 : Nat) : Int) + 1)) 6 (((61 : Nat) : Int) + 1)) 0 (((1000000 : Nat) : Int) + 1) := by rw [e7, mh_up_rs, r58_6] <;> rfl
  have fr7 : mh_fr [61, 60, 58, 59] h h7 := mh_fr.upi fr6 e7 (by simp)
  refine mh_aload0 (pc := 33) F dX9_init_33 ?_
  refine mh_iload3 (pc := 34) F dX9_init_34 ?_
  refine mh_putFi (pc := 35) F hn0 sh_58 (by decide) qw_RX9_25_9 dX9_init_35 ?_
  refine mh_nmh (fun h8 e8 => ?_)
  have r58_8 : h8 58 = mh_ur (mh_ur (mh_ur (mh_ur (mh_ur (fun _ => (0 : Int)) 2 (((59 : Nat) : Int) + 1)) 4 (((60 : Nat) : Int) + 1)) 6 (((61 : Nat) : Int) + 1)) 0 (((1000000 : Nat) : Int) + 1)) 1 40 := by rw [e8, mh_up_rs, r58_7] <;> rfl
  have fr8 : mh_fr [61, 60, 58, 59] h h8 := mh_fr.upi fr7 e8 (by simp)
  refine mh_aload2 (pc := 38) F dX9_init_38 ?_
  refine mh_callVSp (pc := 39) (As := []) (st := []) F (by omega) (i := 2) (by decide) rfl (ks_len_2 (by omega)) wv_RX9_29_yJ0_length_8abf5 dX9_init_39 rfl rfl rfl (Nat.le_of_ble_eq_true rfl) (by rw [hR.1, hR.2]; exact ⟨Nat.le_of_ble_eq_true rfl, Nat.le_of_ble_eq_true rfl⟩) ?_
  refine mh_newarr (t := 2) (len := 3) (n1 := 63) (cl1 := 4) (sl1 := 153) (pc := 42) F sh_62 (by decide) (by decide) rfl rfl tw_2_108 ⟨rfl, rfl, rfl⟩ (by rw [hR.1, hR.2]; exact ⟨Nat.le_of_ble_eq_true rfl, Nat.le_of_ble_eq_true rfl⟩) dX9_init_42 ?_
  refine mh_nmh (fun h9 e9 => ?_)
  have r58_9 : h9 58 = mh_ur (mh_ur (mh_ur (mh_ur (mh_ur (fun _ => (0 : Int)) 2 (((59 : Nat) : Int) + 1)) 4 (((60 : Nat) : Int) + 1)) 6 (((61 : Nat) : Int) + 1)) 0 (((1000000 : Nat) : Int) + 1)) 1 40 := by rw [e9, mh_zr_row (by decide)]; exact r58_8
  have r62_9 : h9 62 = fun _ => (0 : Int) := by rw [e9]; exact mh_zr_rs
  have fr9 : mh_fr [62, 61, 60, 58, 59] h h9 := mh_fr.zr fr8 e9
  refine mh_astore4 (pc := 44) F dX9_init_44 rfl (by decide) ?_
  refine mh_iconst (pc := 46) F dX9_init_46 ?_
  refine mh_istore5 (pc := 47) F dX9_init_47 rfl (by decide) ?_
  refine mh_iload5 (pc := 49) F dX9_init_49 ?_
  refine mh_aload4 (pc := 51) F dX9_init_51 ?_
  refine mh_alen (pc := 53) F sh_62 (by decide) dX9_init_53 ?_
  refine mh_top (y := 3) rfl ?_
  refine mh_icmp_ge (pc := 54) (tgt := 75) F dX9_init_54 rfl (by omega) (by omega) (fun c_54 => ?_) (fun c_54 => ?_)
  · exact absurd c_54 (by decide)
  · refine mh_aload4 (pc := 57) F dX9_init_57 ?_
    refine mh_iload5 (pc := 59) F dX9_init_59 ?_
    refine mh_aload2 (pc := 61) F dX9_init_61 ?_
    refine mh_iload5 (pc := 62) F dX9_init_62 ?_
    refine mh_callVSp (pc := 64) (As := [.int (Int32.ofInt (0))]) (st := [.int (Int32.ofInt (0)), .ref 62]) F (by omega) (i := 2) (by decide) rfl (ks_char_2 (by omega) (by omega)) wv_RX9_35_yJ0_charAt_5068e dX9_init_64 rfl rfl rfl (Nat.le_of_ble_eq_true rfl) (by rw [hR.1, hR.2]; exact ⟨Nat.le_of_ble_eq_true rfl, Nat.le_of_ble_eq_true rfl⟩) ?_
    refine mh_i2b (pc := 67) F dX9_init_67 ?_
    refine mh_top (y := 116) (by decide +kernel) ?_
    refine mh_bastore (pc := 68) F sh_62 (by decide) (by omega) dX9_init_68 (by omega) ?_
    refine mh_nmh (fun h10 e10 => ?_)
    have r58_10 : h10 58 = mh_ur (mh_ur (mh_ur (mh_ur (mh_ur (fun _ => (0 : Int)) 2 (((59 : Nat) : Int) + 1)) 4 (((60 : Nat) : Int) + 1)) 6 (((61 : Nat) : Int) + 1)) 0 (((1000000 : Nat) : Int) + 1)) 1 40 := by rw [e10, mh_up_row (by decide)]; exact r58_9
    have r62_10 : h10 62 = mh_ur (fun _ => (0 : Int)) 0 116 := by rw [e10, mh_up_rs, r62_9] <;> rfl
    have fr10 : mh_fr [62, 61, 60, 58, 59] h h10 := mh_fr.upi fr9 e10 (by simp)
    refine mh_iinc5 (pc := 69) F dX9_init_69 rfl (by decide) ?_
    refine mh_goto (pc := 72) (tgt := 49) F dX9_init_72 rfl ?_
    refine mh_iload5 (pc := 49) F dX9_init_49 ?_
    refine mh_aload4 (pc := 51) F dX9_init_51 ?_
    refine mh_alen (pc := 53) F sh_62 (by decide) dX9_init_53 ?_
    refine mh_top (y := 3) rfl ?_
    refine mh_icmp_ge (pc := 54) (tgt := 75) F dX9_init_54 rfl (by omega) (by omega) (fun c_54 => ?_) (fun c_54 => ?_)
    · exact absurd c_54 (by decide)
    · refine mh_aload4 (pc := 57) F dX9_init_57 ?_
      refine mh_iload5 (pc := 59) F dX9_init_59 ?_
      refine mh_aload2 (pc := 61) F dX9_init_61 ?_
      refine mh_iload5 (pc := 62) F dX9_init_62 ?_
      refine mh_callVSp (pc := 64) (As := [.int (Int32.ofInt (1))]) (st := [.int (Int32.ofInt (1)), .ref 62]) F (by omega) (i := 2) (by decide) rfl (ks_char_2 (by omega) (by omega)) wv_RX9_35_yJ0_charAt_5068e dX9_init_64 rfl rfl rfl (Nat.le_of_ble_eq_true rfl) (by rw [hR.1, hR.2]; exact ⟨Nat.le_of_ble_eq_true rfl, Nat.le_of_ble_eq_true rfl⟩) ?_
      refine mh_i2b (pc := 67) F dX9_init_67 ?_
      refine mh_top (y := 47) (by decide +kernel) ?_
      refine mh_bastore (pc := 68) F sh_62 (by decide) (by omega) dX9_init_68 (by omega) ?_
      refine mh_nmh (fun h11 e11 => ?_)
      have r58_11 : h11 58 = mh_ur (mh_ur (mh_ur (mh_ur (mh_ur (fun _ => (0 : Int)) 2 (((59 : Nat) : Int) + 1)) 4 (((60 : Nat) : Int) + 1)) 6 (((61 : Nat) : Int) + 1)) 0 (((1000000 : Nat) : Int) + 1)) 1 40 := by rw [e11, mh_up_row (by decide)]; exact r58_10
      have r62_11 : h11 62 = mh_ur (mh_ur (fun _ => (0 : Int)) 0 116) 1 47 := by rw [e11, mh_up_rs, r62_10] <;> rfl
      have fr11 : mh_fr [62, 61, 60, 58, 59] h h11 := mh_fr.upi fr10 e11 (by simp)
      refine mh_iinc5 (pc := 69) F dX9_init_69 rfl (by decide) ?_
      refine mh_goto (pc := 72) (tgt := 49) F dX9_init_72 rfl ?_
      refine mh_iload5 (pc := 49) F dX9_init_49 ?_
      refine mh_aload4 (pc := 51) F dX9_init_51 ?_
      refine mh_alen (pc := 53) F sh_62 (by decide) dX9_init_53 ?_
      refine mh_top (y := 3) rfl ?_
      refine mh_icmp_ge (pc := 54) (tgt := 75) F dX9_init_54 rfl (by omega) (by omega) (fun c_54 => ?_) (fun c_54 => ?_)
      · exact absurd c_54 (by decide)
      · refine mh_aload4 (pc := 57) F dX9_init_57 ?_
        refine mh_iload5 (pc := 59) F dX9_init_59 ?_
        refine mh_aload2 (pc := 61) F dX9_init_61 ?_
        refine mh_iload5 (pc := 62) F dX9_init_62 ?_
        refine mh_callVSp (pc := 64) (As := [.int (Int32.ofInt (2))]) (st := [.int (Int32.ofInt (2)), .ref 62]) F (by omega) (i := 2) (by decide) rfl (ks_char_2 (by omega) (by omega)) wv_RX9_35_yJ0_charAt_5068e dX9_init_64 rfl rfl rfl (Nat.le_of_ble_eq_true rfl) (by rw [hR.1, hR.2]; exact ⟨Nat.le_of_ble_eq_true rfl, Nat.le_of_ble_eq_true rfl⟩) ?_
        refine mh_i2b (pc := 67) F dX9_init_67 ?_
        refine mh_top (y := 52) (by decide +kernel) ?_
        refine mh_bastore (pc := 68) F sh_62 (by decide) (by omega) dX9_init_68 (by omega) ?_
        refine mh_nmh (fun h12 e12 => ?_)
        have r58_12 : h12 58 = mh_ur (mh_ur (mh_ur (mh_ur (mh_ur (fun _ => (0 : Int)) 2 (((59 : Nat) : Int) + 1)) 4 (((60 : Nat) : Int) + 1)) 6 (((61 : Nat) : Int) + 1)) 0 (((1000000 : Nat) : Int) + 1)) 1 40 := by rw [e12, mh_up_row (by decide)]; exact r58_11
        have r62_12 : h12 62 = mh_ur (mh_ur (mh_ur (fun _ => (0 : Int)) 0 116) 1 47) 2 52 := by rw [e12, mh_up_rs, r62_11] <;> rfl
        have fr12 : mh_fr [62, 61, 60, 58, 59] h h12 := mh_fr.upi fr11 e12 (by simp)
        refine mh_iinc5 (pc := 69) F dX9_init_69 rfl (by decide) ?_
        refine mh_goto (pc := 72) (tgt := 49) F dX9_init_72 rfl ?_
        refine mh_iload5 (pc := 49) F dX9_init_49 ?_
        refine mh_aload4 (pc := 51) F dX9_init_51 ?_
        refine mh_alen (pc := 53) F sh_62 (by decide) dX9_init_53 ?_
        refine mh_top (y := 3) rfl ?_
        refine mh_icmp_ge (pc := 54) (tgt := 75) F dX9_init_54 rfl (by omega) (by omega) (fun c_54 => ?_) (fun c_54 => ?_)
        · refine mh_aload0 (pc := 75) F dX9_init_75 ?_
          refine mh_aload4 (pc := 76) F dX9_init_76 ?_
          refine mh_aload4 (pc := 78) F dX9_init_78 ?_
          refine mh_alen (pc := 80) F sh_62 (by decide) dX9_init_80 ?_
          refine mh_top (y := sc_s0 2 4) (by decide +kernel) ?_
          have hsb : ∀ k : Nat, k < 3 → mh_and ((mh_ur (mh_ur (mh_ur (fun _ => (0 : Int)) 0 116) 1 47) 2 52 : Int → Int) (k : Int)) 255 = sc_s0 2 (197 + (k : Int)) := by decide +kernel
          have hs4 : sc_s0 2 4 = 3 := by decide +kernel
          have hTP : sc_TP h12 62 (sc_s0 2) := ⟨by decide +kernel, fun i i0 i1 => by rw [r62_12]; have z := hsb i.toNat (by rw [hs4] at i1; omega); rw [Int.toNat_of_nonneg i0] at z; exact z⟩
          refine mh_callV0 (pc := 81) (As := [.ref 62, .int (Int32.ofInt (sc_s0 2 4))]) (st := []) F (by omega) (k40_read (n := 63) (L := 3) (t := 58) (tp := 62) (U := 0) (s := sc_s0 2) (fr := fun _ => 0) (by omega) r58_12 ⟨sh_58, sh_60, sh_62, by decide, by decide, by decide, by decide +kernel, by decide, by decide⟩ ⟨sh_59, by decide⟩ (by decide +kernel) (by decide +kernel) (by decide +kernel) hTP (sc_s0_by (by decide)) (by decide)) wv_RX9_39_yX9_read dX9_init_81 sh_58 rfl (by decide) rfl rfl (Nat.le_of_ble_eq_true rfl) (by rw [hR.1, hR.2]; exact ⟨Nat.le_of_ble_eq_true rfl, Nat.le_of_ble_eq_true rfl⟩) (fun r13 h13 q13 => ?_)
          obtain ⟨rfl, fr13, ht0⟩ := sc_tz_of (q := sc_q0) q13 sc_q0_v.1 (by rw [sc_q0_v.2.1]; decide +kernel) (by rw [sc_q0_v.2.2.1]; rfl) (fun k hk => sc_q0_v.2.2.2 k (by rw [sc_q0_v.2.2.1] at hk; omega)) (by decide +kernel) (by decide +kernel) (by decide +kernel)
          have r62_14 : h13 62 = mh_ur (mh_ur (mh_ur (fun _ => (0 : Int)) 0 116) 1 47) 2 52 := (fr13 _ (by decide)).trans r62_12
          have fr14 : mh_fr [62, 61, 60, 58, 59] h h13 := (mh_fr.tr fr12 fr13).mono (by simp)
          refine mh_pop (pc := 84) F dX9_init_84 rfl ?_
          exact mh_return F Z dX9_init_85 ⟨rfl, (fr14.mono (by simp)), ht0⟩
        · exact absurd c_54 (by decide)

set_option maxRecDepth 100000 in
set_option maxHeartbeats 2000000 in
theorem q45_text_63 {g : mh_G} {d : Nat} (hd : 73 ≤ d) {h : Nat → Int → Int}  (r63 : h 63 = fun _ => (0 : Int)) : mh_M g d yX9_init cX9_init 6 none 64 4 167 [.ref 63, .ref 1000001, .ref 1000003, .int (Int32.ofInt (999))] h (fun r h2 => r = none ∧ mh_fr [63, 64, 65, 66, 67] h h2 ∧ sc_tz h2 63 1) := by
  refine mh_M_of RX9 rfl (by decide +kernel) [some (.ref 63), some (.ref 1000001), some (.ref 1000003), some (.int (Int32.ofInt (999))), none, none] rfl (Nat.le_of_ble_eq_true rfl) (fun f F Z hn0 hR => ?_)
  refine mh_aload0 (pc := 0) F dX9_init_0 ?_
  refine mh_objI (pc := 1) F (by omega) tw_1_152 (Nat.le_of_ble_eq_true rfl) dX9_init_1 ?_
  refine mh_aload0 (pc := 4) F dX9_init_4 ?_
  refine mh_bipush (pc := 5) F dX9_init_5 rfl ?_
  refine mh_newarr (t := 0) (len := 50) (n1 := 65) (cl1 := 1) (sl1 := 50) (pc := 7) F sh_64 (by decide) (by decide) rfl rfl tw_1_134 ⟨rfl, rfl, rfl⟩ (by rw [hR.1, hR.2]; exact ⟨Nat.le_of_ble_eq_true rfl, Nat.le_of_ble_eq_true rfl⟩) dX9_init_7 ?_
  refine mh_nmh (fun h1 e1 => ?_)
  have r63_1 : h1 63 = fun _ => (0 : Int) := by rw [e1, mh_zr_row (by decide)]; exact r63
  have r64_1 : h1 64 = fun _ => (0 : Int) := by rw [e1]; exact mh_zr_rs
  have fr1 : mh_fr [64] h h1 := mh_fr.zr mh_fr.rf e1
  refine mh_putFr (pc := 9) F hn0 sh_63 (by decide) qw_RX9_9_9 dX9_init_9 rfl ?_
  refine mh_nmh (fun h2 e2 => ?_)
  have r63_2 : h2 63 = mh_ur (fun _ => (0 : Int)) 2 (((64 : Nat) : Int) + 1) := by rw [e2, mh_up_rs, r63_1] <;> rfl
  have fr2 : mh_fr [63, 64] h h2 := mh_fr.up fr1 e2
  refine mh_aload0 (pc := 12) F dX9_init_12 ?_
  refine mh_bipush (pc := 13) F dX9_init_13 rfl ?_
  refine mh_newarr (t := 0) (len := 50) (n1 := 66) (cl1 := 2) (sl1 := 100) (pc := 15) F sh_65 (by decide) (by decide) rfl rfl tw_1_134 ⟨rfl, rfl, rfl⟩ (by rw [hR.1, hR.2]; exact ⟨Nat.le_of_ble_eq_true rfl, Nat.le_of_ble_eq_true rfl⟩) dX9_init_15 ?_
  refine mh_nmh (fun h3 e3 => ?_)
  have r63_3 : h3 63 = mh_ur (fun _ => (0 : Int)) 2 (((64 : Nat) : Int) + 1) := by rw [e3, mh_zr_row (by decide)]; exact r63_2
  have r65_3 : h3 65 = fun _ => (0 : Int) := by rw [e3]; exact mh_zr_rs
  have fr3 : mh_fr [65, 63, 64] h h3 := mh_fr.zr fr2 e3
  refine mh_putFr (pc := 17) F hn0 sh_63 (by decide) qw_RX9_15_9 dX9_init_17 rfl ?_
  refine mh_nmh (fun h4 e4 => ?_)
  have r63_4 : h4 63 = mh_ur (mh_ur (fun _ => (0 : Int)) 2 (((64 : Nat) : Int) + 1)) 4 (((65 : Nat) : Int) + 1) := by rw [e4, mh_up_rs, r63_3] <;> rfl
  have fr4 : mh_fr [65, 63, 64] h h4 := mh_fr.upi fr3 e4 (by simp)
  refine mh_aload0 (pc := 20) F dX9_init_20 ?_
  refine mh_bipush (pc := 21) F dX9_init_21 rfl ?_
  refine mh_newarr (t := 0) (len := 50) (n1 := 67) (cl1 := 3) (sl1 := 150) (pc := 23) F sh_66 (by decide) (by decide) rfl rfl tw_1_134 ⟨rfl, rfl, rfl⟩ (by rw [hR.1, hR.2]; exact ⟨Nat.le_of_ble_eq_true rfl, Nat.le_of_ble_eq_true rfl⟩) dX9_init_23 ?_
  refine mh_nmh (fun h5 e5 => ?_)
  have r63_5 : h5 63 = mh_ur (mh_ur (fun _ => (0 : Int)) 2 (((64 : Nat) : Int) + 1)) 4 (((65 : Nat) : Int) + 1) := by rw [e5, mh_zr_row (by decide)]; exact r63_4
  have r66_5 : h5 66 = fun _ => (0 : Int) := by rw [e5]; exact mh_zr_rs
  have fr5 : mh_fr [66, 65, 63, 64] h h5 := mh_fr.zr fr4 e5
  refine mh_putFr (pc := 25) F hn0 sh_63 (by decide) qw_RX9_18_9 dX9_init_25 rfl ?_
  refine mh_nmh (fun h6 e6 => ?_)
  have r63_6 : h6 63 = mh_ur (mh_ur (mh_ur (fun _ => (0 : Int)) 2 (((64 : Nat) : Int) + 1)) 4 (((65 : Nat) : Int) + 1)) 6 (((66 : Nat) : Int) + 1) := by rw [e6, mh_up_rs, r63_5] <;> rfl
  have fr6 : mh_fr [66, 65, 63, 64] h h6 := mh_fr.upi fr5 e6 (by simp)
  refine mh_aload0 (pc := 28) F dX9_init_28 ?_
  refine mh_aload1 (pc := 29) F dX9_init_29 ?_
  refine mh_putFr (pc := 30) F hn0 sh_63 (by decide) qw_RX9_21_9 dX9_init_30 rfl ?_
  refine mh_nmh (fun h7 e7 => ?_)
  have r63_7 : h7 63 = mh_ur (mh_ur (mh_ur (mh_ur (fun _ => (0 : Int)) 2 (((64 : Nat) : Int) + 1)) 4 (((65 : Nat) : Int) + 1)) 6 (((66 : Nat) : Int) + 1)) 0 (((1000001 : Nat) : Int) + 1) := by rw [e7, mh_up_rs, r63_6] <;> rfl
  have fr7 : mh_fr [66, 65, 63, 64] h h7 := mh_fr.upi fr6 e7 (by simp)
  refine mh_aload0 (pc := 33) F dX9_init_33 ?_
  refine mh_iload3 (pc := 34) F dX9_init_34 ?_
  refine mh_putFi (pc := 35) F hn0 sh_63 (by decide) qw_RX9_25_9 dX9_init_35 ?_
  refine mh_nmh (fun h8 e8 => ?_)
  have r63_8 : h8 63 = mh_ur (mh_ur (mh_ur (mh_ur (mh_ur (fun _ => (0 : Int)) 2 (((64 : Nat) : Int) + 1)) 4 (((65 : Nat) : Int) + 1)) 6 (((66 : Nat) : Int) + 1)) 0 (((1000001 : Nat) : Int) + 1)) 1 999 := by rw [e8, mh_up_rs, r63_7] <;> rfl
  have fr8 : mh_fr [66, 65, 63, 64] h h8 := mh_fr.upi fr7 e8 (by simp)
  refine mh_aload2 (pc := 38) F dX9_init_38 ?_
  refine mh_callVSp (pc := 39) (As := []) (st := []) F (by omega) (i := 3) (by decide) rfl (ks_len_3 (by omega)) wv_RX9_29_yJ0_length_8abf5 dX9_init_39 rfl rfl rfl (Nat.le_of_ble_eq_true rfl) (by rw [hR.1, hR.2]; exact ⟨Nat.le_of_ble_eq_true rfl, Nat.le_of_ble_eq_true rfl⟩) ?_
  refine mh_newarr (t := 2) (len := 17) (n1 := 68) (cl1 := 4) (sl1 := 167) (pc := 42) F sh_67 (by decide) (by decide) rfl rfl tw_2_108 ⟨rfl, rfl, rfl⟩ (by rw [hR.1, hR.2]; exact ⟨Nat.le_of_ble_eq_true rfl, Nat.le_of_ble_eq_true rfl⟩) dX9_init_42 ?_
  refine mh_nmh (fun h9 e9 => ?_)
  have r63_9 : h9 63 = mh_ur (mh_ur (mh_ur (mh_ur (mh_ur (fun _ => (0 : Int)) 2 (((64 : Nat) : Int) + 1)) 4 (((65 : Nat) : Int) + 1)) 6 (((66 : Nat) : Int) + 1)) 0 (((1000001 : Nat) : Int) + 1)) 1 999 := by rw [e9, mh_zr_row (by decide)]; exact r63_8
  have r67_9 : h9 67 = fun _ => (0 : Int) := by rw [e9]; exact mh_zr_rs
  have fr9 : mh_fr [67, 66, 65, 63, 64] h h9 := mh_fr.zr fr8 e9
  refine mh_astore4 (pc := 44) F dX9_init_44 rfl (by decide) ?_
  refine mh_iconst (pc := 46) F dX9_init_46 ?_
  refine mh_istore5 (pc := 47) F dX9_init_47 rfl (by decide) ?_
  refine mh_iload5 (pc := 49) F dX9_init_49 ?_
  refine mh_aload4 (pc := 51) F dX9_init_51 ?_
  refine mh_alen (pc := 53) F sh_67 (by decide) dX9_init_53 ?_
  refine mh_top (y := 17) rfl ?_
  refine mh_icmp_ge (pc := 54) (tgt := 75) F dX9_init_54 rfl (by omega) (by omega) (fun c_54 => ?_) (fun c_54 => ?_)
  · exact absurd c_54 (by decide)
  · refine mh_aload4 (pc := 57) F dX9_init_57 ?_
    refine mh_iload5 (pc := 59) F dX9_init_59 ?_
    refine mh_aload2 (pc := 61) F dX9_init_61 ?_
    refine mh_iload5 (pc := 62) F dX9_init_62 ?_
    refine mh_callVSp (pc := 64) (As := [.int (Int32.ofInt (0))]) (st := [.int (Int32.ofInt (0)), .ref 67]) F (by omega) (i := 3) (by decide) rfl (ks_char_3 (by omega) (by omega)) wv_RX9_35_yJ0_charAt_5068e dX9_init_64 rfl rfl rfl (Nat.le_of_ble_eq_true rfl) (by rw [hR.1, hR.2]; exact ⟨Nat.le_of_ble_eq_true rfl, Nat.le_of_ble_eq_true rfl⟩) ?_
    refine mh_i2b (pc := 67) F dX9_init_67 ?_
    refine mh_top (y := 40) (by decide +kernel) ?_
    refine mh_bastore (pc := 68) F sh_67 (by decide) (by omega) dX9_init_68 (by omega) ?_
    refine mh_nmh (fun h10 e10 => ?_)
    have r63_10 : h10 63 = mh_ur (mh_ur (mh_ur (mh_ur (mh_ur (fun _ => (0 : Int)) 2 (((64 : Nat) : Int) + 1)) 4 (((65 : Nat) : Int) + 1)) 6 (((66 : Nat) : Int) + 1)) 0 (((1000001 : Nat) : Int) + 1)) 1 999 := by rw [e10, mh_up_row (by decide)]; exact r63_9
    have r67_10 : h10 67 = mh_ur (fun _ => (0 : Int)) 0 40 := by rw [e10, mh_up_rs, r67_9] <;> rfl
    have fr10 : mh_fr [67, 66, 65, 63, 64] h h10 := mh_fr.upi fr9 e10 (by simp)
    refine mh_iinc5 (pc := 69) F dX9_init_69 rfl (by decide) ?_
    refine mh_goto (pc := 72) (tgt := 49) F dX9_init_72 rfl ?_
    refine mh_iload5 (pc := 49) F dX9_init_49 ?_
    refine mh_aload4 (pc := 51) F dX9_init_51 ?_
    refine mh_alen (pc := 53) F sh_67 (by decide) dX9_init_53 ?_
    refine mh_top (y := 17) rfl ?_
    refine mh_icmp_ge (pc := 54) (tgt := 75) F dX9_init_54 rfl (by omega) (by omega) (fun c_54 => ?_) (fun c_54 => ?_)
    · exact absurd c_54 (by decide)
    · refine mh_aload4 (pc := 57) F dX9_init_57 ?_
      refine mh_iload5 (pc := 59) F dX9_init_59 ?_
      refine mh_aload2 (pc := 61) F dX9_init_61 ?_
      refine mh_iload5 (pc := 62) F dX9_init_62 ?_
      refine mh_callVSp (pc := 64) (As := [.int (Int32.ofInt (1))]) (st := [.int (Int32.ofInt (1)), .ref 67]) F (by omega) (i := 3) (by decide) rfl (ks_char_3 (by omega) (by omega)) wv_RX9_35_yJ0_charAt_5068e dX9_init_64 rfl rfl rfl (Nat.le_of_ble_eq_true rfl) (by rw [hR.1, hR.2]; exact ⟨Nat.le_of_ble_eq_true rfl, Nat.le_of_ble_eq_true rfl⟩) ?_
      refine mh_i2b (pc := 67) F dX9_init_67 ?_
      refine mh_top (y := 115) (by decide +kernel) ?_
      refine mh_bastore (pc := 68) F sh_67 (by decide) (by omega) dX9_init_68 (by omega) ?_
      refine mh_nmh (fun h11 e11 => ?_)
      have r63_11 : h11 63 = mh_ur (mh_ur (mh_ur (mh_ur (mh_ur (fun _ => (0 : Int)) 2 (((64 : Nat) : Int) + 1)) 4 (((65 : Nat) : Int) + 1)) 6 (((66 : Nat) : Int) + 1)) 0 (((1000001 : Nat) : Int) + 1)) 1 999 := by rw [e11, mh_up_row (by decide)]; exact r63_10
      have r67_11 : h11 67 = mh_ur (mh_ur (fun _ => (0 : Int)) 0 40) 1 115 := by rw [e11, mh_up_rs, r67_10] <;> rfl
      have fr11 : mh_fr [67, 66, 65, 63, 64] h h11 := mh_fr.upi fr10 e11 (by simp)
      refine mh_iinc5 (pc := 69) F dX9_init_69 rfl (by decide) ?_
      refine mh_goto (pc := 72) (tgt := 49) F dX9_init_72 rfl ?_
      refine mh_iload5 (pc := 49) F dX9_init_49 ?_
      refine mh_aload4 (pc := 51) F dX9_init_51 ?_
      refine mh_alen (pc := 53) F sh_67 (by decide) dX9_init_53 ?_
      refine mh_top (y := 17) rfl ?_
      refine mh_icmp_ge (pc := 54) (tgt := 75) F dX9_init_54 rfl (by omega) (by omega) (fun c_54 => ?_) (fun c_54 => ?_)
      · exact absurd c_54 (by decide)
      · refine mh_aload4 (pc := 57) F dX9_init_57 ?_
        refine mh_iload5 (pc := 59) F dX9_init_59 ?_
        refine mh_aload2 (pc := 61) F dX9_init_61 ?_
        refine mh_iload5 (pc := 62) F dX9_init_62 ?_
        refine mh_callVSp (pc := 64) (As := [.int (Int32.ofInt (2))]) (st := [.int (Int32.ofInt (2)), .ref 67]) F (by omega) (i := 3) (by decide) rfl (ks_char_3 (by omega) (by omega)) wv_RX9_35_yJ0_charAt_5068e dX9_init_64 rfl rfl rfl (Nat.le_of_ble_eq_true rfl) (by rw [hR.1, hR.2]; exact ⟨Nat.le_of_ble_eq_true rfl, Nat.le_of_ble_eq_true rfl⟩) ?_
        refine mh_i2b (pc := 67) F dX9_init_67 ?_
        refine mh_top (y := 61) (by decide +kernel) ?_
        refine mh_bastore (pc := 68) F sh_67 (by decide) (by omega) dX9_init_68 (by omega) ?_
        refine mh_nmh (fun h12 e12 => ?_)
        have r63_12 : h12 63 = mh_ur (mh_ur (mh_ur (mh_ur (mh_ur (fun _ => (0 : Int)) 2 (((64 : Nat) : Int) + 1)) 4 (((65 : Nat) : Int) + 1)) 6 (((66 : Nat) : Int) + 1)) 0 (((1000001 : Nat) : Int) + 1)) 1 999 := by rw [e12, mh_up_row (by decide)]; exact r63_11
        have r67_12 : h12 67 = mh_ur (mh_ur (mh_ur (fun _ => (0 : Int)) 0 40) 1 115) 2 61 := by rw [e12, mh_up_rs, r67_11] <;> rfl
        have fr12 : mh_fr [67, 66, 65, 63, 64] h h12 := mh_fr.upi fr11 e12 (by simp)
        refine mh_iinc5 (pc := 69) F dX9_init_69 rfl (by decide) ?_
        refine mh_goto (pc := 72) (tgt := 49) F dX9_init_72 rfl ?_
        refine mh_iload5 (pc := 49) F dX9_init_49 ?_
        refine mh_aload4 (pc := 51) F dX9_init_51 ?_
        refine mh_alen (pc := 53) F sh_67 (by decide) dX9_init_53 ?_
        refine mh_top (y := 17) rfl ?_
        refine mh_icmp_ge (pc := 54) (tgt := 75) F dX9_init_54 rfl (by omega) (by omega) (fun c_54 => ?_) (fun c_54 => ?_)
        · exact absurd c_54 (by decide)
        · refine mh_aload4 (pc := 57) F dX9_init_57 ?_
          refine mh_iload5 (pc := 59) F dX9_init_59 ?_
          refine mh_aload2 (pc := 61) F dX9_init_61 ?_
          refine mh_iload5 (pc := 62) F dX9_init_62 ?_
          refine mh_callVSp (pc := 64) (As := [.int (Int32.ofInt (3))]) (st := [.int (Int32.ofInt (3)), .ref 67]) F (by omega) (i := 3) (by decide) rfl (ks_char_3 (by omega) (by omega)) wv_RX9_35_yJ0_charAt_5068e dX9_init_64 rfl rfl rfl (Nat.le_of_ble_eq_true rfl) (by rw [hR.1, hR.2]; exact ⟨Nat.le_of_ble_eq_true rfl, Nat.le_of_ble_eq_true rfl⟩) ?_
          refine mh_i2b (pc := 67) F dX9_init_67 ?_
          refine mh_top (y := 48) (by decide +kernel) ?_
          refine mh_bastore (pc := 68) F sh_67 (by decide) (by omega) dX9_init_68 (by omega) ?_
          refine mh_nmh (fun h13 e13 => ?_)
          have r63_13 : h13 63 = mh_ur (mh_ur (mh_ur (mh_ur (mh_ur (fun _ => (0 : Int)) 2 (((64 : Nat) : Int) + 1)) 4 (((65 : Nat) : Int) + 1)) 6 (((66 : Nat) : Int) + 1)) 0 (((1000001 : Nat) : Int) + 1)) 1 999 := by rw [e13, mh_up_row (by decide)]; exact r63_12
          have r67_13 : h13 67 = mh_ur (mh_ur (mh_ur (mh_ur (fun _ => (0 : Int)) 0 40) 1 115) 2 61) 3 48 := by rw [e13, mh_up_rs, r67_12] <;> rfl
          have fr13 : mh_fr [67, 66, 65, 63, 64] h h13 := mh_fr.upi fr12 e13 (by simp)
          refine mh_iinc5 (pc := 69) F dX9_init_69 rfl (by decide) ?_
          refine mh_goto (pc := 72) (tgt := 49) F dX9_init_72 rfl ?_
          refine mh_iload5 (pc := 49) F dX9_init_49 ?_
          refine mh_aload4 (pc := 51) F dX9_init_51 ?_
          refine mh_alen (pc := 53) F sh_67 (by decide) dX9_init_53 ?_
          refine mh_top (y := 17) rfl ?_
          refine mh_icmp_ge (pc := 54) (tgt := 75) F dX9_init_54 rfl (by omega) (by omega) (fun c_54 => ?_) (fun c_54 => ?_)
          · exact absurd c_54 (by decide)
          · refine mh_aload4 (pc := 57) F dX9_init_57 ?_
            refine mh_iload5 (pc := 59) F dX9_init_59 ?_
            refine mh_aload2 (pc := 61) F dX9_init_61 ?_
            refine mh_iload5 (pc := 62) F dX9_init_62 ?_
            refine mh_callVSp (pc := 64) (As := [.int (Int32.ofInt (4))]) (st := [.int (Int32.ofInt (4)), .ref 67]) F (by omega) (i := 3) (by decide) rfl (ks_char_3 (by omega) (by omega)) wv_RX9_35_yJ0_charAt_5068e dX9_init_64 rfl rfl rfl (Nat.le_of_ble_eq_true rfl) (by rw [hR.1, hR.2]; exact ⟨Nat.le_of_ble_eq_true rfl, Nat.le_of_ble_eq_true rfl⟩) ?_
            refine mh_i2b (pc := 67) F dX9_init_67 ?_
            refine mh_top (y := 41) (by decide +kernel) ?_
            refine mh_bastore (pc := 68) F sh_67 (by decide) (by omega) dX9_init_68 (by omega) ?_
            refine mh_nmh (fun h14 e14 => ?_)
            have r63_14 : h14 63 = mh_ur (mh_ur (mh_ur (mh_ur (mh_ur (fun _ => (0 : Int)) 2 (((64 : Nat) : Int) + 1)) 4 (((65 : Nat) : Int) + 1)) 6 (((66 : Nat) : Int) + 1)) 0 (((1000001 : Nat) : Int) + 1)) 1 999 := by rw [e14, mh_up_row (by decide)]; exact r63_13
            have r67_14 : h14 67 = mh_ur (mh_ur (mh_ur (mh_ur (mh_ur (fun _ => (0 : Int)) 0 40) 1 115) 2 61) 3 48) 4 41 := by rw [e14, mh_up_rs, r67_13] <;> rfl
            have fr14 : mh_fr [67, 66, 65, 63, 64] h h14 := mh_fr.upi fr13 e14 (by simp)
            refine mh_iinc5 (pc := 69) F dX9_init_69 rfl (by decide) ?_
            refine mh_goto (pc := 72) (tgt := 49) F dX9_init_72 rfl ?_
            refine mh_iload5 (pc := 49) F dX9_init_49 ?_
            refine mh_aload4 (pc := 51) F dX9_init_51 ?_
            refine mh_alen (pc := 53) F sh_67 (by decide) dX9_init_53 ?_
            refine mh_top (y := 17) rfl ?_
            refine mh_icmp_ge (pc := 54) (tgt := 75) F dX9_init_54 rfl (by omega) (by omega) (fun c_54 => ?_) (fun c_54 => ?_)
            · exact absurd c_54 (by decide)
            · refine mh_aload4 (pc := 57) F dX9_init_57 ?_
              refine mh_iload5 (pc := 59) F dX9_init_59 ?_
              refine mh_aload2 (pc := 61) F dX9_init_61 ?_
              refine mh_iload5 (pc := 62) F dX9_init_62 ?_
              refine mh_callVSp (pc := 64) (As := [.int (Int32.ofInt (5))]) (st := [.int (Int32.ofInt (5)), .ref 67]) F (by omega) (i := 3) (by decide) rfl (ks_char_3 (by omega) (by omega)) wv_RX9_35_yJ0_charAt_5068e dX9_init_64 rfl rfl rfl (Nat.le_of_ble_eq_true rfl) (by rw [hR.1, hR.2]; exact ⟨Nat.le_of_ble_eq_true rfl, Nat.le_of_ble_eq_true rfl⟩) ?_
              refine mh_i2b (pc := 67) F dX9_init_67 ?_
              refine mh_top (y := 42) (by decide +kernel) ?_
              refine mh_bastore (pc := 68) F sh_67 (by decide) (by omega) dX9_init_68 (by omega) ?_
              refine mh_nmh (fun h15 e15 => ?_)
              have r63_15 : h15 63 = mh_ur (mh_ur (mh_ur (mh_ur (mh_ur (fun _ => (0 : Int)) 2 (((64 : Nat) : Int) + 1)) 4 (((65 : Nat) : Int) + 1)) 6 (((66 : Nat) : Int) + 1)) 0 (((1000001 : Nat) : Int) + 1)) 1 999 := by rw [e15, mh_up_row (by decide)]; exact r63_14
              have r67_15 : h15 67 = mh_ur (mh_ur (mh_ur (mh_ur (mh_ur (mh_ur (fun _ => (0 : Int)) 0 40) 1 115) 2 61) 3 48) 4 41) 5 42 := by rw [e15, mh_up_rs, r67_14] <;> rfl
              have fr15 : mh_fr [67, 66, 65, 63, 64] h h15 := mh_fr.upi fr14 e15 (by simp)
              refine mh_iinc5 (pc := 69) F dX9_init_69 rfl (by decide) ?_
              refine mh_goto (pc := 72) (tgt := 49) F dX9_init_72 rfl ?_
              refine mh_iload5 (pc := 49) F dX9_init_49 ?_
              refine mh_aload4 (pc := 51) F dX9_init_51 ?_
              refine mh_alen (pc := 53) F sh_67 (by decide) dX9_init_53 ?_
              refine mh_top (y := 17) rfl ?_
              refine mh_icmp_ge (pc := 54) (tgt := 75) F dX9_init_54 rfl (by omega) (by omega) (fun c_54 => ?_) (fun c_54 => ?_)
              · exact absurd c_54 (by decide)
              · refine mh_aload4 (pc := 57) F dX9_init_57 ?_
                refine mh_iload5 (pc := 59) F dX9_init_59 ?_
                refine mh_aload2 (pc := 61) F dX9_init_61 ?_
                refine mh_iload5 (pc := 62) F dX9_init_62 ?_
                refine mh_callVSp (pc := 64) (As := [.int (Int32.ofInt (6))]) (st := [.int (Int32.ofInt (6)), .ref 67]) F (by omega) (i := 3) (by decide) rfl (ks_char_3 (by omega) (by omega)) wv_RX9_35_yJ0_charAt_5068e dX9_init_64 rfl rfl rfl (Nat.le_of_ble_eq_true rfl) (by rw [hR.1, hR.2]; exact ⟨Nat.le_of_ble_eq_true rfl, Nat.le_of_ble_eq_true rfl⟩) ?_
                refine mh_i2b (pc := 67) F dX9_init_67 ?_
                refine mh_top (y := 53) (by decide +kernel) ?_
                refine mh_bastore (pc := 68) F sh_67 (by decide) (by omega) dX9_init_68 (by omega) ?_
                refine mh_nmh (fun h16 e16 => ?_)
                have r63_16 : h16 63 = mh_ur (mh_ur (mh_ur (mh_ur (mh_ur (fun _ => (0 : Int)) 2 (((64 : Nat) : Int) + 1)) 4 (((65 : Nat) : Int) + 1)) 6 (((66 : Nat) : Int) + 1)) 0 (((1000001 : Nat) : Int) + 1)) 1 999 := by rw [e16, mh_up_row (by decide)]; exact r63_15
                have r67_16 : h16 67 = mh_ur (mh_ur (mh_ur (mh_ur (mh_ur (mh_ur (mh_ur (fun _ => (0 : Int)) 0 40) 1 115) 2 61) 3 48) 4 41) 5 42) 6 53 := by rw [e16, mh_up_rs, r67_15] <;> rfl
                have fr16 : mh_fr [67, 66, 65, 63, 64] h h16 := mh_fr.upi fr15 e16 (by simp)
                refine mh_iinc5 (pc := 69) F dX9_init_69 rfl (by decide) ?_
                refine mh_goto (pc := 72) (tgt := 49) F dX9_init_72 rfl ?_
                refine mh_iload5 (pc := 49) F dX9_init_49 ?_
                refine mh_aload4 (pc := 51) F dX9_init_51 ?_
                refine mh_alen (pc := 53) F sh_67 (by decide) dX9_init_53 ?_
                refine mh_top (y := 17) rfl ?_
                refine mh_icmp_ge (pc := 54) (tgt := 75) F dX9_init_54 rfl (by omega) (by omega) (fun c_54 => ?_) (fun c_54 => ?_)
                · exact absurd c_54 (by decide)
                · refine mh_aload4 (pc := 57) F dX9_init_57 ?_
                  refine mh_iload5 (pc := 59) F dX9_init_59 ?_
                  refine mh_aload2 (pc := 61) F dX9_init_61 ?_
                  refine mh_iload5 (pc := 62) F dX9_init_62 ?_
                  refine mh_callVSp (pc := 64) (As := [.int (Int32.ofInt (7))]) (st := [.int (Int32.ofInt (7)), .ref 67]) F (by omega) (i := 3) (by decide) rfl (ks_char_3 (by omega) (by omega)) wv_RX9_35_yJ0_charAt_5068e dX9_init_64 rfl rfl rfl (Nat.le_of_ble_eq_true rfl) (by rw [hR.1, hR.2]; exact ⟨Nat.le_of_ble_eq_true rfl, Nat.le_of_ble_eq_true rfl⟩) ?_
                  refine mh_i2b (pc := 67) F dX9_init_67 ?_
                  refine mh_top (y := 48) (by decide +kernel) ?_
                  refine mh_bastore (pc := 68) F sh_67 (by decide) (by omega) dX9_init_68 (by omega) ?_
                  refine mh_nmh (fun h17 e17 => ?_)
                  have r63_17 : h17 63 = mh_ur (mh_ur (mh_ur (mh_ur (mh_ur (fun _ => (0 : Int)) 2 (((64 : Nat) : Int) + 1)) 4 (((65 : Nat) : Int) + 1)) 6 (((66 : Nat) : Int) + 1)) 0 (((1000001 : Nat) : Int) + 1)) 1 999 := by rw [e17, mh_up_row (by decide)]; exact r63_16
                  have r67_17 : h17 67 = mh_ur (mh_ur (mh_ur (mh_ur (mh_ur (mh_ur (mh_ur (mh_ur (fun _ => (0 : Int)) 0 40) 1 115) 2 61) 3 48) 4 41) 5 42) 6 53) 7 48 := by rw [e17, mh_up_rs, r67_16] <;> rfl
                  have fr17 : mh_fr [67, 66, 65, 63, 64] h h17 := mh_fr.upi fr16 e17 (by simp)
                  refine mh_iinc5 (pc := 69) F dX9_init_69 rfl (by decide) ?_
                  refine mh_goto (pc := 72) (tgt := 49) F dX9_init_72 rfl ?_
                  refine mh_iload5 (pc := 49) F dX9_init_49 ?_
                  refine mh_aload4 (pc := 51) F dX9_init_51 ?_
                  refine mh_alen (pc := 53) F sh_67 (by decide) dX9_init_53 ?_
                  refine mh_top (y := 17) rfl ?_
                  refine mh_icmp_ge (pc := 54) (tgt := 75) F dX9_init_54 rfl (by omega) (by omega) (fun c_54 => ?_) (fun c_54 => ?_)
                  · exact absurd c_54 (by decide)
                  · refine mh_aload4 (pc := 57) F dX9_init_57 ?_
                    refine mh_iload5 (pc := 59) F dX9_init_59 ?_
                    refine mh_aload2 (pc := 61) F dX9_init_61 ?_
                    refine mh_iload5 (pc := 62) F dX9_init_62 ?_
                    refine mh_callVSp (pc := 64) (As := [.int (Int32.ofInt (8))]) (st := [.int (Int32.ofInt (8)), .ref 67]) F (by omega) (i := 3) (by decide) rfl (ks_char_3 (by omega) (by omega)) wv_RX9_35_yJ0_charAt_5068e dX9_init_64 rfl rfl rfl (Nat.le_of_ble_eq_true rfl) (by rw [hR.1, hR.2]; exact ⟨Nat.le_of_ble_eq_true rfl, Nat.le_of_ble_eq_true rfl⟩) ?_
                    refine mh_i2b (pc := 67) F dX9_init_67 ?_
                    refine mh_top (y := 43) (by decide +kernel) ?_
                    refine mh_bastore (pc := 68) F sh_67 (by decide) (by omega) dX9_init_68 (by omega) ?_
                    refine mh_nmh (fun h18 e18 => ?_)
                    have r63_18 : h18 63 = mh_ur (mh_ur (mh_ur (mh_ur (mh_ur (fun _ => (0 : Int)) 2 (((64 : Nat) : Int) + 1)) 4 (((65 : Nat) : Int) + 1)) 6 (((66 : Nat) : Int) + 1)) 0 (((1000001 : Nat) : Int) + 1)) 1 999 := by rw [e18, mh_up_row (by decide)]; exact r63_17
                    have r67_18 : h18 67 = mh_ur (mh_ur (mh_ur (mh_ur (mh_ur (mh_ur (mh_ur (mh_ur (mh_ur (fun _ => (0 : Int)) 0 40) 1 115) 2 61) 3 48) 4 41) 5 42) 6 53) 7 48) 8 43 := by rw [e18, mh_up_rs, r67_17] <;> rfl
                    have fr18 : mh_fr [67, 66, 65, 63, 64] h h18 := mh_fr.upi fr17 e18 (by simp)
                    refine mh_iinc5 (pc := 69) F dX9_init_69 rfl (by decide) ?_
                    refine mh_goto (pc := 72) (tgt := 49) F dX9_init_72 rfl ?_
                    refine mh_iload5 (pc := 49) F dX9_init_49 ?_
                    refine mh_aload4 (pc := 51) F dX9_init_51 ?_
                    refine mh_alen (pc := 53) F sh_67 (by decide) dX9_init_53 ?_
                    refine mh_top (y := 17) rfl ?_
                    refine mh_icmp_ge (pc := 54) (tgt := 75) F dX9_init_54 rfl (by omega) (by omega) (fun c_54 => ?_) (fun c_54 => ?_)
                    · exact absurd c_54 (by decide)
                    · refine mh_aload4 (pc := 57) F dX9_init_57 ?_
                      refine mh_iload5 (pc := 59) F dX9_init_59 ?_
                      refine mh_aload2 (pc := 61) F dX9_init_61 ?_
                      refine mh_iload5 (pc := 62) F dX9_init_62 ?_
                      refine mh_callVSp (pc := 64) (As := [.int (Int32.ofInt (9))]) (st := [.int (Int32.ofInt (9)), .ref 67]) F (by omega) (i := 3) (by decide) rfl (ks_char_3 (by omega) (by omega)) wv_RX9_35_yJ0_charAt_5068e dX9_init_64 rfl rfl rfl (Nat.le_of_ble_eq_true rfl) (by rw [hR.1, hR.2]; exact ⟨Nat.le_of_ble_eq_true rfl, Nat.le_of_ble_eq_true rfl⟩) ?_
                      refine mh_i2b (pc := 67) F dX9_init_67 ?_
                      refine mh_top (y := 40) (by decide +kernel) ?_
                      refine mh_bastore (pc := 68) F sh_67 (by decide) (by omega) dX9_init_68 (by omega) ?_
                      refine mh_nmh (fun h19 e19 => ?_)
                      have r63_19 : h19 63 = mh_ur (mh_ur (mh_ur (mh_ur (mh_ur (fun _ => (0 : Int)) 2 (((64 : Nat) : Int) + 1)) 4 (((65 : Nat) : Int) + 1)) 6 (((66 : Nat) : Int) + 1)) 0 (((1000001 : Nat) : Int) + 1)) 1 999 := by rw [e19, mh_up_row (by decide)]; exact r63_18
                      have r67_19 : h19 67 = mh_ur (mh_ur (mh_ur (mh_ur (mh_ur (mh_ur (mh_ur (mh_ur (mh_ur (mh_ur (fun _ => (0 : Int)) 0 40) 1 115) 2 61) 3 48) 4 41) 5 42) 6 53) 7 48) 8 43) 9 40 := by rw [e19, mh_up_rs, r67_18] <;> rfl
                      have fr19 : mh_fr [67, 66, 65, 63, 64] h h19 := mh_fr.upi fr18 e19 (by simp)
                      refine mh_iinc5 (pc := 69) F dX9_init_69 rfl (by decide) ?_
                      refine mh_goto (pc := 72) (tgt := 49) F dX9_init_72 rfl ?_
                      refine mh_iload5 (pc := 49) F dX9_init_49 ?_
                      refine mh_aload4 (pc := 51) F dX9_init_51 ?_
                      refine mh_alen (pc := 53) F sh_67 (by decide) dX9_init_53 ?_
                      refine mh_top (y := 17) rfl ?_
                      refine mh_icmp_ge (pc := 54) (tgt := 75) F dX9_init_54 rfl (by omega) (by omega) (fun c_54 => ?_) (fun c_54 => ?_)
                      · exact absurd c_54 (by decide)
                      · refine mh_aload4 (pc := 57) F dX9_init_57 ?_
                        refine mh_iload5 (pc := 59) F dX9_init_59 ?_
                        refine mh_aload2 (pc := 61) F dX9_init_61 ?_
                        refine mh_iload5 (pc := 62) F dX9_init_62 ?_
                        refine mh_callVSp (pc := 64) (As := [.int (Int32.ofInt (10))]) (st := [.int (Int32.ofInt (10)), .ref 67]) F (by omega) (i := 3) (by decide) rfl (ks_char_3 (by omega) (by omega)) wv_RX9_35_yJ0_charAt_5068e dX9_init_64 rfl rfl rfl (Nat.le_of_ble_eq_true rfl) (by rw [hR.1, hR.2]; exact ⟨Nat.le_of_ble_eq_true rfl, Nat.le_of_ble_eq_true rfl⟩) ?_
                        refine mh_i2b (pc := 67) F dX9_init_67 ?_
                        refine mh_top (y := 115) (by decide +kernel) ?_
                        refine mh_bastore (pc := 68) F sh_67 (by decide) (by omega) dX9_init_68 (by omega) ?_
                        refine mh_nmh (fun h20 e20 => ?_)
                        have r63_20 : h20 63 = mh_ur (mh_ur (mh_ur (mh_ur (mh_ur (fun _ => (0 : Int)) 2 (((64 : Nat) : Int) + 1)) 4 (((65 : Nat) : Int) + 1)) 6 (((66 : Nat) : Int) + 1)) 0 (((1000001 : Nat) : Int) + 1)) 1 999 := by rw [e20, mh_up_row (by decide)]; exact r63_19
                        have r67_20 : h20 67 = mh_ur (mh_ur (mh_ur (mh_ur (mh_ur (mh_ur (mh_ur (mh_ur (mh_ur (mh_ur (mh_ur (fun _ => (0 : Int)) 0 40) 1 115) 2 61) 3 48) 4 41) 5 42) 6 53) 7 48) 8 43) 9 40) 10 115 := by rw [e20, mh_up_rs, r67_19] <;> rfl
                        have fr20 : mh_fr [67, 66, 65, 63, 64] h h20 := mh_fr.upi fr19 e20 (by simp)
                        refine mh_iinc5 (pc := 69) F dX9_init_69 rfl (by decide) ?_
                        refine mh_goto (pc := 72) (tgt := 49) F dX9_init_72 rfl ?_
                        refine mh_iload5 (pc := 49) F dX9_init_49 ?_
                        refine mh_aload4 (pc := 51) F dX9_init_51 ?_
                        refine mh_alen (pc := 53) F sh_67 (by decide) dX9_init_53 ?_
                        refine mh_top (y := 17) rfl ?_
                        refine mh_icmp_ge (pc := 54) (tgt := 75) F dX9_init_54 rfl (by omega) (by omega) (fun c_54 => ?_) (fun c_54 => ?_)
                        · exact absurd c_54 (by decide)
                        · refine mh_aload4 (pc := 57) F dX9_init_57 ?_
                          refine mh_iload5 (pc := 59) F dX9_init_59 ?_
                          refine mh_aload2 (pc := 61) F dX9_init_61 ?_
                          refine mh_iload5 (pc := 62) F dX9_init_62 ?_
                          refine mh_callVSp (pc := 64) (As := [.int (Int32.ofInt (11))]) (st := [.int (Int32.ofInt (11)), .ref 67]) F (by omega) (i := 3) (by decide) rfl (ks_char_3 (by omega) (by omega)) wv_RX9_35_yJ0_charAt_5068e dX9_init_64 rfl rfl rfl (Nat.le_of_ble_eq_true rfl) (by rw [hR.1, hR.2]; exact ⟨Nat.le_of_ble_eq_true rfl, Nat.le_of_ble_eq_true rfl⟩) ?_
                          refine mh_i2b (pc := 67) F dX9_init_67 ?_
                          refine mh_top (y := 61) (by decide +kernel) ?_
                          refine mh_bastore (pc := 68) F sh_67 (by decide) (by omega) dX9_init_68 (by omega) ?_
                          refine mh_nmh (fun h21 e21 => ?_)
                          have r63_21 : h21 63 = mh_ur (mh_ur (mh_ur (mh_ur (mh_ur (fun _ => (0 : Int)) 2 (((64 : Nat) : Int) + 1)) 4 (((65 : Nat) : Int) + 1)) 6 (((66 : Nat) : Int) + 1)) 0 (((1000001 : Nat) : Int) + 1)) 1 999 := by rw [e21, mh_up_row (by decide)]; exact r63_20
                          have r67_21 : h21 67 = mh_ur (mh_ur (mh_ur (mh_ur (mh_ur (mh_ur (mh_ur (mh_ur (mh_ur (mh_ur (mh_ur (mh_ur (fun _ => (0 : Int)) 0 40) 1 115) 2 61) 3 48) 4 41) 5 42) 6 53) 7 48) 8 43) 9 40) 10 115) 11 61 := by rw [e21, mh_up_rs, r67_20] <;> rfl
                          have fr21 : mh_fr [67, 66, 65, 63, 64] h h21 := mh_fr.upi fr20 e21 (by simp)
                          refine mh_iinc5 (pc := 69) F dX9_init_69 rfl (by decide) ?_
                          refine mh_goto (pc := 72) (tgt := 49) F dX9_init_72 rfl ?_
                          refine mh_iload5 (pc := 49) F dX9_init_49 ?_
                          refine mh_aload4 (pc := 51) F dX9_init_51 ?_
                          refine mh_alen (pc := 53) F sh_67 (by decide) dX9_init_53 ?_
                          refine mh_top (y := 17) rfl ?_
                          refine mh_icmp_ge (pc := 54) (tgt := 75) F dX9_init_54 rfl (by omega) (by omega) (fun c_54 => ?_) (fun c_54 => ?_)
                          · exact absurd c_54 (by decide)
                          · refine mh_aload4 (pc := 57) F dX9_init_57 ?_
                            refine mh_iload5 (pc := 59) F dX9_init_59 ?_
                            refine mh_aload2 (pc := 61) F dX9_init_61 ?_
                            refine mh_iload5 (pc := 62) F dX9_init_62 ?_
                            refine mh_callVSp (pc := 64) (As := [.int (Int32.ofInt (12))]) (st := [.int (Int32.ofInt (12)), .ref 67]) F (by omega) (i := 3) (by decide) rfl (ks_char_3 (by omega) (by omega)) wv_RX9_35_yJ0_charAt_5068e dX9_init_64 rfl rfl rfl (Nat.le_of_ble_eq_true rfl) (by rw [hR.1, hR.2]; exact ⟨Nat.le_of_ble_eq_true rfl, Nat.le_of_ble_eq_true rfl⟩) ?_
                            refine mh_i2b (pc := 67) F dX9_init_67 ?_
                            refine mh_top (y := 49) (by decide +kernel) ?_
                            refine mh_bastore (pc := 68) F sh_67 (by decide) (by omega) dX9_init_68 (by omega) ?_
                            refine mh_nmh (fun h22 e22 => ?_)
                            have r63_22 : h22 63 = mh_ur (mh_ur (mh_ur (mh_ur (mh_ur (fun _ => (0 : Int)) 2 (((64 : Nat) : Int) + 1)) 4 (((65 : Nat) : Int) + 1)) 6 (((66 : Nat) : Int) + 1)) 0 (((1000001 : Nat) : Int) + 1)) 1 999 := by rw [e22, mh_up_row (by decide)]; exact r63_21
                            have r67_22 : h22 67 = mh_ur (mh_ur (mh_ur (mh_ur (mh_ur (mh_ur (mh_ur (mh_ur (mh_ur (mh_ur (mh_ur (mh_ur (mh_ur (fun _ => (0 : Int)) 0 40) 1 115) 2 61) 3 48) 4 41) 5 42) 6 53) 7 48) 8 43) 9 40) 10 115) 11 61) 12 49 := by rw [e22, mh_up_rs, r67_21] <;> rfl
                            have fr22 : mh_fr [67, 66, 65, 63, 64] h h22 := mh_fr.upi fr21 e22 (by simp)
                            refine mh_iinc5 (pc := 69) F dX9_init_69 rfl (by decide) ?_
                            refine mh_goto (pc := 72) (tgt := 49) F dX9_init_72 rfl ?_
                            refine mh_iload5 (pc := 49) F dX9_init_49 ?_
                            refine mh_aload4 (pc := 51) F dX9_init_51 ?_
                            refine mh_alen (pc := 53) F sh_67 (by decide) dX9_init_53 ?_
                            refine mh_top (y := 17) rfl ?_
                            refine mh_icmp_ge (pc := 54) (tgt := 75) F dX9_init_54 rfl (by omega) (by omega) (fun c_54 => ?_) (fun c_54 => ?_)
                            · exact absurd c_54 (by decide)
                            · refine mh_aload4 (pc := 57) F dX9_init_57 ?_
                              refine mh_iload5 (pc := 59) F dX9_init_59 ?_
                              refine mh_aload2 (pc := 61) F dX9_init_61 ?_
                              refine mh_iload5 (pc := 62) F dX9_init_62 ?_
                              refine mh_callVSp (pc := 64) (As := [.int (Int32.ofInt (13))]) (st := [.int (Int32.ofInt (13)), .ref 67]) F (by omega) (i := 3) (by decide) rfl (ks_char_3 (by omega) (by omega)) wv_RX9_35_yJ0_charAt_5068e dX9_init_64 rfl rfl rfl (Nat.le_of_ble_eq_true rfl) (by rw [hR.1, hR.2]; exact ⟨Nat.le_of_ble_eq_true rfl, Nat.le_of_ble_eq_true rfl⟩) ?_
                              refine mh_i2b (pc := 67) F dX9_init_67 ?_
                              refine mh_top (y := 41) (by decide +kernel) ?_
                              refine mh_bastore (pc := 68) F sh_67 (by decide) (by omega) dX9_init_68 (by omega) ?_
                              refine mh_nmh (fun h23 e23 => ?_)
                              have r63_23 : h23 63 = mh_ur (mh_ur (mh_ur (mh_ur (mh_ur (fun _ => (0 : Int)) 2 (((64 : Nat) : Int) + 1)) 4 (((65 : Nat) : Int) + 1)) 6 (((66 : Nat) : Int) + 1)) 0 (((1000001 : Nat) : Int) + 1)) 1 999 := by rw [e23, mh_up_row (by decide)]; exact r63_22
                              have r67_23 : h23 67 = mh_ur (mh_ur (mh_ur (mh_ur (mh_ur (mh_ur (mh_ur (mh_ur (mh_ur (mh_ur (mh_ur (mh_ur (mh_ur (mh_ur (fun _ => (0 : Int)) 0 40) 1 115) 2 61) 3 48) 4 41) 5 42) 6 53) 7 48) 8 43) 9 40) 10 115) 11 61) 12 49) 13 41 := by rw [e23, mh_up_rs, r67_22] <;> rfl
                              have fr23 : mh_fr [67, 66, 65, 63, 64] h h23 := mh_fr.upi fr22 e23 (by simp)
                              refine mh_iinc5 (pc := 69) F dX9_init_69 rfl (by decide) ?_
                              refine mh_goto (pc := 72) (tgt := 49) F dX9_init_72 rfl ?_
                              refine mh_iload5 (pc := 49) F dX9_init_49 ?_
                              refine mh_aload4 (pc := 51) F dX9_init_51 ?_
                              refine mh_alen (pc := 53) F sh_67 (by decide) dX9_init_53 ?_
                              refine mh_top (y := 17) rfl ?_
                              refine mh_icmp_ge (pc := 54) (tgt := 75) F dX9_init_54 rfl (by omega) (by omega) (fun c_54 => ?_) (fun c_54 => ?_)
                              · exact absurd c_54 (by decide)
                              · refine mh_aload4 (pc := 57) F dX9_init_57 ?_
                                refine mh_iload5 (pc := 59) F dX9_init_59 ?_
                                refine mh_aload2 (pc := 61) F dX9_init_61 ?_
                                refine mh_iload5 (pc := 62) F dX9_init_62 ?_
                                refine mh_callVSp (pc := 64) (As := [.int (Int32.ofInt (14))]) (st := [.int (Int32.ofInt (14)), .ref 67]) F (by omega) (i := 3) (by decide) rfl (ks_char_3 (by omega) (by omega)) wv_RX9_35_yJ0_charAt_5068e dX9_init_64 rfl rfl rfl (Nat.le_of_ble_eq_true rfl) (by rw [hR.1, hR.2]; exact ⟨Nat.le_of_ble_eq_true rfl, Nat.le_of_ble_eq_true rfl⟩) ?_
                                refine mh_i2b (pc := 67) F dX9_init_67 ?_
                                refine mh_top (y := 42) (by decide +kernel) ?_
                                refine mh_bastore (pc := 68) F sh_67 (by decide) (by omega) dX9_init_68 (by omega) ?_
                                refine mh_nmh (fun h24 e24 => ?_)
                                have r63_24 : h24 63 = mh_ur (mh_ur (mh_ur (mh_ur (mh_ur (fun _ => (0 : Int)) 2 (((64 : Nat) : Int) + 1)) 4 (((65 : Nat) : Int) + 1)) 6 (((66 : Nat) : Int) + 1)) 0 (((1000001 : Nat) : Int) + 1)) 1 999 := by rw [e24, mh_up_row (by decide)]; exact r63_23
                                have r67_24 : h24 67 = mh_ur (mh_ur (mh_ur (mh_ur (mh_ur (mh_ur (mh_ur (mh_ur (mh_ur (mh_ur (mh_ur (mh_ur (mh_ur (mh_ur (mh_ur (fun _ => (0 : Int)) 0 40) 1 115) 2 61) 3 48) 4 41) 5 42) 6 53) 7 48) 8 43) 9 40) 10 115) 11 61) 12 49) 13 41) 14 42 := by rw [e24, mh_up_rs, r67_23] <;> rfl
                                have fr24 : mh_fr [67, 66, 65, 63, 64] h h24 := mh_fr.upi fr23 e24 (by simp)
                                refine mh_iinc5 (pc := 69) F dX9_init_69 rfl (by decide) ?_
                                refine mh_goto (pc := 72) (tgt := 49) F dX9_init_72 rfl ?_
                                refine mh_iload5 (pc := 49) F dX9_init_49 ?_
                                refine mh_aload4 (pc := 51) F dX9_init_51 ?_
                                refine mh_alen (pc := 53) F sh_67 (by decide) dX9_init_53 ?_
                                refine mh_top (y := 17) rfl ?_
                                refine mh_icmp_ge (pc := 54) (tgt := 75) F dX9_init_54 rfl (by omega) (by omega) (fun c_54 => ?_) (fun c_54 => ?_)
                                · exact absurd c_54 (by decide)
                                · refine mh_aload4 (pc := 57) F dX9_init_57 ?_
                                  refine mh_iload5 (pc := 59) F dX9_init_59 ?_
                                  refine mh_aload2 (pc := 61) F dX9_init_61 ?_
                                  refine mh_iload5 (pc := 62) F dX9_init_62 ?_
                                  refine mh_callVSp (pc := 64) (As := [.int (Int32.ofInt (15))]) (st := [.int (Int32.ofInt (15)), .ref 67]) F (by omega) (i := 3) (by decide) rfl (ks_char_3 (by omega) (by omega)) wv_RX9_35_yJ0_charAt_5068e dX9_init_64 rfl rfl rfl (Nat.le_of_ble_eq_true rfl) (by rw [hR.1, hR.2]; exact ⟨Nat.le_of_ble_eq_true rfl, Nat.le_of_ble_eq_true rfl⟩) ?_
                                  refine mh_i2b (pc := 67) F dX9_init_67 ?_
                                  refine mh_top (y := 51) (by decide +kernel) ?_
                                  refine mh_bastore (pc := 68) F sh_67 (by decide) (by omega) dX9_init_68 (by omega) ?_
                                  refine mh_nmh (fun h25 e25 => ?_)
                                  have r63_25 : h25 63 = mh_ur (mh_ur (mh_ur (mh_ur (mh_ur (fun _ => (0 : Int)) 2 (((64 : Nat) : Int) + 1)) 4 (((65 : Nat) : Int) + 1)) 6 (((66 : Nat) : Int) + 1)) 0 (((1000001 : Nat) : Int) + 1)) 1 999 := by rw [e25, mh_up_row (by decide)]; exact r63_24
                                  have r67_25 : h25 67 = mh_ur (mh_ur (mh_ur (mh_ur (mh_ur (mh_ur (mh_ur (mh_ur (mh_ur (mh_ur (mh_ur (mh_ur (mh_ur (mh_ur (mh_ur (mh_ur (fun _ => (0 : Int)) 0 40) 1 115) 2 61) 3 48) 4 41) 5 42) 6 53) 7 48) 8 43) 9 40) 10 115) 11 61) 12 49) 13 41) 14 42) 15 51 := by rw [e25, mh_up_rs, r67_24] <;> rfl
                                  have fr25 : mh_fr [67, 66, 65, 63, 64] h h25 := mh_fr.upi fr24 e25 (by simp)
                                  refine mh_iinc5 (pc := 69) F dX9_init_69 rfl (by decide) ?_
                                  refine mh_goto (pc := 72) (tgt := 49) F dX9_init_72 rfl ?_
                                  refine mh_iload5 (pc := 49) F dX9_init_49 ?_
                                  refine mh_aload4 (pc := 51) F dX9_init_51 ?_
                                  refine mh_alen (pc := 53) F sh_67 (by decide) dX9_init_53 ?_
                                  refine mh_top (y := 17) rfl ?_
                                  refine mh_icmp_ge (pc := 54) (tgt := 75) F dX9_init_54 rfl (by omega) (by omega) (fun c_54 => ?_) (fun c_54 => ?_)
                                  · exact absurd c_54 (by decide)
                                  · refine mh_aload4 (pc := 57) F dX9_init_57 ?_
                                    refine mh_iload5 (pc := 59) F dX9_init_59 ?_
                                    refine mh_aload2 (pc := 61) F dX9_init_61 ?_
                                    refine mh_iload5 (pc := 62) F dX9_init_62 ?_
                                    refine mh_callVSp (pc := 64) (As := [.int (Int32.ofInt (16))]) (st := [.int (Int32.ofInt (16)), .ref 67]) F (by omega) (i := 3) (by decide) rfl (ks_char_3 (by omega) (by omega)) wv_RX9_35_yJ0_charAt_5068e dX9_init_64 rfl rfl rfl (Nat.le_of_ble_eq_true rfl) (by rw [hR.1, hR.2]; exact ⟨Nat.le_of_ble_eq_true rfl, Nat.le_of_ble_eq_true rfl⟩) ?_
                                    refine mh_i2b (pc := 67) F dX9_init_67 ?_
                                    refine mh_top (y := 48) (by decide +kernel) ?_
                                    refine mh_bastore (pc := 68) F sh_67 (by decide) (by omega) dX9_init_68 (by omega) ?_
                                    refine mh_nmh (fun h26 e26 => ?_)
                                    have r63_26 : h26 63 = mh_ur (mh_ur (mh_ur (mh_ur (mh_ur (fun _ => (0 : Int)) 2 (((64 : Nat) : Int) + 1)) 4 (((65 : Nat) : Int) + 1)) 6 (((66 : Nat) : Int) + 1)) 0 (((1000001 : Nat) : Int) + 1)) 1 999 := by rw [e26, mh_up_row (by decide)]; exact r63_25
                                    have r67_26 : h26 67 = mh_ur (mh_ur (mh_ur (mh_ur (mh_ur (mh_ur (mh_ur (mh_ur (mh_ur (mh_ur (mh_ur (mh_ur (mh_ur (mh_ur (mh_ur (mh_ur (mh_ur (fun _ => (0 : Int)) 0 40) 1 115) 2 61) 3 48) 4 41) 5 42) 6 53) 7 48) 8 43) 9 40) 10 115) 11 61) 12 49) 13 41) 14 42) 15 51) 16 48 := by rw [e26, mh_up_rs, r67_25] <;> rfl
                                    have fr26 : mh_fr [67, 66, 65, 63, 64] h h26 := mh_fr.upi fr25 e26 (by simp)
                                    refine mh_iinc5 (pc := 69) F dX9_init_69 rfl (by decide) ?_
                                    refine mh_goto (pc := 72) (tgt := 49) F dX9_init_72 rfl ?_
                                    refine mh_iload5 (pc := 49) F dX9_init_49 ?_
                                    refine mh_aload4 (pc := 51) F dX9_init_51 ?_
                                    refine mh_alen (pc := 53) F sh_67 (by decide) dX9_init_53 ?_
                                    refine mh_top (y := 17) rfl ?_
                                    refine mh_icmp_ge (pc := 54) (tgt := 75) F dX9_init_54 rfl (by omega) (by omega) (fun c_54 => ?_) (fun c_54 => ?_)
                                    · refine mh_aload0 (pc := 75) F dX9_init_75 ?_
                                      refine mh_aload4 (pc := 76) F dX9_init_76 ?_
                                      refine mh_aload4 (pc := 78) F dX9_init_78 ?_
                                      refine mh_alen (pc := 80) F sh_67 (by decide) dX9_init_80 ?_
                                      refine mh_top (y := sc_s0 3 4) (by decide +kernel) ?_
                                      have hsb : ∀ k : Nat, k < 17 → mh_and ((mh_ur (mh_ur (mh_ur (mh_ur (mh_ur (mh_ur (mh_ur (mh_ur (mh_ur (mh_ur (mh_ur (mh_ur (mh_ur (mh_ur (mh_ur (mh_ur (mh_ur (fun _ => (0 : Int)) 0 40) 1 115) 2 61) 3 48) 4 41) 5 42) 6 53) 7 48) 8 43) 9 40) 10 115) 11 61) 12 49) 13 41) 14 42) 15 51) 16 48 : Int → Int) (k : Int)) 255 = sc_s0 3 (197 + (k : Int)) := by decide +kernel
                                      have hs4 : sc_s0 3 4 = 17 := by decide +kernel
                                      have hTP : sc_TP h26 67 (sc_s0 3) := ⟨by decide +kernel, fun i i0 i1 => by rw [r67_26]; have z := hsb i.toNat (by rw [hs4] at i1; omega); rw [Int.toNat_of_nonneg i0] at z; exact z⟩
                                      refine mh_callV0 (pc := 81) (As := [.ref 67, .int (Int32.ofInt (sc_s0 3 4))]) (st := []) F (by omega) (k40_read (n := 68) (L := 17) (t := 63) (tp := 67) (U := 1) (s := sc_s0 3) (fr := fun _ => 0) (by omega) r63_26 ⟨sh_63, sh_65, sh_67, by decide, by decide, by decide, by decide +kernel, by decide, by decide⟩ ⟨sh_64, by decide⟩ (by decide +kernel) (by decide +kernel) (by decide +kernel) hTP (sc_s0_by (by decide)) (by decide)) wv_RX9_39_yX9_read dX9_init_81 sh_63 rfl (by decide) rfl rfl (Nat.le_of_ble_eq_true rfl) (by rw [hR.1, hR.2]; exact ⟨Nat.le_of_ble_eq_true rfl, Nat.le_of_ble_eq_true rfl⟩) (fun r27 h27 q27 => ?_)
                                      obtain ⟨rfl, fr27, ht0⟩ := sc_tz_of (q := sc_q1) q27 sc_q1_v.1 (by rw [sc_q1_v.2.1]; decide +kernel) (by rw [sc_q1_v.2.2.1]; rfl) (fun k hk => sc_q1_v.2.2.2 k (by rw [sc_q1_v.2.2.1] at hk; omega)) (by decide +kernel) (by decide +kernel) (by decide +kernel)
                                      have r67_28 : h27 67 = mh_ur (mh_ur (mh_ur (mh_ur (mh_ur (mh_ur (mh_ur (mh_ur (mh_ur (mh_ur (mh_ur (mh_ur (mh_ur (mh_ur (mh_ur (mh_ur (mh_ur (fun _ => (0 : Int)) 0 40) 1 115) 2 61) 3 48) 4 41) 5 42) 6 53) 7 48) 8 43) 9 40) 10 115) 11 61) 12 49) 13 41) 14 42) 15 51) 16 48 := (fr27 _ (by decide)).trans r67_26
                                      have fr28 : mh_fr [67, 66, 65, 63, 64] h h27 := (mh_fr.tr fr26 fr27).mono (by simp)
                                      refine mh_pop (pc := 84) F dX9_init_84 rfl ?_
                                      exact mh_return F Z dX9_init_85 ⟨rfl, (fr28.mono (by simp)), ht0⟩
                                    · exact absurd c_54 (by decide)

