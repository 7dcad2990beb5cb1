def sp_anyb (p : Nat → Bool) : Nat → Bool
  | 0 => false
  | n + 1 => sp_anyb p n || p n
theorem sp_anyb_at {p : Nat → Bool} {x : Int} (h : 0 ≤ x) : sp_anyb p (x + 1).toNat = (sp_anyb p x.toNat || p x.toNat) := by
  rw [show (x + 1).toNat = x.toNat + 1 by omega]; rfl
theorem sp_anyb_mono {p : Nat → Bool} {a : Nat} (n : Nat) (h : sp_anyb p a = true) : sp_anyb p (a + n) = true := by
  induction n with
  | zero => exact h
  | succ n ih => show (sp_anyb p (a + n) || p (a + n)) = true; rw [ih]; rfl
def sp_o4 (o o2 : Int → Int) : Prop := ∀ j, ¬ (17 ≤ j ∧ j ≤ 20) → o2 j = o j
theorem sp_o4.rf {o : Int → Int} : sp_o4 o o := fun _ _ => rfl
theorem sp_o4.tr {o o1 o2 : Int → Int} (h : sp_o4 o o1) (q : sp_o4 o1 o2) : sp_o4 o o2 := fun j hj => (q j hj).trans (h j hj)
theorem sp_o4_bg {o : Int → Int} {a q x y : Int} : sp_o4 o (sp_bg o a q x y) := fun j hj => by unfold sp_bg; rw [mh_ur_ne (by omega), mh_ur_ne (by omega), mh_ur_ne (by omega), mh_ur_ne (by omega)]
theorem sp_o4_str {s o : Int → Int} {k c : Int} : sp_o4 o (sp_str s o k c) := fun j hj => by unfold sp_str; rw [mh_ur_ne (by omega), mh_ur_ne (by omega), mh_ur_ne (by omega)]
theorem sp_o4_strs {s o : Int → Int} {k c : Int} (n : Nat) : sp_o4 o (sp_strs s o k c n) := by
  induction n with
  | zero => exact sp_o4.rf
  | succ n ih => exact ih.tr sp_o4_str
theorem sp_o4_on {s o : Int → Int} {k c : Int} : sp_o4 o (sp_on s o k c) := fun j hj => by unfold sp_on; rw [mh_ur_ne (by omega)]; exact sp_o4_strs _ j hj
theorem sp_bg_at {o : Int → Int} {a q x y : Int} : sp_bg o a q x y 17 = a ∧ sp_bg o a q x y 18 = q ∧ sp_bg o a q x y 19 = x ∧ sp_bg o a q x y 20 = y := by
  unfold sp_bg
  refine ⟨?_, ?_, ?_, ?_⟩
  · rw [mh_ur_ne (by decide), mh_ur_ne (by decide), mh_ur_ne (by decide), mh_ur_eq rfl]
  · rw [mh_ur_ne (by decide), mh_ur_ne (by decide), mh_ur_eq rfl]
  · rw [mh_ur_ne (by decide), mh_ur_eq rfl]
  · rw [mh_ur_eq rfl]
def sp_bad (s : Int → Int) (k : Int) (o : Int → Int) : Bool := decide (sp_st (s (41 + 9 * k + 0)) (s (41 + 9 * k + 1)) (o 19) (o 20) ≠ 0)
def sp_badq (s : Int → Int) (k c : Int) (o : Int → Int) : Nat → Bool := fun j => sp_bad s k (sp_strs s o k c (j + 1))
/-- the hill at which it turns, n hills on -/
def sp_to (s : Int → Int) (k c : Int) : Nat → (Int → Int) → Int
  | 0, _ => -1
  | n + 1, o => if sp_anyb (sp_badq s k c o) (s (33 + 2 * c)).toNat = true then o 17 else sp_to s k c n (sp_on s o k c)
def sp_turnsAt (k c : Int) (s er o : Int → Int) : Int × (Int → Int) × (Int → Int) :=
  if ¬ ((0 ≤ k ∧ k ≤ s 3 - 1) ∧ (0 ≤ c ∧ c ≤ 3)) then sp_er s er 1
  else if ¬ (s (41 + 9 * k + 3) < 2 ∧ sp_stm s k = 0) then sp_er s er 3
  else (sp_to s k c (9 - s (41 + 9 * k + 2)).toNat (sp_bg o (s (41 + 9 * k + 2)) (s 0) (s (41 + 9 * k + 5)) (s (41 + 9 * k + 6))), s, er)
theorem sp_st_rg (a b x y : Int) : 0 ≤ sp_st a b x y ∧ sp_st a b x y ≤ 2 := by unfold sp_st; (repeat' split) <;> omega
set_option maxRecDepth 100000 in
set_option maxHeartbeats 4000000 in
theorem p_turnsAt {g : mh_G} {d : Nat} (hd : 10 ≤ d) {h : Nat → Int → Int} (hF : mh_FX h) {s : Int → Int} (r82 : h 82 = s) {er : Int → Int} (r85 : h 85 = er) {o : Int → Int} (r81 : h 81 = o) {k c : Int} (hk : -2147483648 ≤ k ∧ k < 2147483648) (hc : -2147483648 ≤ c ∧ c < 2147483648) (hq9 : s 0 ≤ 9999) (hi : sp_inv s) : mh_M g d yX12_turnsAt cX12_turnsAt 4 (some .int) 96 0 0 [.ref 81, .int (Int32.ofInt (k)), .int (Int32.ofInt (c))] h (fun r h2 => ∃ (vv : Int) (t0 : Int → Int) (t1 : Int → Int), (vv, t0, t1) = sp_turnsAt k c s er o ∧ r = some (.int (Int32.ofInt vv)) ∧ mh_FX h2 ∧ mh_fr [81, 85, 86, 87] h h2 ∧ h2 82 = t0 ∧ h2 85 = t1 ∧ sp_o4 o (h2 81)) := by
  refine mh_M_of RX12 rfl (by decide +kernel) [some (.ref 81), some (.int (Int32.ofInt (k))), some (.int (Int32.ofInt (c))), none] rfl (Nat.le_of_ble_eq_true rfl) (fun f F Z hn0 hR => ?_)
  have hib := sp_inv_b hi
  have hm := hi.1
  have hq0 := hi.2.1
  have hws := hi.2.2.2.2.2
  obtain ⟨hH, hC⟩ := hi.2.2.2.1
  have hs1 := hi.2.2.1
  refine mh_aload0 (pc := 0) F dX12_turnsAt_0 ?_
  refine mh_iload1 (pc := 1) F dX12_turnsAt_1 ?_
  refine mh_callVp (pc := 2) (As := [.int (Int32.ofInt (k))]) (st := []) F (by omega) (k_isChurn (by omega) hF r82 (by omega) (by omega)) wv_RX12_148_yX12_isChurn dX12_turnsAt_2 sh_81 rfl (by decide) rfl rfl (Nat.le_of_ble_eq_true rfl) ⟨Nat.zero_le _, Nat.zero_le _⟩ ?_
  refine mh_ifb_eq (pc := 5) (tgt := 15) F dX12_turnsAt_5 rfl (fun c_5 => ?_) (fun c_5 => ?_)
  · refine mh_aload0 (pc := 15) F dX12_turnsAt_15 ?_
    refine mh_iconst (pc := 16) F dX12_turnsAt_16 ?_
    refine mh_callV0 (pc := 17) (As := [.int (Int32.ofInt (1))]) (st := []) F (by omega) (k_error (by omega) hF r85 (by omega)) wv_RX12_114_yX12_error dX12_turnsAt_17 sh_81 rfl (by decide) rfl rfl (Nat.le_of_ble_eq_true rfl) ⟨Nat.zero_le _, Nat.zero_le _⟩ (fun r1 h1 q1 => ?_)
    obtain ⟨rfl, F1, fr1, q1_0⟩ := q1
    have r82_2 : h1 82 = s := (fr1 _ (by decide)).trans r82
    have r81_2 : h1 81 = o := (fr1 _ (by decide)).trans r81
    have fr2 : mh_fr [85] h h1 := (mh_fr.tr mh_fr.rf fr1).mono (by simp)
    exact mh_ireturn F Z dX12_turnsAt_20 ⟨_, _, _, (by unfold sp_turnsAt; (repeat' split) <;> first | rfl | (exfalso; omega)), rfl, F1, (fr2.mono (by simp)), r82_2, q1_0, (by rw [r81_2]; exact sp_o4.rf)⟩
  · refine mh_iload2 (pc := 8) F dX12_turnsAt_8 ?_
    refine mh_callSp (pc := 9) (As := [.int (Int32.ofInt (c))]) (st := []) F (by omega) (k_isCarrier (by omega) (by omega)) ws_RX12_125 dX12_turnsAt_9 rfl rfl (Nat.le_of_ble_eq_true rfl) ⟨Nat.zero_le _, Nat.zero_le _⟩ ?_
    refine mh_ifb_ne (pc := 12) (tgt := 21) F dX12_turnsAt_12 rfl (fun c_12 => ?_) (fun c_12 => ?_)
    · have zHC := hi.2.2.2.2.1 k (by omega) (by omega)
      have zHC2 := zHC
      obtain ⟨c0, c1, c2, c3, c4, c5, c6, c7, c8, c9, c10, c11, c12, c13⟩ := zHC2
      unfold sp_row at c0 c1 c2 c3 c4 c5 c6 c7 c8 c9 c10 c11 c12 c13
      refine mh_aload0 (pc := 21) F dX12_turnsAt_21 ?_
      refine mh_iload1 (pc := 22) F dX12_turnsAt_22 ?_
      refine mh_callVp (pc := 23) (As := [.int (Int32.ofInt (k))]) (st := []) F (by omega) (k_mayRelay (by omega) hF r82 (by omega) zHC) wv_RX12_308_yX12_mayRelay dX12_turnsAt_23 sh_81 rfl (by decide) rfl rfl (Nat.le_of_ble_eq_true rfl) ⟨Nat.zero_le _, Nat.zero_le _⟩ ?_
      refine mh_ifb_ne (pc := 26) (tgt := 35) F dX12_turnsAt_26 rfl (fun c_26 => ?_) (fun c_26 => ?_)
      · refine mh_aload0 (pc := 35) F dX12_turnsAt_35 ?_
        refine mh_iload1 (pc := 36) F dX12_turnsAt_36 ?_
        refine mh_aload0 (pc := 37) F dX12_turnsAt_37 ?_
        refine mh_iload1 (pc := 38) F dX12_turnsAt_38 ?_
        refine mh_iconst (pc := 39) F dX12_turnsAt_39 ?_
        refine mh_callVp (pc := 40) (As := [.int (Int32.ofInt (k)), .int (Int32.ofInt (2))]) (st := [.int (Int32.ofInt (k)), .ref 81]) F (by omega) (k_its (by omega) hF r82 (by omega) (by omega)) wv_RX12_79_yX12_its dX12_turnsAt_40 sh_81 rfl (by decide) rfl rfl (Nat.le_of_ble_eq_true rfl) ⟨Nat.zero_le _, Nat.zero_le _⟩ ?_
        refine mh_aload0 (pc := 43) F dX12_turnsAt_43 ?_
        refine mh_getr (b := 82) (pc := 44) F sh_81 (by decide) fw_RX12_9_12 dX12_turnsAt_44 rfl (fx_81_0 hF) ?_
        refine mh_iconst (pc := 47) F dX12_turnsAt_47 ?_
        refine mh_ialoadr (pc := 48) F sh_82 (by decide) (by omega) dX12_turnsAt_48 r82 ?_
        refine mh_iconst (pc := 49) F dX12_turnsAt_49 ?_
        refine mh_callV0 (pc := 50) (As := [.int (Int32.ofInt (k)), .int (Int32.ofInt (s (41 + 9 * k + 2))), .int (Int32.ofInt (s 0)), .int (Int32.ofInt (0))]) (st := []) F (by omega) (k_begins0 (by omega) hF r82 r81 (by omega)) wv_RX12_332_yX12_begins dX12_turnsAt_50 sh_81 rfl (by decide) rfl rfl (Nat.le_of_ble_eq_true rfl) ⟨Nat.zero_le _, Nat.zero_le _⟩ (fun r3 h3 q3 => ?_)
        obtain ⟨rfl, F3, fr3, q3_0⟩ := q3
        have r82_4 : h3 82 = s := (fr3 _ (by decide)).trans r82
        have r85_4 : h3 85 = er := (fr3 _ (by decide)).trans r85
        have fr4 : mh_fr [81] h h3 := (mh_fr.tr mh_fr.rf fr3).mono (by simp)
        obtain ⟨b0, eb0⟩ : ∃ z : Int → Int, z = sp_bg o (s (41 + 9 * k + 2)) (s 0) (s (41 + 9 * k + 5)) (s (41 + 9 * k + 6)) := ⟨_, rfl⟩
        rw [← eb0] at q3_0
        obtain ⟨b17, b18, b19, b20⟩ : b0 17 = s (41 + 9 * k + 2) ∧ b0 18 = s 0 ∧ b0 19 = s (41 + 9 * k + 5) ∧ b0 20 = s (41 + 9 * k + 6) := by rw [eb0]; exact sp_bg_at
        have hb4 : sp_o4 o b0 := by rw [eb0]; exact sp_o4_bg
        have hbo : sp_ook b0 := by unfold sp_ook; rw [b17, b18, b19, b20]; exact ⟨c2, hq0.1, c5, c6⟩
        have L53 : ∀ (m : Nat) (hh : Nat → Int → Int) (t : Int → Int), (mh_FX hh) → (mh_fr [81, 86, 87] h hh) → (hh 82 = s) → (hh 85 = er) → (hh 81 = t) → (sp_o4 o t) → (sp_ook t) → (t 17 ≤ 9) → (t 18 + (9 - t 17) * 9 ≤ 20000) → (sp_to s k c (9 - s (41 + 9 * k + 2)).toNat b0 = sp_to s k c (9 - t 17).toNat t) → (9 - t 17).toNat = m → mh_V g f 4 96 0 0 53 [some (.ref 81), some (.int (Int32.ofInt (k))), some (.int (Int32.ofInt (c))), none] [] hh := by
          intro m
          induction m using Nat.strongRecOn with
          | _ m ihL53 =>
          intro hh t Fhh frhh q82hh q85hh q81hh hto zHO h17 h18 hval hmz
          refine mh_aload0 (pc := 53) F dX12_turnsAt_53 ?_
          have hpc := (hC c (by omega) (by omega)).1
          obtain ⟨o17, o18, o19, o20⟩ := id zHO
          have zHOt := zHO
          refine mh_getir (pc := 54) F sh_81 (by decide) fw_RX12_317_12 dX12_turnsAt_54 rfl q81hh ?_
          refine mh_bipush (pc := 57) F dX12_turnsAt_57 rfl ?_
          refine mh_icmp_ge (pc := 59) (tgt := 119) F dX12_turnsAt_59 rfl (by omega) (by omega) (fun c_59 => ?_) (fun c_59 => ?_)
          · refine mh_iconst (pc := 119) F dX12_turnsAt_119 ?_
            exact mh_ireturn F Z dX12_turnsAt_120 ⟨_, _, _, (by unfold sp_turnsAt; (repeat' split) <;> first | rfl | (exfalso; omega) | (rw [← eb0, hval, show (9 - t 17).toNat = 0 by omega]; rfl)), rfl, Fhh, (frhh.mono (by simp)), q82hh, q85hh, (by rw [q81hh]; exact hto)⟩
          · refine mh_iconst (pc := 62) F dX12_turnsAt_62 ?_
            refine mh_istore3 (pc := 63) F dX12_turnsAt_63 rfl (by decide) ?_
            have L64 : ∀ (m : Nat) (x : Int) (hg : Nat → Int → Int) (t2 : Int → Int), (mh_FX hg) → (mh_fr [81, 86, 87] h hg) → (hg 82 = s) → (hg 85 = er) → (hg 81 = t2) → (0 ≤ x ∧ x ≤ s (33 + 2 * c)) → (t2 = sp_strs s t k c x.toNat) → (¬ sp_anyb (sp_badq s k c t) x.toNat = true) → (s (33 + 2 * c) - x).toNat = m → mh_V g f 4 96 0 0 64 [some (.ref 81), some (.int (Int32.ofInt (k))), some (.int (Int32.ofInt (c))), some (.int (Int32.ofInt (x)))] [] hg := by
              intro m
              induction m using Nat.strongRecOn with
              | _ m ihL64 =>
              intro x hg t2 Fhg frhg q82hg q85hg q81hg hx ht2 hnb hmz
              refine mh_iload3 (pc := 64) F dX12_turnsAt_64 ?_
              obtain ⟨zHO2, t217, t218⟩ := sp_strs_ok (s := s) (k := k) (c := c) zHO x.toNat
              rw [← ht2] at zHO2 t217 t218
              have hto2 : sp_o4 o t2 := by rw [ht2]; exact hto.tr (sp_o4_strs _)
              have zHO := zHO2
              refine mh_aload0 (pc := 65) F dX12_turnsAt_65 ?_
              refine mh_iload2 (pc := 66) F dX12_turnsAt_66 ?_
              refine mh_callVp (pc := 67) (As := [.int (Int32.ofInt (c))]) (st := [.int (Int32.ofInt (x))]) F (by omega) (k_pace (by omega) Fhg q82hg (by omega)) wv_RX12_132_yX12_pace dX12_turnsAt_67 sh_81 rfl (by decide) rfl rfl (Nat.le_of_ble_eq_true rfl) ⟨Nat.zero_le _, Nat.zero_le _⟩ ?_
              refine mh_icmp_ge (pc := 70) (tgt := 106) F dX12_turnsAt_70 rfl (by omega) (by omega) (fun c_70 => ?_) (fun c_70 => ?_)
              · have hx9 : x = s (33 + 2 * c) := by omega
                have hon := sp_on_ok (s := s) (k := k) (c := c) zHOt (by omega) (by omega)
                rw [hx9] at hnb
                refine mh_aload0 (pc := 106) F dX12_turnsAt_106 ?_
                refine mh_dup (pc := 107) F dX12_turnsAt_107 rfl ?_
                refine mh_getir (pc := 108) F sh_81 (by decide) fw_RX12_317_12 dX12_turnsAt_108 rfl q81hg ?_
                refine mh_iconst (pc := 111) F dX12_turnsAt_111 ?_
                refine mh_iadd (pc := 112) F dX12_turnsAt_112 ?_
                refine mh_puti (pc := 113) F sh_81 (by decide) pw_RX12_317_12 dX12_turnsAt_113 ?_
                refine mh_nmh (fun h5 e5 => ?_)
                have F5 : mh_FX h5 := by rw [e5]; exact Fhg.upz rfl
                have r82_5 : h5 82 = s := by rw [e5, mh_up_row (by decide)]; exact q82hg
                have r85_5 : h5 85 = er := by rw [e5, mh_up_row (by decide)]; exact q85hg
                have r81_5 : h5 81 = mh_ur t2 17 ((t2 17) + 1) := by rw [e5, mh_up_rs, q81hg]
                obtain ⟨on, eon⟩ : ∃ z : Int → Int, z = mh_ur t2 17 ((t2 17) + 1) := ⟨_, rfl⟩
                rw [← eon] at r81_5
                have fr5 : mh_fr [81, 86, 87] h h5 := mh_fr.upi frhg e5 (by simp)
                have eon2 : on = sp_on s t k c := by rw [eon, ht2, hx9]; rfl
                have on17 : on 17 = t 17 + 1 := by rw [eon2]; exact hon.2.1
                refine mh_goto (pc := 116) (tgt := 53) F dX12_turnsAt_116 rfl ?_
                refine mh_drop3 ?_
                exact ihL53 _ (by omega) h5 on F5 (fr5.mono (by simp)) r82_5 r85_5 r81_5 (by rw [eon2]; exact hto.tr sp_o4_on) (by rw [eon2]; exact hon.1) (by rw [eon2, hon.2.1]; omega) (by rw [eon2, hon.2.1, hon.2.2]; omega) (by rw [hval, show (9 - t 17).toNat = (9 - (t 17 + 1)).toNat + 1 by omega, eon2, hon.2.1]; show (if _ then _ else _) = _; rw [if_neg hnb]) rfl
              · refine mh_aload0 (pc := 73) F dX12_turnsAt_73 ?_
                refine mh_iload1 (pc := 74) F dX12_turnsAt_74 ?_
                refine mh_iload2 (pc := 75) F dX12_turnsAt_75 ?_
                refine mh_callV0 (pc := 76) (As := [.int (Int32.ofInt (k)), .int (Int32.ofInt (c))]) (st := []) F (by omega) (k_straight (by omega) Fhg q82hg q81hg (by omega) hi (by omega) zHO (by omega) (by omega)) wv_RX12_329_yX12_straight dX12_turnsAt_76 sh_81 rfl (by decide) rfl rfl (Nat.le_of_ble_eq_true rfl) ⟨Nat.zero_le _, Nat.zero_le _⟩ (fun r6 h6 q6 => ?_)
                obtain ⟨rfl, F6, fr6, q6_0⟩ := q6
                have r82_7 : h6 82 = s := (fr6 _ (by decide)).trans q82hg
                have r85_7 : h6 85 = er := (fr6 _ (by decide)).trans q85hg
                have fr7 : mh_fr [81, 86, 87] h h6 := (mh_fr.tr frhg fr6).mono (by simp)
                obtain ⟨t3, et3⟩ : ∃ z : Int → Int, z = sp_str s t2 k c := ⟨_, rfl⟩
                rw [← et3] at q6_0
                obtain ⟨zHO3, t317, t318⟩ := sp_str_ok (s := s) (k := k) (c := c) zHO2
                rw [← et3] at zHO3 t317 t318
                obtain ⟨o17, o18, o19, o20⟩ := zHO3
                have hst := sp_st_rg (s (41 + 9 * k + 0)) (s (41 + 9 * k + 1)) (t3 19) (t3 20)
                have hto3 : sp_o4 o t3 := by rw [et3]; exact hto2.tr sp_o4_str
                have eb1 : sp_badq s k c t x.toNat = decide (sp_st (s (41 + 9 * k + 0)) (s (41 + 9 * k + 1)) (t3 19) (t3 20) ≠ 0) := by
                  unfold sp_badq sp_bad; rw [show sp_strs s t k c (x.toNat + 1) = t3 from by rw [et3, ht2]; rfl]
                refine mh_aload0 (pc := 79) F dX12_turnsAt_79 ?_
                refine mh_iload1 (pc := 80) F dX12_turnsAt_80 ?_
                refine mh_aload0 (pc := 81) F dX12_turnsAt_81 ?_
                refine mh_getir (pc := 82) F sh_81 (by decide) fw_RX12_323_12 dX12_turnsAt_82 rfl q6_0 ?_
                refine mh_aload0 (pc := 85) F dX12_turnsAt_85 ?_
                refine mh_getir (pc := 86) F sh_81 (by decide) fw_RX12_326_12 dX12_turnsAt_86 rfl q6_0 ?_
                refine mh_callVp (pc := 89) (As := [.int (Int32.ofInt (k)), .int (Int32.ofInt (t3 19)), .int (Int32.ofInt (t3 20))]) (st := []) F (by omega) (k_stateBy (by omega) F6 r82_7 (by omega) (by omega) (by omega) (by omega) (by omega)) wv_RX12_85_yX12_stateBy dX12_turnsAt_89 sh_81 rfl (by decide) rfl rfl (Nat.le_of_ble_eq_true rfl) ⟨Nat.zero_le _, Nat.zero_le _⟩ ?_
                refine mh_if_eq (pc := 92) (tgt := 100) F dX12_turnsAt_92 rfl (by omega) (fun c_92 => ?_) (fun c_92 => ?_)
                · refine mh_iinc3 (pc := 100) F dX12_turnsAt_100 rfl (by decide) ?_
                  refine mh_goto (pc := 103) (tgt := 64) F dX12_turnsAt_103 rfl ?_
                  exact ihL64 _ (by omega) (x + 1) h6 t3 F6 (fr7.mono (by simp)) r82_7 r85_7 q6_0 (by omega) (by rw [sp_strs_at s t k c hx.1, ← ht2]; exact et3) (by rw [sp_anyb_at hx.1, eb1, Bool.or_eq_true, decide_eq_true_iff]; exact fun z => z.elim hnb (fun q => q c_92)) rfl
                · refine mh_aload0 (pc := 95) F dX12_turnsAt_95 ?_
                  refine mh_getir (pc := 96) F sh_81 (by decide) fw_RX12_317_12 dX12_turnsAt_96 rfl q6_0 ?_
                  exact mh_ireturn F Z dX12_turnsAt_99 ⟨_, _, _, (by unfold sp_turnsAt; (repeat' split) <;> first | rfl | (exfalso; omega) | (rw [← eb0, hval, show (9 - t 17).toNat = (9 - (t 17 + 1)).toNat + 1 by omega]; show _ = ((if _ then _ else _), s, er); rw [if_pos (by rw [show (s (33 + 2 * c)).toNat = (x + 1).toNat + ((s (33 + 2 * c)).toNat - (x + 1).toNat) by omega]; refine sp_anyb_mono _ ?_; rw [sp_anyb_at hx.1, eb1, Bool.or_eq_true, decide_eq_true_iff]; exact Or.inr c_92), t317, t217])), rfl, F6, (fr7.mono (by simp)), r82_7, r85_7, (by rw [q6_0]; exact hto3)⟩
            exact L64 _ 0 hh t Fhh (frhh.mono (by simp)) q82hh q85hh q81hh (by omega) rfl (fun z => Bool.false_ne_true z) rfl
        exact L53 _ h3 b0 F3 (fr4.mono (by simp)) r82_4 r85_4 q3_0 hb4 hbo (by rw [b17]; omega) (by rw [b17, b18]; omega) (by rw [b17]) rfl
      · refine mh_aload0 (pc := 29) F dX12_turnsAt_29 ?_
        refine mh_iconst (pc := 30) F dX12_turnsAt_30 ?_
        refine mh_callV0 (pc := 31) (As := [.int (Int32.ofInt (3))]) (st := []) F (by omega) (k_error (by omega) hF r85 (by omega)) wv_RX12_114_yX12_error dX12_turnsAt_31 sh_81 rfl (by decide) rfl rfl (Nat.le_of_ble_eq_true rfl) ⟨Nat.zero_le _, Nat.zero_le _⟩ (fun r8 h8 q8 => ?_)
        obtain ⟨rfl, F8, fr8, q8_0⟩ := q8
        have r82_9 : h8 82 = s := (fr8 _ (by decide)).trans r82
        have r81_9 : h8 81 = o := (fr8 _ (by decide)).trans r81
        have fr9 : mh_fr [85] h h8 := (mh_fr.tr mh_fr.rf fr8).mono (by simp)
        exact mh_ireturn F Z dX12_turnsAt_34 ⟨_, _, _, (by unfold sp_turnsAt; (repeat' split) <;> first | rfl | (exfalso; omega)), rfl, F8, (fr9.mono (by simp)), r82_9, q8_0, (by rw [r81_9]; exact sp_o4.rf)⟩
    · refine mh_aload0 (pc := 15) F dX12_turnsAt_15 ?_
      refine mh_iconst (pc := 16) F dX12_turnsAt_16 ?_
      refine mh_callV0 (pc := 17) (As := [.int (Int32.ofInt (1))]) (st := []) F (by omega) (k_error (by omega) hF r85 (by omega)) wv_RX12_114_yX12_error dX12_turnsAt_17 sh_81 rfl (by decide) rfl rfl (Nat.le_of_ble_eq_true rfl) ⟨Nat.zero_le _, Nat.zero_le _⟩ (fun r10 h10 q10 => ?_)
      obtain ⟨rfl, F10, fr10, q10_0⟩ := q10
      have r82_11 : h10 82 = s := (fr10 _ (by decide)).trans r82
      have r81_11 : h10 81 = o := (fr10 _ (by decide)).trans r81
      have fr11 : mh_fr [85] h h10 := (mh_fr.tr mh_fr.rf fr10).mono (by simp)
      exact mh_ireturn F Z dX12_turnsAt_20 ⟨_, _, _, (by unfold sp_turnsAt; (repeat' split) <;> first | rfl | (exfalso; omega)), rfl, F10, (fr11.mono (by simp)), r82_11, q10_0, (by rw [r81_11]; exact sp_o4.rf)⟩

