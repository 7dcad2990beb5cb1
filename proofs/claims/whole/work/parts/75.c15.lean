/-! what waits, and is checked -/
/-- the tried churns are the model's, as far as there are -/
def sc_TC (h : Nat → Int → Int) (t : Int → Int) (m : Int) : Prop := ∀ j, 0 ≤ j → j < m → sc_is (h (75 + j.toNat)) (sp_row t j) (h (75 + j.toNat) 0)
theorem sc_pass_0 {s c : Int → Int} {q : Int} : sc_pass s c q 0 = c 0 := by
  unfold sc_pass
  split
  · rfl
  · split
    · exact mh_ur_ne (by decide)
    · split
      · rw [mh_ur_ne (by decide), mh_ur_ne (by decide), mh_ur_ne (by decide)]
      · rfl
set_option maxRecDepth 100000 in
set_option maxHeartbeats 2000000 in
theorem k15_next {g : mh_G} {d : Nat} (hd : 14 ≤ d) {h : Nat → Int → Int} (hF : mh_FX h) {s : Int → Int} {q : Int} (hi : sp_inv s) (hL : sc_L h 25 s) (hn6 : h 25 6 = s 3) (hTC : sc_TC h s (s 3)) (hqs : q = s 0) : mh_M g d yX11_sourBehindNext cX11_sourBehindNext 4 (some .int) 96 0 0 [.ref 0, .int (Int32.ofInt (q))] h (fun r h2 => r = some (.int (Int32.ofInt (sp_all (sp_aq s)))) ∧ mh_FX h2 ∧ mh_fr [36, 75, 76, 77, 78, 79, 80] h h2 ∧ sc_TC h2 (sp_aq s) (s 3)) := by
  refine mh_M_of RX11 rfl (by decide +kernel) [some (.ref 0), some (.int (Int32.ofInt (q))), none, none] rfl (Nat.le_of_ble_eq_true rfl) (fun f F Z hn0 hR => ?_)
  have hm := hi.1
  have hq0 := hi.2.1
  refine mh_iconst (pc := 0) F dX11_sourBehindNext_0 ?_
  refine mh_istore2 (pc := 1) F dX11_sourBehindNext_1 rfl (by decide) ?_
  refine mh_iconst (pc := 2) F dX11_sourBehindNext_2 ?_
  refine mh_istore3 (pc := 3) F dX11_sourBehindNext_3 rfl (by decide) ?_
  have L4 : ∀ (m : Nat) (n : Int) (k : Int) (hg : Nat → Int → Int), (mh_FX hg) → (mh_fr [36, 75, 76, 77, 78, 79, 80] h hg) → (0 ≤ k ∧ k ≤ s 3) → (n = sp_sum (sp_aq s) k.toNat) → (sc_TC hg (sp_aq s) k) → (∀ j, k ≤ j → j < 6 → hg (75 + j.toNat) = h (75 + j.toNat)) → (s 3 - k).toNat = m → mh_V g f 4 96 0 0 4 [some (.ref 0), some (.int (Int32.ofInt (q))), some (.int (Int32.ofInt (n))), some (.int (Int32.ofInt (k)))] [] hg := by
    intro m
    induction m using Nat.strongRecOn with
    | _ m ihL4 =>
    intro n k hg Fhg frhg hk hn hdo hto hmz
    refine mh_iload3 (pc := 4) F dX11_sourBehindNext_4 ?_
    have hg6 : hg 25 6 = s 3 := by rw [frhg 25 (by simp)]; exact hn6
    refine mh_aload0 (pc := 5) F dX11_sourBehindNext_5 ?_
    refine mh_getr (b := 25) (pc := 6) F sh_0 (by decide) fw_RX11_72_11 dX11_sourBehindNext_6 rfl (fx_0_0 Fhg) ?_
    refine mh_geti (pc := 9) F sh_25 (by decide) fw_RX11_123_10 dX11_sourBehindNext_9 rfl ?_
    refine mh_icmp_ge (pc := 12) (tgt := 48) F dX11_sourBehindNext_12 rfl (by omega) (by omega) (fun c_12 => ?_) (fun c_12 => ?_)
    · refine mh_iload2 (pc := 48) F dX11_sourBehindNext_48 ?_
      exact mh_ireturn F Z dX11_sourBehindNext_49 ⟨mh_sv (by unfold sp_all; rw [sp_aq_out hi.1 3 (by decide) (by decide) (by decide), hn, show (s 3).toNat = k.toNat by omega]), Fhg, (frhg.mono (by simp)), (by rw [show s 3 = k by omega]; exact hdo)⟩
    · have hkk : 0 ≤ k ∧ k < 6 := by omega
      have zAt := sc_Ak hkk
      have hcs : sc_is (hg (75 + k.toNat)) (sp_row s k) (hg (75 + k.toNat) 0) := by rw [hto k (by omega) (by omega)]; exact hTC k hkk.1 (by omega)
      have hcr := hi.2.2.2.2.1 k hkk.1 hkk.2
      have hco := hcs.ok hcr
      have h8i := hcs.i8 hcr
      have hLg : sc_L hg 25 s := hL.of (fun x hx => frhg x (by simp; omega))
      refine mh_aload0 (pc := 15) F dX11_sourBehindNext_15 ?_
      refine mh_getr (b := 25) (pc := 16) F sh_0 (by decide) fw_RX11_72_11 dX11_sourBehindNext_16 rfl (fx_0_0 Fhg) ?_
      refine mh_aload0 (pc := 19) F dX11_sourBehindNext_19 ?_
      refine mh_getr (b := 9) (pc := 20) F sh_0 (by decide) fw_RX11_38_11 dX11_sourBehindNext_20 rfl (fx_0_4 Fhg) ?_
      refine mh_iload3 (pc := 23) F dX11_sourBehindNext_23 ?_
      refine mh_aaload (b := 75 + (k).toNat) (pc := 24) F sh_9 (by decide) (by decide) (by omega) dX11_sourBehindNext_24 (fx_9 Fhg (by omega)) ?_
      refine mh_iload1 (pc := 25) F dX11_sourBehindNext_25 ?_
      refine mh_callV0 (pc := 26) (As := [.ref (75 + (k).toNat), .int (Int32.ofInt (q))]) (st := []) F (by omega) (k5_pass (by omega) Fhg rfl rfl zAt hco hLg hi.2.2.2.1 (by omega) h8i) wv_RX11_220_yX10_pass dX11_sourBehindNext_26 sh_25 rfl (by decide) rfl rfl (Nat.le_of_ble_eq_true rfl) ⟨Nat.zero_le _, Nat.zero_le _⟩ (fun r1 h1 q1 => ?_)
      obtain ⟨rfl, F1, frp, qA⟩ := q1
      have frS : mh_fr [36, 75, 76, 77, 78, 79, 80] hg h1 := frp.mono (by intro a ha; simp at ha ⊢; omega)
      have fr2 : mh_fr [36, 75, 76, 77, 78, 79, 80] h h1 := (mh_fr.tr frhg frS).mono (by simp)
      have hcn := sc_pass_aq hi (show 0 ≤ k ∧ k < s 3 by omega) hcs
      rw [← hqs, ← qA] at hcn
      have hc0e : h1 (75 + k.toNat) 0 = hg (75 + k.toNat) 0 := by rw [qA]; exact sc_pass_0
      obtain ⟨e0, e1, e2, e3, e4, e5, e6, e7, e8, e9⟩ := id hcn
      unfold sp_row at e7
      refine mh_pop (pc := 29) F dX11_sourBehindNext_29 rfl ?_
      refine mh_iload2 (pc := 30) F dX11_sourBehindNext_30 ?_
      refine mh_aload0 (pc := 31) F dX11_sourBehindNext_31 ?_
      refine mh_getr (b := 9) (pc := 32) F sh_0 (by decide) fw_RX11_38_11 dX11_sourBehindNext_32 rfl (fx_0_4 F1) ?_
      refine mh_iload3 (pc := 35) F dX11_sourBehindNext_35 ?_
      refine mh_aaload (b := 75 + (k).toNat) (pc := 36) F sh_9 (by decide) (by decide) (by omega) dX11_sourBehindNext_36 (fx_9 F1 (by omega)) ?_
      refine mh_geti (pc := 37) F zAt.sh zAt.lt fw_RX11_256_0 dX11_sourBehindNext_37 rfl ?_
      refine mh_iadd (pc := 40) F dX11_sourBehindNext_40 ?_
      refine mh_istore2 (pc := 41) F dX11_sourBehindNext_41 rfl (by decide) ?_
      refine mh_iinc3 (pc := 42) F dX11_sourBehindNext_42 rfl (by decide) ?_
      refine mh_goto (pc := 45) (tgt := 4) F dX11_sourBehindNext_45 rfl ?_
      exact ihL4 _ (by omega) (n + (h1 (75 + (k).toNat) 7)) (k + 1) h1 F1 (fr2.mono (by simp)) (by omega) (by rw [sp_sum_at _ hk.1, hn, ← e7]) (fun j j0 j1 => by rcases (show j = k ∨ j < k by omega) with z | z; rw [z, hc0e]; exact hcn; rw [frp (75 + j.toNat) (by simp; omega)]; exact hdo j j0 z) (fun j j0 j1 => by rw [frp (75 + j.toNat) (by simp; omega)]; exact hto j (by omega) j1) rfl
  exact L4 _ 0 0 h hF (mh_fr.rf.mono (by simp)) (by omega) rfl (fun j j0 j1 => by omega) (fun j _ _ => rfl) rfl

set_option maxRecDepth 100000 in
set_option maxHeartbeats 2000000 in
theorem q_check {g : mh_G} {d : Nat} (hd : 18 ≤ d) {h : Nat → Int → Int} (hF : mh_FX h) {s er : Int → Int}  (hX : sc_X h s) (hq9 : s 0 ≤ 9999) (h5 : 0 ≤ s 5 ∧ s 5 ≤ 20) (h247r : ∀ i, 0 ≤ i → i < 20 → -2147483648 ≤ s (247 + i) ∧ s (247 + i) < 2147483648) (hi : sp_inv s) (hV : sc_V h s) (hE : sc_E h er) (hKN : sc_KN h) : mh_M g d yX11_check cX11_check 3 (some .int) 96 0 0 [.ref 0] h (fun r h2 => ∃ (vv : Int) (tt ee : Int → Int), (vv, tt, ee) = sp_checkP  s er ∧ r = some (.int (Int32.ofInt vv)) ∧ mh_FX h2 ∧ mh_fr [36, 75, 76, 77, 78, 79, 80, 25, 24] h h2 ∧ sc_V h2 tt ∧ sc_E h2 ee) := by
  refine mh_M_of RX11 rfl (by decide +kernel) [some (.ref 0), none, none] rfl (Nat.le_of_ble_eq_true rfl) (fun f F Z hn0 hR => ?_)
  have hm := hi.1
  have hq0 := hi.2.1
  have hs1 := hi.2.2.1
  have hh := hi.2.2.2.1
  obtain ⟨n6, n7, n8, n10, n14, n15⟩ := hV.2.2
  refine mh_aload0 (pc := 0) F dX11_check_0 ?_
  refine mh_getr (b := 25) (pc := 1) F sh_0 (by decide) fw_RX11_72_11 dX11_check_1 rfl (fx_0_0 hF) ?_
  refine mh_geti (pc := 4) F sh_25 (by decide) fw_RX11_306_10 dX11_check_4 rfl ?_
  refine mh_top (y := s 5) (mh_eqI n14) ?_
  refine mh_istore1 (pc := 7) F dX11_check_7 rfl (by decide) ?_
  refine mh_aload0 (pc := 8) F dX11_check_8 ?_
  refine mh_getr (b := 25) (pc := 9) F sh_0 (by decide) fw_RX11_72_11 dX11_check_9 rfl (fx_0_0 hF) ?_
  refine mh_iconst (pc := 12) F dX11_check_12 ?_
  refine mh_puti (pc := 13) F sh_25 (by decide) pw_RX11_306_10 dX11_check_13 ?_
  refine mh_nmh (fun h1 e1 => ?_)
  have F1 : mh_FX h1 := by rw [e1]; exact hF.upz rfl
  have fr1 : mh_fr [25] h h1 := mh_fr.up mh_fr.rf e1
  obtain ⟨h1x, eh1x⟩ : ∃ z : Nat → Int → Int, z = h1 := ⟨_, rfl⟩
  have ex1 : h1x = mh_up h 25 14 0 := by rw [eh1x]; exact e1
  have hV1 : sc_V h1x (mh_ur s 5 0) := sc_V_w (z := 14) hV (by omega) (by rw [ex1, mh_up_rs]) (fun a ha => by rw [ex1, mh_up_row ha])
  have hx6 : h1x 25 6 = s 3 := by rw [ex1, mh_up_rs, mh_ur_ne (by decide)]; exact n6
  have hx7 : h1x 25 7 = s 0 := by rw [ex1, mh_up_rs, mh_ur_ne (by decide)]; exact n7
  refine mh_iconst (pc := 16) F dX11_check_16 ?_
  refine mh_istore2 (pc := 17) F dX11_check_17 rfl (by decide) ?_
  have L18 : ∀ (m : Nat) (k : Int) (hg : Nat → Int → Int), (mh_FX hg) → (mh_fr [36, 75, 76, 77, 78, 79, 80, 25] h hg) → (0 ≤ k ∧ k ≤ s 3) → (mh_fr [36, 75, 76, 77, 78, 79, 80] h1x hg) → (sc_TC hg s k) → (s 3 - k).toNat = m → mh_V g f 3 96 0 0 18 [some (.ref 0), some (.int (Int32.ofInt (s 5))), some (.int (Int32.ofInt (k)))] [] hg := by
    intro m
    induction m using Nat.strongRecOn with
    | _ m ihL18 =>
    intro k hg Fhg frhg hk hf1 hTC hmz
    refine mh_iload2 (pc := 18) F dX11_check_18 ?_
    have hV1g : sc_V hg (mh_ur s 5 0) := sc_V_fr hV1 (fun a a1 a2 a3 a4 => hf1 a (by simp; omega))
    have hg6 : hg 25 6 = s 3 := by rw [hf1 25 (by simp)]; exact hx6
    refine mh_aload0 (pc := 19) F dX11_check_19 ?_
    refine mh_getr (b := 25) (pc := 20) F sh_0 (by decide) fw_RX11_72_11 dX11_check_20 rfl (fx_0_0 Fhg) ?_
    refine mh_geti (pc := 23) F sh_25 (by decide) fw_RX11_123_10 dX11_check_23 rfl ?_
    refine mh_icmp_ge (pc := 26) (tgt := 53) F dX11_check_26 rfl (by omega) (by omega) (fun c_26 => ?_) (fun c_26 => ?_)
    · refine mh_iconst (pc := 53) F dX11_check_53 ?_
      refine mh_istore2 (pc := 54) F dX11_check_54 rfl (by decide) ?_
      have L55 : ∀ (m : Nat) (x : Int) (hq : Nat → Int → Int), (mh_FX hq) → (mh_fr [36, 75, 76, 77, 78, 79, 80, 25] h hq) → (0 ≤ x ∧ x ≤ s 5) → (mh_fr [36, 75, 76, 77, 78, 79, 80] h1x hq) → (sc_TC hq (sp_aqs s x.toNat) (s 3)) → (sp_chk s x.toNat = -1) → (s 5 - x).toNat = m → mh_V g f 3 96 0 0 55 [some (.ref 0), some (.int (Int32.ofInt (s 5))), some (.int (Int32.ofInt (x)))] [] hq := by
        intro m
        induction m using Nat.strongRecOn with
        | _ m ihL55 =>
        intro x hq Fhq frhq hx hf2 hTC2 hck hmz
        refine mh_iload2 (pc := 55) F dX11_check_55 ?_
        refine mh_iload1 (pc := 56) F dX11_check_56 ?_
        have hq25 : hq 25 = h1x 25 := hf2 25 (by simp)
        obtain ⟨zHI, ha0, ha3⟩ := sp_aqs_all hi x.toNat (by omega)
        have hsr := sp_sum_rg (s := sp_aq (sp_aqs s x.toNat)) (fun j j0 j1 => ((sp_aq_inv zHI (by omega)).2.2.2.2.1 j j0 j1).2.2.2.2.2.1) (sp_aq (sp_aqs s x.toNat) 3).toNat (by have := (sp_aq_inv zHI (by omega)).1; omega)
        have hal : 0 ≤ sp_all (sp_aq (sp_aqs s x.toNat)) ∧ sp_all (sp_aq (sp_aqs s x.toNat)) ≤ 59994 := by unfold sp_all; have := (sp_aq_inv zHI (by omega)).1; omega
        have hLq : sc_L hq 25 (sp_aqs s x.toNat) := (hV.1.of (fun a ha => by rw [hf2 a (by simp; omega), ex1, mh_up_row (by omega)])).to (fun i hi2 => sp_aqs_wt s hm x.toNat i (by omega) (by omega) (by omega))
        refine mh_icmp_ge (pc := 57) (tgt := 95) F dX11_check_57 rfl (by omega) (by omega) (fun c_57 => ?_) (fun c_57 => ?_)
        · refine mh_iconst (pc := 95) F dX11_check_95 ?_
          exact mh_ireturn F Z dX11_check_96 ⟨_, _, _, (by unfold sp_checkP; rw [show s 5 = x by omega, hck]; rfl), rfl, Fhq, (frhq.mono (by simp)), (sc_V_fr hV1 (fun a a1 a2 a3 a4 => (hf2) a (by simp; omega))), (hE.of (frhq 24 (by simp)))⟩
        · refine mh_aload0 (pc := 60) F dX11_check_60 ?_
          refine mh_aload0 (pc := 61) F dX11_check_61 ?_
          refine mh_getr (b := 25) (pc := 62) F sh_0 (by decide) fw_RX11_72_11 dX11_check_62 rfl (fx_0_0 Fhq) ?_
          refine mh_geti (pc := 65) F sh_25 (by decide) fw_RX11_105_10 dX11_check_65 rfl ?_
          refine mh_iload2 (pc := 68) F dX11_check_68 ?_
          refine mh_iadd (pc := 69) F dX11_check_69 ?_
          refine mh_callV0 (pc := 70) (As := [.int (Int32.ofInt ((hq 25 7) + x))]) (st := []) F (by omega) (k15_next (by omega) Fhq zHI hLq (by rw [hq25, hx6, ha3]) (by rw [ha3]; exact hTC2) (by rw [hq25, hx7, ha0, Int.toNat_of_nonneg hx.1])) wv_RX11_312_yX11_sourBehindNext dX11_check_70 sh_0 rfl (by decide) rfl rfl (Nat.le_of_ble_eq_true rfl) ⟨Nat.zero_le _, Nat.zero_le _⟩ (fun r2 h2 q2 => ?_)
          obtain ⟨rfl, F2, frn, hTC3⟩ := q2
          have fr3 : mh_fr [36, 75, 76, 77, 78, 79, 80, 25] h h2 := (mh_fr.tr frhq frn).mono (by simp)
          have h43 : h2 43 x = s (247 + x) := by rw [frn 43 (by simp), hf2 43 (by simp), ex1, mh_up_row (by decide)]; exact hX.2 x (by omega) (by omega)
          have h43r := h247r x (by omega) (by omega)
          refine mh_aload0 (pc := 73) F dX11_check_73 ?_
          refine mh_getr (b := 25) (pc := 74) F sh_0 (by decide) fw_RX11_72_11 dX11_check_74 rfl (fx_0_0 F2) ?_
          refine mh_getr (b := 43) (pc := 77) F sh_25 (by decide) fw_RX11_309_10 dX11_check_77 rfl (fx_25_13 F2) ?_
          refine mh_iload2 (pc := 80) F dX11_check_80 ?_
          refine mh_iaload (pc := 81) F sh_43 (by decide) (by omega) dX11_check_81 ?_
          refine mh_icmp_eq (pc := 82) (tgt := 89) F dX11_check_82 rfl (by omega) (by omega) (fun c_82 => ?_) (fun c_82 => ?_)
          · refine mh_iinc2 (pc := 89) F dX11_check_89 rfl (by decide) ?_
            refine mh_goto (pc := 92) (tgt := 55) F dX11_check_92 rfl ?_
            exact ihL55 _ (by omega) (x + 1) h2 F2 (fr3.mono (by simp)) (by omega) ((hf2.tr frn).mono (by simp)) (by rw [sp_aqs_at s hx.1]; rw [ha3] at hTC3; exact hTC3) (by rw [sp_chk_at s hx.1 (by omega), if_pos (by omega)]) rfl
          · refine mh_iconst (pc := 85) F dX11_check_85 ?_
            refine mh_iload2 (pc := 86) F dX11_check_86 ?_
            refine mh_iadd (pc := 87) F dX11_check_87 ?_
            exact mh_ireturn F Z dX11_check_88 ⟨_, _, _, (by unfold sp_checkP; rw [show (s 5).toNat = (x + 1).toNat + ((s 5).toNat - (x + 1).toNat) by omega, sp_chk_stay s _ _ (by rw [sp_chk_at s hx.1 (by omega), if_neg (by omega)]; exact hx.1), sp_chk_at s hx.1 (by omega), if_neg (by omega), Int.add_comm]), rfl, F2, (fr3.mono (by simp)), (sc_V_fr hV1 (fun a a1 a2 a3 a4 => ((hf2.tr frn)) a (by simp; omega))), (hE.of (fr3 24 (by simp)))⟩
      exact L55 _ 0 hg Fhg (frhg.mono (by simp)) (by omega) hf1 (by rw [show s 3 = k by omega]; exact hTC) rfl rfl
    · have hkk : 0 ≤ k ∧ k < 6 := by omega
      have zAk := sc_Aj hkk
      have zAt := sc_Ak hkk
      have hcs : sc_is (hg (44 + k.toNat)) (sp_row s k) k := by rw [hf1 (44 + k.toNat) (by simp; omega), ex1, mh_up_row (by omega)]; exact hV.2.1 k hkk.1 hkk.2
      have hcr := hi.2.2.2.2.1 k hkk.1 hkk.2
      have hco := hcs.ok hcr
      refine mh_aload0 (pc := 29) F dX11_check_29 ?_
      refine mh_getr (b := 9) (pc := 30) F sh_0 (by decide) fw_RX11_38_11 dX11_check_30 rfl (fx_0_4 Fhg) ?_
      refine mh_iload2 (pc := 33) F dX11_check_33 ?_
      refine mh_aaload (b := 75 + (k).toNat) (pc := 34) F sh_9 (by decide) (by decide) (by omega) dX11_check_34 (fx_9 Fhg (by omega)) ?_
      refine mh_aload0 (pc := 35) F dX11_check_35 ?_
      refine mh_getr (b := 25) (pc := 36) F sh_0 (by decide) fw_RX11_72_11 dX11_check_36 rfl (fx_0_0 Fhg) ?_
      refine mh_getr (b := 31) (pc := 39) F sh_25 (by decide) fw_RX11_126_10 dX11_check_39 rfl (fx_25_5 Fhg) ?_
      refine mh_iload2 (pc := 42) F dX11_check_42 ?_
      refine mh_aaload (b := 44 + (k).toNat) (pc := 43) F sh_31 (by decide) (by decide) (by omega) dX11_check_43 (fx_31 Fhg (by omega)) ?_
      refine mh_callV0 (pc := 44) (As := [.ref (44 + (k).toNat)]) (st := []) F (by omega) (k0_copy (by omega) Fhg rfl rfl zAt zAk (by omega) hco) wv_RX11_216_yX0_copy dX11_check_44 zAt.sh rfl zAt.lt rfl rfl (Nat.le_of_ble_eq_true rfl) ⟨Nat.zero_le _, Nat.zero_le _⟩ (fun r4 h4 q4 => ?_)
      obtain ⟨rfl, F4, frc, qC⟩ := q4
      have frS : mh_fr [36, 75, 76, 77, 78, 79, 80] hg h4 := frc.mono (by intro a ha; simp at ha ⊢; omega)
      have fr5 : mh_fr [36, 75, 76, 77, 78, 79, 80, 25] h h4 := (mh_fr.tr frhg frS).mono (by simp)
      refine mh_iinc2 (pc := 47) F dX11_check_47 rfl (by decide) ?_
      refine mh_goto (pc := 50) (tgt := 18) F dX11_check_50 rfl ?_
      exact ihL18 _ (by omega) (k + 1) h4 F4 (fr5.mono (by simp)) (by omega) ((hf1.tr frS).mono (by simp)) (fun j j0 j1 => by rcases (show j = k ∨ j < k by omega) with z | z; rw [z, qC]; exact sc_is_cp hcs rfl; rw [frc (75 + j.toNat) (by simp; omega)]; exact hTC j j0 z) rfl
  exact L18 _ 0 h1 F1 (fr1.mono (by simp)) (by omega) (by rw [eh1x]; exact mh_fr.rf.mono (by simp)) (fun j j0 j1 => by omega) rfl

