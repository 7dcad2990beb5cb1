/-! feed, odds -/
theorem sc_bit8 (X : BitVec 64) (n : Nat) : (((X >>> n).signExtend 32).signExtend 8).signExtend 32 &&& 255#32 = (((X.sshiftRight n) &&& 255#64).signExtend 32) ∨ 56 < n := by
  by_cases hn : 56 < n
  · exact Or.inr hn
  · left
    apply BitVec.eq_of_getLsbD_eq
    intro i hi
    by_cases h8 : i < 8
    · have e1 : (255#32).getLsbD i = true := by
        rcases (show i = 0 ∨ i = 1 ∨ i = 2 ∨ i = 3 ∨ i = 4 ∨ i = 5 ∨ i = 6 ∨ i = 7 by omega) with z | z | z | z | z | z | z | z <;> subst z <;> decide
      have e2 : (255#64).getLsbD i = true := by
        rcases (show i = 0 ∨ i = 1 ∨ i = 2 ∨ i = 3 ∨ i = 4 ∨ i = 5 ∨ i = 6 ∨ i = 7 by omega) with z | z | z | z | z | z | z | z <;> subst z <;> decide
      rw [BitVec.getLsbD_and, e1, BitVec.getLsbD_signExtend, BitVec.getLsbD_signExtend, BitVec.getLsbD_signExtend, BitVec.getLsbD_signExtend, if_pos h8, if_pos hi, if_pos (show i < 64 by omega), if_pos (show i < 64 by omega), BitVec.getLsbD_and, e2, BitVec.getLsbD_ushiftRight, BitVec.getLsbD_sshiftRight]
      simp [h8, hi, show i < 32 from hi, show ¬ 64 ≤ i by omega, show n + i < 64 by omega]
    · have eT : Nat.testBit 255 i = false := Nat.testBit_lt_two_pow (Nat.lt_of_lt_of_le (show 255 < 2 ^ 8 by decide) (Nat.pow_le_pow_right (by decide) (by omega)))
      have e1 : (255#32).getLsbD i = false := by
        rw [BitVec.getLsbD_ofNat, eT, Bool.and_false]
      have e2 : (255#64).getLsbD i = false := by
        rw [BitVec.getLsbD_ofNat, eT, Bool.and_false]
      rw [BitVec.getLsbD_and, e1, Bool.and_false, BitVec.getLsbD_signExtend, if_pos (show i < 64 by omega), BitVec.getLsbD_and, e2]
      simp
theorem sc_sh8 (X : Int64) (k : UInt64) (l : Int64) (n : Nat) (hn : n ≤ 56) (e : (k.toBitVec % 64).toNat = n) (e2 : (l.toBitVec.smod 64).toNat = n) : ((X.toUInt64 >>> k).toInt64.toInt32.toInt8.toInt32 &&& Int32.ofInt 255).toBitVec = (X >>> l &&& Int64.ofInt 255).toInt32.toBitVec := by
  have a1 : (X.toUInt64 >>> k).toBitVec = X.toBitVec >>> n := by
    rw [UInt64.toBitVec_shiftRight, BitVec.ushiftRight_eq', e]; rfl
  have a2 : (X >>> l).toBitVec = X.toBitVec.sshiftRight n := by
    rw [Int64.toBitVec_shiftRight, BitVec.sshiftRight_eq', e2]
  show (((X.toUInt64 >>> k).toBitVec.signExtend 32).signExtend 8).signExtend 32 &&& 255#32 = ((X >>> l).toBitVec &&& 255#64).signExtend 32
  rw [a1, a2]
  exact (sc_bit8 X.toBitVec n).resolve_right (by omega)
theorem sc_byte (x : Int) {i : Int} (h : 0 ≤ i ∧ i ≤ 7) : mh_and (mh_i8 (mh_l2i (mh_lushr x (8 * i)))) 255 = sp_byte x i := by
  unfold mh_and mh_i8 mh_l2i mh_lushr sp_byte mh_l2i mh_land mh_lshr
  generalize Int64.ofInt x = X
  rw [Int32.ofInt_toInt, Int64.ofInt_toInt, Int64.ofInt_toInt, Int64.ofInt_toInt, Int32.ofInt_int8ToInt]
  refine congrArg Int32.toInt (Int32.toBitVec_inj.mp ?_)
  rcases (show i = 0 ∨ i = 1 ∨ i = 2 ∨ i = 3 ∨ i = 4 ∨ i = 5 ∨ i = 6 ∨ i = 7 by omega) with z | z | z | z | z | z | z | z <;> subst z
  · exact sc_sh8 X _ _ 0 (by decide) (by decide) (by decide)
  · exact sc_sh8 X _ _ 8 (by decide) (by decide) (by decide)
  · exact sc_sh8 X _ _ 16 (by decide) (by decide) (by decide)
  · exact sc_sh8 X _ _ 24 (by decide) (by decide) (by decide)
  · exact sc_sh8 X _ _ 32 (by decide) (by decide) (by decide)
  · exact sc_sh8 X _ _ 40 (by decide) (by decide) (by decide)
  · exact sc_sh8 X _ _ 48 (by decide) (by decide) (by decide)
  · exact sc_sh8 X _ _ 56 (by decide) (by decide) (by decide)
theorem sc_i8_rg (x : Int) : -128 ≤ mh_i8 x ∧ mh_i8 x < 128 := by
  unfold mh_i8
  have a := (Int32.ofInt x).toInt8.le_toInt
  have b := (Int32.ofInt x).toInt8.toInt_lt
  constructor <;> omega
theorem sc_V_fr3 {h h2 : Nat → Int → Int} {s : Int → Int} (hV : sc_V h s) (e : ∀ a, a ≠ 32 → h2 a = h a) : sc_V h2 s := by
  obtain ⟨a, b, c⟩ := hV
  refine ⟨a.of (fun x hx => e x (by omega)), fun j j0 j1 => ?_, ?_⟩
  · show sc_is (h2 (44 + j.toNat)) _ _
    rw [e (44 + j.toNat) (by omega)]; exact b j j0 j1
  · unfold sc_N; rw [e 25 (by decide)]; exact c
theorem sc_feed1 {h h1 h2 : Nat → Int → Int} {t : Int → Int} {x i : Int} (hV : sc_V h t) (hX : sc_X h t) (hKP : sc_KP h) (hi : 0 ≤ i ∧ i ≤ 7) (h4 : 0 ≤ t 4 ∧ t 4 < 50) (h5 : 0 ≤ t 5 ∧ t 5 ≤ 20) (e1 : h1 = mh_up h 32 (t 4) (mh_i8 (mh_l2i (mh_lushr x (8 * i))))) (e2 : h2 = mh_up h1 25 10 (t 4 + 1)) :
    sc_V h2 (mh_ur (mh_ur t (197 + t 4) (sp_byte x i)) 4 (mh_ur t (197 + t 4) (sp_byte x i) 4 + 1)) ∧ sc_X h2 (mh_ur (mh_ur t (197 + t 4) (sp_byte x i)) 4 (mh_ur t (197 + t 4) (sp_byte x i) 4 + 1)) ∧ sc_KP h2 := by
  have hV1 : sc_V h1 t := sc_V_fr3 hV (fun a ha => by rw [e1, mh_up_row ha])
  have hVa : sc_V h1 (mh_ur t (197 + t 4) (sp_byte x i)) := sc_V_up hV1 (fun a ha => rfl) (fun j hj => mh_ur_ne (by omega)) (by unfold sc_N; rw [mh_ur_ne (by omega), mh_ur_ne (by omega), mh_ur_ne (by omega), mh_ur_ne (by omega), mh_ur_ne (by omega), mh_ur_ne (by omega)]; exact hV1.2.2)
  rw [mh_ur_ne (show (4 : Int) ≠ 197 + t 4 by omega)]
  have eb := sc_byte x hi
  have hr := sc_i8_rg (mh_l2i (mh_lushr x (8 * i)))
  generalize mh_i8 (mh_l2i (mh_lushr x (8 * i))) = b at e1 eb hr
  have er : h2 32 = mh_ur (h 32) (t 4) b := by rw [e2, mh_up_row (by decide), e1, mh_up_rs]
  refine ⟨sc_V_w (z := 10) hVa (by omega) (by rw [e2, mh_up_rs]) (fun a ha => by rw [e2, mh_up_row ha]), ⟨fun j j0 j1 => ?_, fun j j0 j1 => ?_⟩, ?_⟩
  · rw [mh_ur_eq rfl] at j1
    rw [mh_ur_ne (by omega), er]
    by_cases z : j = t 4
    · rw [mh_ur_eq z, mh_ur_eq (by omega)]; exact eb
    · rw [mh_ur_ne z, mh_ur_ne (by omega)]; exact hX.1 j j0 (by omega)
  · rw [mh_ur_ne (by decide), mh_ur_ne (by omega)] at j1
    rw [mh_ur_ne (by omega), mh_ur_ne (by omega), e2, mh_up_row (by decide), e1, mh_up_row (by decide)]; exact hX.2 j j0 j1
  · obtain ⟨a1, a2, a3, a4, a5⟩ := hKP
    refine ⟨fun j j0 j1 => ?_, ?_, ?_, fun j j0 j1 => ?_, fun j j0 j1 => ?_⟩
    · rw [e2, mh_up_row (by omega), e1, mh_up_row (by omega)]; exact a1 j j0 j1
    · rw [e2, mh_up_row (by decide), e1, mh_up_row (by decide)]; exact a2
    · rw [e2, mh_up_row (by decide), e1, mh_up_row (by decide)]; exact a3
    · rw [er]
      by_cases z : j = t 4
      · rw [mh_ur_eq z]; omega
      · rw [mh_ur_ne z]; exact a4 j j0 j1
    · rw [e2, mh_up_row (by decide), e1, mh_up_row (by decide)]; exact a5 j j0 j1
theorem sp_feeds_5 (x : Int) (s : Int → Int) (hs : 0 ≤ s 4) (n : Nat) (hn : s 4 + n ≤ 50) : sp_feeds x s n 5 = s 5 := by
  induction n with
  | zero => rfl
  | succ n ih =>
    have h4 := sp_feeds_4 x s hs n
    show mh_ur _ 4 _ 5 = _
    rw [mh_ur_ne (by decide), mh_ur_ne (by omega), ih (by omega)]
theorem sc_KP.fr {h h2 : Nat → Int → Int} (H : sc_KP h) (e : ∀ a, a ≠ 24 → a ≠ 36 → h2 a = h a) : sc_KP h2 := by
  obtain ⟨a1, a2, a3, a4, a5⟩ := H
  refine ⟨fun j j0 j1 => ?_, ?_, ?_, fun j j0 j1 => ?_, fun j j0 j1 => ?_⟩
  · rw [e _ (by omega) (by omega)]; exact a1 j j0 j1
  · rw [e _ (by decide) (by decide)]; exact a2
  · rw [e _ (by decide) (by decide)]; exact a3
  · rw [e _ (by decide) (by decide)]; exact a4 j j0 j1
  · rw [e _ (by decide) (by decide)]; exact a5 j j0 j1
set_option maxRecDepth 100000 in
set_option maxHeartbeats 2000000 in
theorem q_feed {g : mh_G} {d : Nat} (hd : 16 ≤ d) {h : Nat → Int → Int} (hF : mh_FX h) {s er : Int → Int} {x n : Int} (hn : -2147483648 ≤ n ∧ n < 2147483648) (hX : sc_X h s) (hKP : sc_KP h) (h4 : 0 ≤ s 4 ∧ s 4 ≤ 50) (h5 : 0 ≤ s 5 ∧ s 5 ≤ 20) (hi : sp_inv s) (hV : sc_V h s) (hE : sc_E h er) (hKN : sc_KN h) : mh_M g d yX11_feed cX11_feed 5 (some .int) 96 0 0 [.ref 0, .long (Int64.ofInt (x)), .int (Int32.ofInt (n))] h (fun r h2 => ∃ (vv : Int) (tt ee : Int → Int), (vv, tt, ee) = sp_feed x n s er ∧ r = some (.int (Int32.ofInt vv)) ∧ mh_FX h2 ∧ mh_fr [25, 32, 24] h h2 ∧ sc_V h2 tt ∧ sc_E h2 ee ∧ sc_X h2 tt ∧ sc_KP h2) := by
  refine mh_M_of RX11 rfl (by decide +kernel) [some (.ref 0), some (.long (Int64.ofInt (x))), none, some (.int (Int32.ofInt (n))), none] rfl (Nat.le_of_ble_eq_true rfl) (fun f F Z hn0 hR => ?_)
  have hm := hi.1
  have hq0 := hi.2.1
  have hs1 := hi.2.2.1
  have hh := hi.2.2.2.1
  obtain ⟨n6, n7, n8, n10, n14, n15⟩ := hV.2.2
  refine mh_iload3 (pc := 0) F dX11_feed_0 ?_
  refine mh_iconst (pc := 1) F dX11_feed_1 ?_
  refine mh_bipush (pc := 2) F dX11_feed_2 rfl ?_
  refine mh_callSp (pc := 4) (As := [.int (Int32.ofInt (n)), .int (Int32.ofInt (1)), .int (Int32.ofInt (8))]) (st := []) F (by omega) (k4_within (by omega) (by omega) (by omega) (by omega)) ws_RX11_82 dX11_feed_4 rfl rfl (Nat.le_of_ble_eq_true rfl) ⟨Nat.zero_le _, Nat.zero_le _⟩ ?_
  refine mh_ifb_ne (pc := 7) (tgt := 16) F dX11_feed_7 rfl (fun c_7 => ?_) (fun c_7 => ?_)
  · refine mh_aload0 (pc := 16) F dX11_feed_16 ?_
    refine mh_getr (b := 25) (pc := 17) F sh_0 (by decide) fw_RX11_72_11 dX11_feed_17 rfl (fx_0_0 hF) ?_
    refine mh_geti (pc := 20) F sh_25 (by decide) fw_RX11_182_10 dX11_feed_20 rfl ?_
    refine mh_top (y := s 4) (mh_eqI n10) ?_
    refine mh_iload3 (pc := 23) F dX11_feed_23 ?_
    refine mh_iadd (pc := 24) F dX11_feed_24 ?_
    refine mh_bipush (pc := 25) F dX11_feed_25 rfl ?_
    refine mh_icmp_le (pc := 27) (tgt := 36) F dX11_feed_27 rfl (by omega) (by omega) (fun c_27 => ?_) (fun c_27 => ?_)
    · refine mh_iconst (pc := 36) F dX11_feed_36 ?_
      refine mh_istore4 (pc := 37) F dX11_feed_37 rfl (by decide) ?_
      have L39 : ∀ (m : Nat) (k : Int) (hg : Nat → Int → Int), (mh_FX hg) → (mh_fr [25, 32] h hg) → (0 ≤ k ∧ k ≤ n) → (sc_V hg (sp_feeds x s k.toNat)) → (sc_X hg (sp_feeds x s k.toNat)) → (sc_KP hg) → (n - k).toNat = m → mh_V g f 5 96 0 0 39 [some (.ref 0), some (.long (Int64.ofInt (x))), none, some (.int (Int32.ofInt (n))), some (.int (Int32.ofInt (k)))] [] hg := by
        intro m
        induction m using Nat.strongRecOn with
        | _ m ihL39 =>
        intro k hg Fhg frhg hk hVl hXl hKl hmz
        refine mh_iload4 (pc := 39) F dX11_feed_39 ?_
        refine mh_iload3 (pc := 41) F dX11_feed_41 ?_
        refine mh_icmp_ge (pc := 42) (tgt := 88) F dX11_feed_42 rfl (by omega) (by omega) (fun c_42 => ?_) (fun c_42 => ?_)
        · refine mh_aload0 (pc := 88) F dX11_feed_88 ?_
          refine mh_getr (b := 25) (pc := 89) F sh_0 (by decide) fw_RX11_72_11 dX11_feed_89 rfl (fx_0_0 Fhg) ?_
          refine mh_geti (pc := 92) F sh_25 (by decide) fw_RX11_182_10 dX11_feed_92 rfl ?_
          refine mh_top (y := sp_feeds x s n.toNat 4) (mh_eqI (by rw [show n = k by omega]; exact hVl.2.2.2.2.2.1)) ?_
          exact mh_ireturn F Z dX11_feed_95 ⟨_, _, _, (by unfold sp_feed; rw [if_neg (by omega), if_neg (by omega), show n = k by omega]), rfl, Fhg, (frhg.mono (by simp)), hVl, (hE.of (frhg 24 (by simp))), hXl, hKl⟩
        · have ht4 := sp_feeds_4 x s h4.1 k.toNat
          have ht5 := sp_feeds_5 x s h4.1 k.toNat (by omega)
          rw [Int.toNat_of_nonneg hk.1] at ht4
          have hi8 := sc_i8_rg (mh_l2i (mh_lushr x (8 * k)))
          refine mh_aload0 (pc := 45) F dX11_feed_45 ?_
          refine mh_getr (b := 25) (pc := 46) F sh_0 (by decide) fw_RX11_72_11 dX11_feed_46 rfl (fx_0_0 Fhg) ?_
          refine mh_getr (b := 32) (pc := 49) F sh_25 (by decide) fw_RX11_185_10 dX11_feed_49 rfl (fx_25_9 Fhg) ?_
          refine mh_aload0 (pc := 52) F dX11_feed_52 ?_
          refine mh_getr (b := 25) (pc := 53) F sh_0 (by decide) fw_RX11_72_11 dX11_feed_53 rfl (fx_0_0 Fhg) ?_
          refine mh_geti (pc := 56) F sh_25 (by decide) fw_RX11_182_10 dX11_feed_56 rfl ?_
          refine mh_top (y := sp_feeds x s k.toNat 4) (mh_eqI hVl.2.2.2.2.2.1) ?_
          refine mh_lload1 (pc := 59) F dX11_feed_59 ?_
          refine mh_bipush (pc := 60) F dX11_feed_60 rfl ?_
          refine mh_iload4 (pc := 62) F dX11_feed_62 ?_
          refine mh_imul (pc := 64) F dX11_feed_64 ?_
          refine mh_rlushr (pc := 65) F dX11_feed_65 ?_
          refine mh_l2ir (pc := 66) F dX11_feed_66 ?_
          refine mh_i2b (pc := 67) F dX11_feed_67 ?_
          refine mh_bastore (pc := 68) F sh_32 (by decide) (by omega) dX11_feed_68 (by omega) ?_
          refine mh_nmh (fun h1 e1 => ?_)
          have F1 : mh_FX h1 := by rw [e1]; exact Fhg.upa rfl
          have fr1 : mh_fr [25, 32] h h1 := mh_fr.upi frhg e1 (by simp)
          refine mh_aload0 (pc := 69) F dX11_feed_69 ?_
          refine mh_getr (b := 25) (pc := 70) F sh_0 (by decide) fw_RX11_72_11 dX11_feed_70 rfl (fx_0_0 F1) ?_
          refine mh_dup (pc := 73) F dX11_feed_73 rfl ?_
          refine mh_geti (pc := 74) F sh_25 (by decide) fw_RX11_182_10 dX11_feed_74 rfl ?_
          refine mh_top (y := sp_feeds x s k.toNat 4) (mh_eqI (by rw [e1, mh_up_row (by decide)]; exact hVl.2.2.2.2.2.1)) ?_
          refine mh_iconst (pc := 77) F dX11_feed_77 ?_
          refine mh_iadd (pc := 78) F dX11_feed_78 ?_
          refine mh_puti (pc := 79) F sh_25 (by decide) pw_RX11_182_10 dX11_feed_79 ?_
          refine mh_nmh (fun h2 e2 => ?_)
          have F2 : mh_FX h2 := by rw [e2]; exact F1.upz rfl
          have fr2 : mh_fr [25, 32] h h2 := mh_fr.upi fr1 e2 (by simp)
          obtain ⟨hVn, hXn, hKn⟩ := sc_feed1 (t := sp_feeds x s k.toNat) hVl hXl hKl (by omega) (by omega) (by omega) e1 e2
          rw [← sp_feeds_at x s hk.1] at hVn hXn
          refine mh_iinc4 (pc := 82) F dX11_feed_82 rfl (by decide) ?_
          refine mh_goto (pc := 85) (tgt := 39) F dX11_feed_85 rfl ?_
          exact ihL39 _ (by omega) (k + 1) h2 F2 (fr2.mono (by simp)) (by omega) hVn hXn hKn rfl
      exact L39 _ 0 h hF (mh_fr.rf.mono (by simp)) (by omega) hV hX hKP rfl
    · refine mh_aload0 (pc := 30) F dX11_feed_30 ?_
      refine mh_iconst (pc := 31) F dX11_feed_31 ?_
      refine mh_callV0 (pc := 32) (As := [.int (Int32.ofInt (4))]) (st := []) F (by omega) (k8_refuse (by omega) hF rfl (by decide)) wv_RX11_90_yX11_refuse dX11_feed_32 sh_0 rfl (by decide) rfl rfl (Nat.le_of_ble_eq_true rfl) ⟨Nat.zero_le _, Nat.zero_le _⟩ (fun r3 h3 q3 => ?_)
      obtain ⟨rfl, F3, fr3, q3_0⟩ := q3
      have fr4 : mh_fr [24] h h3 := (mh_fr.tr mh_fr.rf fr3).mono (by simp)
      have hVr : sc_V h3 s := sc_V_fr hV (fun a a1 a2 a3 a4 => fr3 a (by simp; omega))
      have hEr : sc_E h3 (mh_ur er 4 (er 4 + 1)) := hE.up (by decide) q3_0
      exact mh_ireturn F Z dX11_feed_35 ⟨_, _, _, (by unfold sp_feed; (repeat' split) <;> first | rfl | (exfalso; omega)), rfl, F3, (fr4.mono (by simp)), hVr, hEr, (hX.of (fr4 32 (by simp)) (fr4 43 (by simp))), (hKP.fr (fun a a1 a2 => fr4 a (by simp; omega)))⟩
  · refine mh_aload0 (pc := 10) F dX11_feed_10 ?_
    refine mh_iconst (pc := 11) F dX11_feed_11 ?_
    refine mh_callV0 (pc := 12) (As := [.int (Int32.ofInt (1))]) (st := []) F (by omega) (k8_refuse (by omega) hF rfl (by decide)) wv_RX11_90_yX11_refuse dX11_feed_12 sh_0 rfl (by decide) rfl rfl (Nat.le_of_ble_eq_true rfl) ⟨Nat.zero_le _, Nat.zero_le _⟩ (fun r5 h5 q5 => ?_)
    obtain ⟨rfl, F5, fr5, q5_0⟩ := q5
    have fr6 : mh_fr [24] h h5 := (mh_fr.tr mh_fr.rf fr5).mono (by simp)
    have hVr : sc_V h5 s := sc_V_fr hV (fun a a1 a2 a3 a4 => fr5 a (by simp; omega))
    have hEr : sc_E h5 (mh_ur er 1 (er 1 + 1)) := hE.up (by decide) q5_0
    exact mh_ireturn F Z dX11_feed_15 ⟨_, _, _, (by unfold sp_feed; (repeat' split) <;> first | rfl | (exfalso; omega)), rfl, F5, (fr6.mono (by simp)), hVr, hEr, (hX.of (fr6 32 (by simp)) (fr6 43 (by simp))), (hKP.fr (fun a a1 a2 => fr6 a (by simp; omega)))⟩

