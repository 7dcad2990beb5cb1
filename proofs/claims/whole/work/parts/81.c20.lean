/-! odds -/
def sc_2 (n : Nat) : Int := ((2 ^ n : Nat) : Int)
theorem sc_2_at {n : Int} (h : 0 ≤ n) : sc_2 (n + 1).toNat = 2 * sc_2 n.toNat := by
  rw [show (n + 1).toNat = n.toNat + 1 by omega]
  unfold sc_2
  rw [Nat.pow_succ]; omega
theorem sc_2_pos (n : Nat) : 0 < sc_2 n := by unfold sc_2; exact_mod_cast Nat.two_pow_pos n
theorem sc_2_16 {n : Int} (h : 0 ≤ n ∧ n ≤ 12) : sp_pw 16 n.toNat = sc_2 (4 * n).toNat := by
  have : ∀ n : Fin 13, sp_pw 16 n.val = sc_2 (4 * n.val) := by decide +kernel
  have e := this ⟨n.toNat, by omega⟩
  rw [show (4 * n).toNat = 4 * n.toNat by omega]; exact e
theorem sc_tm2 {a : Int} (h : 0 ≤ a) : (a.tmod 2 = a % 2 ∧ a.tdiv 2 = a / 2) ∧ (-9223372036854775808 ≤ a.tmod 2 ∧ a.tmod 2 < 9223372036854775808) := by
  have e : a.tmod 2 = a % 2 := Int.tmod_eq_emod_of_nonneg h
  have e2 : a.tdiv 2 = a / 2 := Int.tdiv_eq_ediv_of_nonneg h
  refine ⟨⟨e, e2⟩, ?_⟩
  rw [e]; omega
theorem sc_o1 {A a k : Int} (ha : 0 ≤ a) (k0 : 0 ≤ k) (h : A = a * sc_2 k.toNat) (h2 : a.tmod 2 = 0) : A = a.tdiv 2 * sc_2 (k + 1).toNat := by
  have e := sc_tm2 ha
  rw [h, sc_2_at k0, ← Int.mul_assoc, show a.tdiv 2 * 2 = a by omega]
theorem sc_o2 {c k m : Int} (k1 : k < m) (h : c = sc_2 (m - k).toNat) : c.tdiv 2 = sc_2 (m - (k + 1)).toNat := by
  have e := sc_tm2 (show 0 ≤ c by rw [h]; exact Int.le_of_lt (sc_2_pos _))
  have e3 := sc_2_at (n := m - (k + 1)) (by omega)
  rw [show m - (k + 1) + 1 = m - k by omega, ← h] at e3
  omega
theorem sc_oend {a c A C k m : Int} (ha : 0 ≤ a) (hA : A = a * sc_2 k.toNat) (hc : c = sc_2 (m - k).toNat) (hC : C = sc_2 m.toNat) (k0 : 0 ≤ k ∧ k ≤ m) (he : k = m ∨ a.tmod 2 ≠ 0 ∨ c.tmod 2 ≠ 0) : A.tdiv (Nat.gcd A.toNat C.toNat : Nat) = a ∧ C.tdiv (Nat.gcd A.toNat C.toNat : Nat) = c := by
  have c0 : 0 ≤ c := by rw [hc]; exact Int.le_of_lt (sc_2_pos _)
  have ec := (sc_tm2 c0).1
  have ea := (sc_tm2 ha).1
  have eC : C = c * sc_2 k.toNat := by
    rw [hC, hc]
    unfold sc_2
    rw [← Int.natCast_mul, ← Nat.pow_add, show (m - k).toNat + k.toNat = m.toNat by omega]
  have h1 : Nat.gcd a.toNat c.toNat = 1 := by
    have hodd : a % 2 = 1 → Nat.gcd a.toNat c.toNat = 1 := fun z => by
      have q : Nat.Coprime a.toNat 2 := by
        show Nat.gcd a.toNat 2 = 1
        rw [Nat.gcd_comm, Nat.gcd_rec, show a.toNat % 2 = 1 by omega]; rfl
      have q2 := q.pow_right (m - k).toNat
      rw [show c.toNat = 2 ^ (m - k).toNat by rw [hc]; rfl]
      exact q2
    have hone : k = m → Nat.gcd a.toNat c.toNat = 1 := fun z => by
      rw [show c.toNat = 1 by rw [hc, show (m - k).toNat = 0 by omega]; rfl, Nat.gcd_one_right]
    rcases he with z | z | z
    · exact hone z
    · exact hodd (by omega)
    · by_cases y : k = m
      · exact hone y
      · exfalso
        have e3 := sc_2_at (n := m - k - 1) (by omega)
        rw [show m - k - 1 + 1 = m - k by omega, ← hc] at e3
        omega
  have h2 := sc_2_pos k.toNat
  have eg : ((Nat.gcd A.toNat C.toNat : Nat) : Int) = sc_2 k.toNat := by
    rw [hA, eC, show (a * sc_2 k.toNat).toNat = a.toNat * 2 ^ k.toNat by rw [Int.toNat_mul ha (Int.le_of_lt h2)]; rfl, show (c * sc_2 k.toNat).toNat = c.toNat * 2 ^ k.toNat by rw [Int.toNat_mul c0 (Int.le_of_lt h2)]; rfl, Nat.gcd_mul_right, h1, Nat.one_mul]
    rfl
  rw [eg, hA, eC]
  exact ⟨Int.mul_tdiv_cancel _ (by omega), Int.mul_tdiv_cancel _ (by omega)⟩
set_option maxRecDepth 100000 in
set_option maxHeartbeats 2000000 in
theorem q_odds {g : mh_G} {d : Nat} (hd : 10 ≤ d) {h : Nat → Int → Int} (hF : mh_FX h) {s er : Int → Int} {p n w : Int} (hp : -2147483648 ≤ p ∧ p < 2147483648) (hn : -2147483648 ≤ n ∧ n < 2147483648) (hw : -2147483648 ≤ w ∧ w < 2147483648) (hV : sc_V h s) (hE : sc_E h er) : mh_M g d yX11_odds cX11_odds 9 (some .long) 96 0 0 [.ref 0, .int (Int32.ofInt (p)), .int (Int32.ofInt (n)), .int (Int32.ofInt (w))] h (fun r h2 => ∃ (vv : Int) (ee : Int → Int), (vv, ee) = sp_odds p n w er ∧ r = some (.long (Int64.ofInt vv)) ∧ mh_FX h2 ∧ mh_fr [24] h h2 ∧ sc_E h2 ee) := by
  refine mh_M_of RX11 rfl (by decide +kernel) [some (.ref 0), some (.int (Int32.ofInt (p))), some (.int (Int32.ofInt (n))), some (.int (Int32.ofInt (w))), none, none, none, none, none] rfl (Nat.le_of_ble_eq_true rfl) (fun f F Z hn0 hR => ?_)
  have hN15 := hV.2.2
  refine mh_iload1 (pc := 0) F dX11_odds_0 ?_
  refine mh_iconst (pc := 1) F dX11_odds_1 ?_
  refine mh_bipush (pc := 2) F dX11_odds_2 rfl ?_
  refine mh_callSp (pc := 4) (As := [.int (Int32.ofInt (p)), .int (Int32.ofInt (0)), .int (Int32.ofInt (16))]) (st := []) F (by omega) (k4_within (by omega) (by omega) (by omega) (by omega)) ws_RX11_82 dX11_odds_4 rfl rfl (Nat.le_of_ble_eq_true rfl) ⟨Nat.zero_le _, Nat.zero_le _⟩ ?_
  refine mh_ifb_eq (pc := 7) (tgt := 29) F dX11_odds_7 rfl (fun c_7 => ?_) (fun c_7 => ?_)
  · refine mh_aload0 (pc := 29) F dX11_odds_29 ?_
    refine mh_iconst (pc := 30) F dX11_odds_30 ?_
    refine mh_callV0 (pc := 31) (As := [.int (Int32.ofInt (1))]) (st := []) F (by omega) (k8_refuse (by omega) hF rfl (by decide)) wv_RX11_90_yX11_refuse dX11_odds_31 sh_0 rfl (by decide) rfl rfl (Nat.le_of_ble_eq_true rfl) ⟨Nat.zero_le _, Nat.zero_le _⟩ (fun r1 h1 q1 => ?_)
    obtain ⟨rfl, F1, fr1, q1_0⟩ := q1
    have fr2 : mh_fr [24] h h1 := (mh_fr.tr mh_fr.rf fr1).mono (by simp)
    have hVr : sc_V h1 s := sc_V_fr hV (fun a a1 a2 a3 a4 => fr1 a (by simp; omega))
    have hEr : sc_E h1 (mh_ur er 1 (er 1 + 1)) := hE.up (by decide) q1_0
    refine mh_i2l (pc := 34) F dX11_odds_34 (by omega) ?_
    exact mh_lreturn F Z dX11_odds_35 ⟨_, _, (by unfold sp_odds; rw [if_pos (by omega)]; rfl), rfl, F1, (fr2.mono (by simp)), hEr⟩
  · refine mh_iload2 (pc := 10) F dX11_odds_10 ?_
    refine mh_iconst (pc := 11) F dX11_odds_11 ?_
    refine mh_bipush (pc := 12) F dX11_odds_12 rfl ?_
    refine mh_callSp (pc := 14) (As := [.int (Int32.ofInt (n)), .int (Int32.ofInt (0)), .int (Int32.ofInt (12))]) (st := []) F (by omega) (k4_within (by omega) (by omega) (by omega) (by omega)) ws_RX11_82 dX11_odds_14 rfl rfl (Nat.le_of_ble_eq_true rfl) ⟨Nat.zero_le _, Nat.zero_le _⟩ ?_
    refine mh_ifb_eq (pc := 17) (tgt := 29) F dX11_odds_17 rfl (fun c_17 => ?_) (fun c_17 => ?_)
    · refine mh_aload0 (pc := 29) F dX11_odds_29 ?_
      refine mh_iconst (pc := 30) F dX11_odds_30 ?_
      refine mh_callV0 (pc := 31) (As := [.int (Int32.ofInt (1))]) (st := []) F (by omega) (k8_refuse (by omega) hF rfl (by decide)) wv_RX11_90_yX11_refuse dX11_odds_31 sh_0 rfl (by decide) rfl rfl (Nat.le_of_ble_eq_true rfl) ⟨Nat.zero_le _, Nat.zero_le _⟩ (fun r3 h3 q3 => ?_)
      obtain ⟨rfl, F3, fr3, q3_0⟩ := q3
      have fr4 : mh_fr [24] h h3 := (mh_fr.tr mh_fr.rf fr3).mono (by simp)
      have hVr : sc_V h3 s := sc_V_fr hV (fun a a1 a2 a3 a4 => fr3 a (by simp; omega))
      have hEr : sc_E h3 (mh_ur er 1 (er 1 + 1)) := hE.up (by decide) q3_0
      refine mh_i2l (pc := 34) F dX11_odds_34 (by omega) ?_
      exact mh_lreturn F Z dX11_odds_35 ⟨_, _, (by unfold sp_odds; rw [if_pos (by omega)]; rfl), rfl, F3, (fr4.mono (by simp)), hEr⟩
    · refine mh_iload3 (pc := 20) F dX11_odds_20 ?_
      refine mh_iconst (pc := 21) F dX11_odds_21 ?_
      refine mh_iconst (pc := 22) F dX11_odds_22 ?_
      refine mh_callSp (pc := 23) (As := [.int (Int32.ofInt (w)), .int (Int32.ofInt (0)), .int (Int32.ofInt (1))]) (st := []) F (by omega) (k4_within (by omega) (by omega) (by omega) (by omega)) ws_RX11_82 dX11_odds_23 rfl rfl (Nat.le_of_ble_eq_true rfl) ⟨Nat.zero_le _, Nat.zero_le _⟩ ?_
      refine mh_ifb_ne (pc := 26) (tgt := 36) F dX11_odds_26 rfl (fun c_26 => ?_) (fun c_26 => ?_)
      · refine mh_lconst (x := 1) (pc := 36) F dX11_odds_36 rfl ?_
        refine mh_lstore4 (pc := 37) F dX11_odds_37 rfl (by decide) ?_
        refine mh_lconst (x := 1) (pc := 39) F dX11_odds_39 rfl ?_
        refine mh_lstore6 (pc := 40) F dX11_odds_40 rfl (by decide) ?_
        refine mh_iconst (pc := 42) F dX11_odds_42 ?_
        refine mh_istore8 (pc := 43) F dX11_odds_43 rfl (by decide) ?_
        have L45 : ∀ (m : Nat) (a : Int) (c : Int) (k : Int), (0 ≤ k ∧ k ≤ n) → (a = sp_pw (16 - p) k.toNat) → (c = sp_pw 16 k.toNat) → (n - k).toNat = m → mh_V g f 9 96 0 0 45 [some (.ref 0), some (.int (Int32.ofInt (p))), some (.int (Int32.ofInt (n))), some (.int (Int32.ofInt (w))), some (.long (Int64.ofInt (a))), none, some (.long (Int64.ofInt (c))), none, some (.int (Int32.ofInt (k)))] [] h := by
          intro m
          induction m using Nat.strongRecOn with
          | _ m ihL45 =>
          intro a c k hk ha hc hmz
          refine mh_iload8 (pc := 45) F dX11_odds_45 ?_
          refine mh_iload2 (pc := 47) F dX11_odds_47 ?_
          refine mh_icmp_ge (pc := 48) (tgt := 75) F dX11_odds_48 rfl (by omega) (by omega) (fun c_48 => ?_) (fun c_48 => ?_)
          · have h16 := sp_pw16 k.toNat (by omega)
            have hpw := sp_pw_rg (b := 16 - p) (by omega) k.toNat
            rw [← ha] at hpw
            rw [← hc] at hpw h16
            refine mh_iconst (pc := 75) F dX11_odds_75 ?_
            refine mh_istore8 (pc := 76) F dX11_odds_76 rfl (by decide) ?_
            have L78 : ∀ (m : Nat) (x : Int) (y : Int) (j : Int), (0 ≤ j ∧ j ≤ 4 * n) → (0 ≤ x ∧ x ≤ 281474976710656) → (0 ≤ y ∧ y ≤ 281474976710656) → (a = x * sc_2 j.toNat) → (y = sc_2 (4 * n - j).toNat) → (4 * n - j).toNat = m → mh_V g f 9 96 0 0 78 [some (.ref 0), some (.int (Int32.ofInt (p))), some (.int (Int32.ofInt (n))), some (.int (Int32.ofInt (w))), some (.long (Int64.ofInt (x))), none, some (.long (Int64.ofInt (y))), none, some (.int (Int32.ofInt (j)))] [] h := by
              intro m
              induction m using Nat.strongRecOn with
              | _ m ihL78 =>
              intro x y j hj hx hy hA hY hmz
              refine mh_iload8 (pc := 78) F dX11_odds_78 ?_
              have tx := sc_tm2 hx.1
              have ty := sc_tm2 hy.1
              refine mh_iconst (pc := 80) F dX11_odds_80 ?_
              refine mh_iload2 (pc := 81) F dX11_odds_81 ?_
              refine mh_imul (pc := 82) F dX11_odds_82 ?_
              refine mh_icmp_ge (pc := 83) (tgt := 130) F dX11_odds_83 rfl (by omega) (by omega) (fun c_83 => ?_) (fun c_83 => ?_)
              · have hend := sc_oend (m := 4 * n) (C := c) hx.1 hA hY (by rw [hc, show k = n by omega, sc_2_16 (by omega)]) hj (by first | exact Or.inl (by omega) | exact Or.inr (Or.inl (fun z => c_94 (mh_cmp_eq0.mpr z))) | exact Or.inr (Or.inr (fun z => c_105 (mh_cmp_eq0.mpr z))))
                have hgc : ((Nat.gcd a.toNat c.toNat : Nat) : Int) = sp_gc p n := by
                  unfold sp_gc; rw [ha, hc, show n = k by omega]
                rw [hgc, ha, hc, show k = n by omega] at hend
                obtain ⟨ho1, ho2⟩ := hend
                refine mh_iload3 (pc := 130) F dX11_odds_130 ?_
                refine mh_if_ne (pc := 131) (tgt := 139) F dX11_odds_131 rfl (by omega) (fun c_131 => ?_) (fun c_131 => ?_)
                · refine mh_lload6 (pc := 139) F dX11_odds_139 ?_
                  exact mh_lreturn F Z dX11_odds_141 ⟨_, er, (by unfold sp_odds; rw [if_neg (by omega)]; first | (rw [if_pos (by omega), ← ho1]; done) | (rw [if_neg (by omega), ← ho2]; done)), rfl, hF, (mh_fr.rf.mono (by simp)), hE⟩
                · refine mh_lload4 (pc := 134) F dX11_odds_134 ?_
                  refine mh_goto (pc := 136) (tgt := 141) F dX11_odds_136 rfl ?_
                  exact mh_lreturn F Z dX11_odds_141 ⟨_, er, (by unfold sp_odds; rw [if_neg (by omega)]; first | (rw [if_pos (by omega), ← ho1]; done) | (rw [if_neg (by omega), ← ho2]; done)), rfl, hF, (mh_fr.rf.mono (by simp)), hE⟩
              · refine mh_lload4 (pc := 86) F dX11_odds_86 ?_
                refine mh_ldc2 (x := 2) (pc := 88) F dX11_odds_88 tw_4_175 ?_
                refine mh_lrem (pc := 91) F dX11_odds_91 (by omega) (by omega) (by omega) ?_
                refine mh_lconst (x := 0) (pc := 92) F dX11_odds_92 rfl ?_
                refine mh_lcmp (pc := 93) F dX11_odds_93 tx.2 (by omega) ?_
                refine mh_if_ne (pc := 94) (tgt := 130) F dX11_odds_94 rfl mh_cmp_rg (fun c_94 => ?_) (fun c_94 => ?_)
                · have hend := sc_oend (m := 4 * n) (C := c) hx.1 hA hY (by rw [hc, show k = n by omega, sc_2_16 (by omega)]) hj (by first | exact Or.inl (by omega) | exact Or.inr (Or.inl (fun z => c_94 (mh_cmp_eq0.mpr z))) | exact Or.inr (Or.inr (fun z => c_105 (mh_cmp_eq0.mpr z))))
                  have hgc : ((Nat.gcd a.toNat c.toNat : Nat) : Int) = sp_gc p n := by
                    unfold sp_gc; rw [ha, hc, show n = k by omega]
                  rw [hgc, ha, hc, show k = n by omega] at hend
                  obtain ⟨ho1, ho2⟩ := hend
                  refine mh_iload3 (pc := 130) F dX11_odds_130 ?_
                  refine mh_if_ne (pc := 131) (tgt := 139) F dX11_odds_131 rfl (by omega) (fun c_131 => ?_) (fun c_131 => ?_)
                  · refine mh_lload6 (pc := 139) F dX11_odds_139 ?_
                    exact mh_lreturn F Z dX11_odds_141 ⟨_, er, (by unfold sp_odds; rw [if_neg (by omega)]; first | (rw [if_pos (by omega), ← ho1]; done) | (rw [if_neg (by omega), ← ho2]; done)), rfl, hF, (mh_fr.rf.mono (by simp)), hE⟩
                  · refine mh_lload4 (pc := 134) F dX11_odds_134 ?_
                    refine mh_goto (pc := 136) (tgt := 141) F dX11_odds_136 rfl ?_
                    exact mh_lreturn F Z dX11_odds_141 ⟨_, er, (by unfold sp_odds; rw [if_neg (by omega)]; first | (rw [if_pos (by omega), ← ho1]; done) | (rw [if_neg (by omega), ← ho2]; done)), rfl, hF, (mh_fr.rf.mono (by simp)), hE⟩
                · refine mh_lload6 (pc := 97) F dX11_odds_97 ?_
                  refine mh_ldc2 (x := 2) (pc := 99) F dX11_odds_99 tw_4_175 ?_
                  refine mh_lrem (pc := 102) F dX11_odds_102 (by omega) (by omega) (by omega) ?_
                  refine mh_lconst (x := 0) (pc := 103) F dX11_odds_103 rfl ?_
                  refine mh_lcmp (pc := 104) F dX11_odds_104 ty.2 (by omega) ?_
                  refine mh_if_ne (pc := 105) (tgt := 130) F dX11_odds_105 rfl mh_cmp_rg (fun c_105 => ?_) (fun c_105 => ?_)
                  · have hend := sc_oend (m := 4 * n) (C := c) hx.1 hA hY (by rw [hc, show k = n by omega, sc_2_16 (by omega)]) hj (by first | exact Or.inl (by omega) | exact Or.inr (Or.inl (fun z => c_94 (mh_cmp_eq0.mpr z))) | exact Or.inr (Or.inr (fun z => c_105 (mh_cmp_eq0.mpr z))))
                    have hgc : ((Nat.gcd a.toNat c.toNat : Nat) : Int) = sp_gc p n := by
                      unfold sp_gc; rw [ha, hc, show n = k by omega]
                    rw [hgc, ha, hc, show k = n by omega] at hend
                    obtain ⟨ho1, ho2⟩ := hend
                    refine mh_iload3 (pc := 130) F dX11_odds_130 ?_
                    refine mh_if_ne (pc := 131) (tgt := 139) F dX11_odds_131 rfl (by omega) (fun c_131 => ?_) (fun c_131 => ?_)
                    · refine mh_lload6 (pc := 139) F dX11_odds_139 ?_
                      exact mh_lreturn F Z dX11_odds_141 ⟨_, er, (by unfold sp_odds; rw [if_neg (by omega)]; first | (rw [if_pos (by omega), ← ho1]; done) | (rw [if_neg (by omega), ← ho2]; done)), rfl, hF, (mh_fr.rf.mono (by simp)), hE⟩
                    · refine mh_lload4 (pc := 134) F dX11_odds_134 ?_
                      refine mh_goto (pc := 136) (tgt := 141) F dX11_odds_136 rfl ?_
                      exact mh_lreturn F Z dX11_odds_141 ⟨_, er, (by unfold sp_odds; rw [if_neg (by omega)]; first | (rw [if_pos (by omega), ← ho1]; done) | (rw [if_neg (by omega), ← ho2]; done)), rfl, hF, (mh_fr.rf.mono (by simp)), hE⟩
                  · refine mh_lload4 (pc := 108) F dX11_odds_108 ?_
                    refine mh_ldc2 (x := 2) (pc := 110) F dX11_odds_110 tw_4_175 ?_
                    refine mh_ldiv (pc := 113) F dX11_odds_113 (by omega) (by omega) (by omega) ?_
                    refine mh_lstore4 (pc := 114) F dX11_odds_114 rfl (by decide) ?_
                    refine mh_lload6 (pc := 116) F dX11_odds_116 ?_
                    refine mh_ldc2 (x := 2) (pc := 118) F dX11_odds_118 tw_4_175 ?_
                    refine mh_ldiv (pc := 121) F dX11_odds_121 (by omega) (by omega) (by omega) ?_
                    refine mh_lstore6 (pc := 122) F dX11_odds_122 rfl (by decide) ?_
                    refine mh_iinc8 (pc := 124) F dX11_odds_124 rfl (by decide) ?_
                    refine mh_goto (pc := 127) (tgt := 78) F dX11_odds_127 rfl ?_
                    exact ihL78 _ (by omega) (x.tdiv 2) (y.tdiv 2) (j + 1) (by omega) (by omega) (by omega) (sc_o1 hx.1 hj.1 hA (mh_cmp_eq0.mp (by omega))) (sc_o2 (by omega) hY) rfl
            exact L78 _ a c 0 (by omega) (by omega) (by omega) (by rw [show (0 : Int).toNat = 0 from rfl, show sc_2 0 = 1 from rfl, Int.mul_one]) (by rw [hc, show k = n by omega, sc_2_16 (by omega), show 4 * n - 0 = 4 * n by omega]) rfl
          · refine mh_lload4 (pc := 51) F dX11_odds_51 ?_
            refine mh_bipush (pc := 53) F dX11_odds_53 rfl ?_
            refine mh_iload1 (pc := 55) F dX11_odds_55 ?_
            refine mh_isub (pc := 56) F dX11_odds_56 ?_
            refine mh_i2l (pc := 57) F dX11_odds_57 (by omega) ?_
            refine mh_lmul (pc := 58) F dX11_odds_58 ?_
            refine mh_lstore4 (pc := 59) F dX11_odds_59 rfl (by decide) ?_
            refine mh_lload6 (pc := 61) F dX11_odds_61 ?_
            refine mh_ldc2 (x := 16) (pc := 63) F dX11_odds_63 tw_4_174 ?_
            refine mh_lmul (pc := 66) F dX11_odds_66 ?_
            refine mh_lstore6 (pc := 67) F dX11_odds_67 rfl (by decide) ?_
            refine mh_iinc8 (pc := 69) F dX11_odds_69 rfl (by decide) ?_
            refine mh_goto (pc := 72) (tgt := 45) F dX11_odds_72 rfl ?_
            exact ihL45 _ (by omega) (a * (16 - p)) (c * 16) (k + 1) (by omega) (by rw [sp_pw_at _ hk.1, ha]) (by rw [sp_pw_at _ hk.1, hc]) rfl
        exact L45 _ 1 1 0 (by omega) rfl rfl rfl
      · refine mh_aload0 (pc := 29) F dX11_odds_29 ?_
        refine mh_iconst (pc := 30) F dX11_odds_30 ?_
        refine mh_callV0 (pc := 31) (As := [.int (Int32.ofInt (1))]) (st := []) F (by omega) (k8_refuse (by omega) hF rfl (by decide)) wv_RX11_90_yX11_refuse dX11_odds_31 sh_0 rfl (by decide) rfl rfl (Nat.le_of_ble_eq_true rfl) ⟨Nat.zero_le _, Nat.zero_le _⟩ (fun r5 h5 q5 => ?_)
        obtain ⟨rfl, F5, fr5, q5_0⟩ := q5
        have fr6 : mh_fr [24] h h5 := (mh_fr.tr mh_fr.rf fr5).mono (by simp)
        have hVr : sc_V h5 s := sc_V_fr hV (fun a a1 a2 a3 a4 => fr5 a (by simp; omega))
        have hEr : sc_E h5 (mh_ur er 1 (er 1 + 1)) := hE.up (by decide) q5_0
        refine mh_i2l (pc := 34) F dX11_odds_34 (by omega) ?_
        exact mh_lreturn F Z dX11_odds_35 ⟨_, _, (by unfold sp_odds; rw [if_pos (by omega)]; rfl), rfl, F5, (fr6.mono (by simp)), hEr⟩

