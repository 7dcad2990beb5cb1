/-! odds -/
def sp_pw (b : Int) : Nat → Int
  | 0 => 1
  | n + 1 => sp_pw b n * b
theorem sp_pw_at (b : Int) {n : Int} (h : 0 ≤ n) : sp_pw b (n + 1).toNat = sp_pw b n.toNat * b := by
  rw [show (n + 1).toNat = n.toNat + 1 by omega]; rfl
theorem sp_pw16 (n : Nat) (hn : n ≤ 12) : 1 ≤ sp_pw 16 n ∧ sp_pw 16 n ≤ 281474976710656 := by
  have : ∀ n : Fin 13, 1 ≤ sp_pw 16 n.val ∧ sp_pw 16 n.val ≤ 281474976710656 := by decide +kernel
  exact this ⟨n, by omega⟩
theorem sp_pw_rg {b : Int} (hb : 0 ≤ b ∧ b ≤ 16) (n : Nat) : 0 ≤ sp_pw b n ∧ sp_pw b n ≤ sp_pw 16 n := by
  induction n with
  | zero => exact ⟨(by decide : (0 : Int) ≤ 1), Int.le_refl _⟩
  | succ n ih =>
    have h0 : 0 ≤ sp_pw 16 n := by omega
    exact ⟨Int.mul_nonneg ih.1 hb.1, Int.mul_le_mul ih.2 hb.2 hb.1 h0⟩
def sp_gc (p n : Int) : Int := (Nat.gcd (sp_pw (16 - p) n.toNat).toNat (sp_pw 16 n.toNat).toNat : Nat)
def sp_odds (p n w : Int) (er : Int → Int) : Int × (Int → Int) :=
  if ¬ ((0 ≤ p ∧ p ≤ 16) ∧ (0 ≤ n ∧ n ≤ 12) ∧ (0 ≤ w ∧ w ≤ 1)) then (-1000000001, mh_ur er 1 (er 1 + 1))
  else ((if w = 0 then sp_pw (16 - p) n.toNat else sp_pw 16 n.toNat).tdiv (sp_gc p n), er)
theorem sp_gcs {x y : Int} (hx : 0 ≤ x) (hy : 0 < y) : Nat.gcd y.toNat (x.tmod y).toNat = Nat.gcd x.toNat y.toNat ∧ 0 ≤ x.tmod y ∧ x.tmod y < y := by
  have e : x.tmod y = x % y := Int.tmod_eq_emod_of_nonneg hx
  have h1 := Int.emod_nonneg x (show y ≠ 0 by omega)
  have h2 := Int.emod_lt_of_pos x hy
  refine ⟨?_, by omega, by omega⟩
  rw [e, Int.toNat_emod hx (by omega), Nat.gcd_comm x.toNat y.toNat, Nat.gcd_rec y.toNat x.toNat, Nat.gcd_comm]
set_option maxRecDepth 100000 in
set_option maxHeartbeats 4000000 in
theorem p_odds {g : mh_G} {d : Nat} (hd : 10 ≤ d) {h : Nat → Int → Int} (hF : mh_FX h) {er : Int → Int} (r85 : h 85 = er) {p n w : Int} (hp : -2147483648 ≤ p ∧ p < 2147483648) (hn : -2147483648 ≤ n ∧ n < 2147483648) (hw : -2147483648 ≤ w ∧ w < 2147483648) : mh_M g d yX12_odds cX12_odds 14 (some .long) 96 0 0 [.ref 81, .int (Int32.ofInt (p)), .int (Int32.ofInt (n)), .int (Int32.ofInt (w))] h (fun r h2 => ∃ (vv : Int) (t0 : Int → Int), (vv, t0) = sp_odds p n w er ∧ r = some (.long (Int64.ofInt vv)) ∧ mh_FX h2 ∧ mh_fr [85] h h2 ∧ h2 85 = t0) := by
  refine mh_M_of RX12 rfl (by decide +kernel) [some (.ref 81), some (.int (Int32.ofInt (p))), some (.int (Int32.ofInt (n))), some (.int (Int32.ofInt (w))), none, none, none, none, none, none, none, none, none, none] rfl (Nat.le_of_ble_eq_true rfl) (fun f F Z hn0 hR => ?_)
  refine mh_iload1 (pc := 0) F dX12_odds_0 ?_
  refine mh_i2l (pc := 1) F dX12_odds_1 (by omega) ?_
  refine mh_lconst (x := 0) (pc := 2) F dX12_odds_2 rfl ?_
  refine mh_ldc2 (x := 16) (pc := 3) F dX12_odds_3 tw_7_99 ?_
  refine mh_callSp (pc := 6) (As := [.long (Int64.ofInt (p)), .long (Int64.ofInt (0)), .long (Int64.ofInt (16))]) (st := []) F (by omega) (k_in (by omega) (by omega) (by omega) (by omega)) ws_RX12_69 dX12_odds_6 rfl rfl (Nat.le_of_ble_eq_true rfl) ⟨Nat.zero_le _, Nat.zero_le _⟩ ?_
  refine mh_ifb_eq (pc := 9) (tgt := 34) F dX12_odds_9 rfl (fun c_9 => ?_) (fun c_9 => ?_)
  · refine mh_aload0 (pc := 34) F dX12_odds_34 ?_
    refine mh_iconst (pc := 35) F dX12_odds_35 ?_
    refine mh_callV0 (pc := 36) (As := [.int (Int32.ofInt (1))]) (st := []) F (by omega) (k_error (by omega) hF r85 (by omega)) wv_RX12_114_yX12_error dX12_odds_36 sh_81 rfl (by decide) rfl rfl (Nat.le_of_ble_eq_true rfl) ⟨Nat.zero_le _, Nat.zero_le _⟩ (fun r1 h1 q1 => ?_)
    obtain ⟨rfl, F1, fr1, q1_0⟩ := q1
    have fr2 : mh_fr [85] h h1 := (mh_fr.tr mh_fr.rf fr1).mono (by simp)
    refine mh_i2l (pc := 39) F dX12_odds_39 (by omega) ?_
    exact mh_lreturn F Z dX12_odds_40 ⟨_, _, (by unfold sp_odds; (repeat' split) <;> first | (exfalso; omega) | rfl | (rw [← hxg, ha, show n = k by omega]; done) | (rw [← hxg, hc, show n = k by omega]; done)), rfl, F1, (fr2.mono (by simp)), q1_0⟩
  · refine mh_iload2 (pc := 12) F dX12_odds_12 ?_
    refine mh_i2l (pc := 13) F dX12_odds_13 (by omega) ?_
    refine mh_lconst (x := 0) (pc := 14) F dX12_odds_14 rfl ?_
    refine mh_ldc2 (x := 12) (pc := 15) F dX12_odds_15 tw_7_100 ?_
    refine mh_callSp (pc := 18) (As := [.long (Int64.ofInt (n)), .long (Int64.ofInt (0)), .long (Int64.ofInt (12))]) (st := []) F (by omega) (k_in (by omega) (by omega) (by omega) (by omega)) ws_RX12_69 dX12_odds_18 rfl rfl (Nat.le_of_ble_eq_true rfl) ⟨Nat.zero_le _, Nat.zero_le _⟩ ?_
    refine mh_ifb_eq (pc := 21) (tgt := 34) F dX12_odds_21 rfl (fun c_21 => ?_) (fun c_21 => ?_)
    · refine mh_aload0 (pc := 34) F dX12_odds_34 ?_
      refine mh_iconst (pc := 35) F dX12_odds_35 ?_
      refine mh_callV0 (pc := 36) (As := [.int (Int32.ofInt (1))]) (st := []) F (by omega) (k_error (by omega) hF r85 (by omega)) wv_RX12_114_yX12_error dX12_odds_36 sh_81 rfl (by decide) rfl rfl (Nat.le_of_ble_eq_true rfl) ⟨Nat.zero_le _, Nat.zero_le _⟩ (fun r3 h3 q3 => ?_)
      obtain ⟨rfl, F3, fr3, q3_0⟩ := q3
      have fr4 : mh_fr [85] h h3 := (mh_fr.tr mh_fr.rf fr3).mono (by simp)
      refine mh_i2l (pc := 39) F dX12_odds_39 (by omega) ?_
      exact mh_lreturn F Z dX12_odds_40 ⟨_, _, (by unfold sp_odds; (repeat' split) <;> first | (exfalso; omega) | rfl | (rw [← hxg, ha, show n = k by omega]; done) | (rw [← hxg, hc, show n = k by omega]; done)), rfl, F3, (fr4.mono (by simp)), q3_0⟩
    · refine mh_iload3 (pc := 24) F dX12_odds_24 ?_
      refine mh_i2l (pc := 25) F dX12_odds_25 (by omega) ?_
      refine mh_lconst (x := 0) (pc := 26) F dX12_odds_26 rfl ?_
      refine mh_lconst (x := 1) (pc := 27) F dX12_odds_27 rfl ?_
      refine mh_callSp (pc := 28) (As := [.long (Int64.ofInt (w)), .long (Int64.ofInt (0)), .long (Int64.ofInt (1))]) (st := []) F (by omega) (k_in (by omega) (by omega) (by omega) (by omega)) ws_RX12_69 dX12_odds_28 rfl rfl (Nat.le_of_ble_eq_true rfl) ⟨Nat.zero_le _, Nat.zero_le _⟩ ?_
      refine mh_ifb_ne (pc := 31) (tgt := 41) F dX12_odds_31 rfl (fun c_31 => ?_) (fun c_31 => ?_)
      · refine mh_lconst (x := 1) (pc := 41) F dX12_odds_41 rfl ?_
        refine mh_lstore4 (pc := 42) F dX12_odds_42 rfl (by decide) ?_
        refine mh_lconst (x := 1) (pc := 44) F dX12_odds_44 rfl ?_
        refine mh_lstore6 (pc := 45) F dX12_odds_45 rfl (by decide) ?_
        refine mh_iconst (pc := 47) F dX12_odds_47 ?_
        refine mh_istore8 (pc := 48) F dX12_odds_48 rfl (by decide) ?_
        have L50 : ∀ (m : Nat) (a : Int) (c : Int) (k : Int), (0 ≤ k ∧ k ≤ n) → (a = sp_pw (16 - p) k.toNat) → (c = sp_pw 16 k.toNat) → (n - k).toNat = m → mh_V g f 14 96 0 0 50 [some (.ref 81), some (.int (Int32.ofInt (p))), some (.int (Int32.ofInt (n))), some (.int (Int32.ofInt (w))), some (.long (Int64.ofInt (a))), none, some (.long (Int64.ofInt (c))), none, some (.int (Int32.ofInt (k))), none, none, none, none, none] [] h := by
          intro m
          induction m using Nat.strongRecOn with
          | _ m ihL50 =>
          intro a c k hk ha hc hmz
          refine mh_iload8 (pc := 50) F dX12_odds_50 ?_
          refine mh_iload2 (pc := 52) F dX12_odds_52 ?_
          refine mh_icmp_ge (pc := 53) (tgt := 80) F dX12_odds_53 rfl (by omega) (by omega) (fun c_53 => ?_) (fun c_53 => ?_)
          · have h16 := sp_pw16 k.toNat (by omega)
            have hpw := sp_pw_rg (b := 16 - p) (by omega) k.toNat
            rw [← ha] at hpw
            rw [← hc] at hpw h16
            refine mh_lload4 (pc := 80) F dX12_odds_80 ?_
            refine mh_lstore8 (pc := 82) F dX12_odds_82 rfl (by decide) ?_
            refine mh_lload6 (pc := 84) F dX12_odds_84 ?_
            refine mh_lstore10 (pc := 86) F dX12_odds_86 rfl (by decide) ?_
            have L88 : ∀ (m : Nat) (x : Int) (y : Int), (0 ≤ x ∧ x ≤ 281474976710656) → (0 ≤ y ∧ y ≤ 281474976710656) → (Nat.gcd x.toNat y.toNat = Nat.gcd a.toNat c.toNat) → (0 < x ∨ 0 < y) → y.toNat = m → mh_V g f 14 96 0 0 88 [some (.ref 81), some (.int (Int32.ofInt (p))), some (.int (Int32.ofInt (n))), some (.int (Int32.ofInt (w))), some (.long (Int64.ofInt (a))), none, some (.long (Int64.ofInt (c))), none, some (.long (Int64.ofInt (x))), none, some (.long (Int64.ofInt (y))), none, none, none] [] h := by
              intro m
              induction m using Nat.strongRecOn with
              | _ m ihL88 =>
              intro x y hx hy hg hp0 hmz
              refine mh_lload10 (pc := 88) F dX12_odds_88 ?_
              refine mh_lconst (x := 0) (pc := 90) F dX12_odds_90 rfl ?_
              refine mh_lcmp (pc := 91) F dX12_odds_91 (by omega) (by omega) ?_
              refine mh_if_eq (pc := 92) (tgt := 113) F dX12_odds_92 rfl mh_cmp_rg (fun c_92 => ?_) (fun c_92 => ?_)
              · have hy0 : y = 0 := mh_cmp_eq0.mp c_92
                have hxg : x = sp_gc p n := by
                  unfold sp_gc
                  rw [show n = k by omega, ← ha, ← hc, ← hg, hy0, show (0 : Int).toNat = 0 from rfl, Nat.gcd_zero_right]; omega
                refine mh_iload3 (pc := 113) F dX12_odds_113 ?_
                refine mh_if_ne (pc := 114) (tgt := 122) F dX12_odds_114 rfl (by omega) (fun c_114 => ?_) (fun c_114 => ?_)
                · refine mh_lload6 (pc := 122) F dX12_odds_122 ?_
                  refine mh_lload8 (pc := 124) F dX12_odds_124 ?_
                  refine mh_ldiv (pc := 126) F dX12_odds_126 (by omega) (by omega) (by omega) ?_
                  exact mh_lreturn F Z dX12_odds_127 ⟨_, _, (by unfold sp_odds; (repeat' split) <;> first | (exfalso; omega) | rfl | (rw [← hxg, ha, show n = k by omega]; done) | (rw [← hxg, hc, show n = k by omega]; done)), rfl, hF, (mh_fr.rf.mono (by simp)), r85⟩
                · refine mh_lload4 (pc := 117) F dX12_odds_117 ?_
                  refine mh_goto (pc := 119) (tgt := 124) F dX12_odds_119 rfl ?_
                  refine mh_lload8 (pc := 124) F dX12_odds_124 ?_
                  refine mh_ldiv (pc := 126) F dX12_odds_126 (by omega) (by omega) (by omega) ?_
                  exact mh_lreturn F Z dX12_odds_127 ⟨_, _, (by unfold sp_odds; (repeat' split) <;> first | (exfalso; omega) | rfl | (rw [← hxg, ha, show n = k by omega]; done) | (rw [← hxg, hc, show n = k by omega]; done)), rfl, hF, (mh_fr.rf.mono (by simp)), r85⟩
              · have hy0 : y ≠ 0 := fun z => c_92 (mh_cmp_eq0.mpr z)
                have hs := sp_gcs hx.1 (show 0 < y by omega)
                refine mh_lload8 (pc := 95) F dX12_odds_95 ?_
                refine mh_lload10 (pc := 97) F dX12_odds_97 ?_
                refine mh_lrem (pc := 99) F dX12_odds_99 (by omega) (by omega) (by omega) ?_
                refine mh_lstore12 (pc := 100) F dX12_odds_100 rfl (by decide) ?_
                refine mh_lload10 (pc := 102) F dX12_odds_102 ?_
                refine mh_lstore8 (pc := 104) F dX12_odds_104 rfl (by decide) ?_
                refine mh_lload12 (pc := 106) F dX12_odds_106 ?_
                refine mh_lstore10 (pc := 108) F dX12_odds_108 rfl (by decide) ?_
                refine mh_goto (pc := 110) (tgt := 88) F dX12_odds_110 rfl ?_
                refine mh_drop12 ?_
                exact ihL88 _ (by omega) y (x.tmod y) (by omega) (by omega) (by rw [hs.1]; exact hg) (by omega) rfl
            exact L88 _ a c (by omega) (by omega) rfl (by omega) rfl
          · refine mh_lload4 (pc := 56) F dX12_odds_56 ?_
            refine mh_bipush (pc := 58) F dX12_odds_58 rfl ?_
            refine mh_iload1 (pc := 60) F dX12_odds_60 ?_
            refine mh_isub (pc := 61) F dX12_odds_61 ?_
            refine mh_i2l (pc := 62) F dX12_odds_62 (by omega) ?_
            refine mh_lmul (pc := 63) F dX12_odds_63 ?_
            refine mh_lstore4 (pc := 64) F dX12_odds_64 rfl (by decide) ?_
            refine mh_lload6 (pc := 66) F dX12_odds_66 ?_
            refine mh_ldc2 (x := 16) (pc := 68) F dX12_odds_68 tw_7_99 ?_
            refine mh_lmul (pc := 71) F dX12_odds_71 ?_
            refine mh_lstore6 (pc := 72) F dX12_odds_72 rfl (by decide) ?_
            refine mh_iinc8 (pc := 74) F dX12_odds_74 rfl (by decide) ?_
            refine mh_goto (pc := 77) (tgt := 50) F dX12_odds_77 rfl ?_
            exact ihL50 _ (by omega) (a * (16 - p)) (c * 16) (k + 1) (by omega) (by rw [sp_pw_at _ hk.1, ha]) (by rw [sp_pw_at _ hk.1, hc]) rfl
        exact L50 _ 1 1 0 (by omega) rfl rfl rfl
      · refine mh_aload0 (pc := 34) F dX12_odds_34 ?_
        refine mh_iconst (pc := 35) F dX12_odds_35 ?_
        refine mh_callV0 (pc := 36) (As := [.int (Int32.ofInt (1))]) (st := []) F (by omega) (k_error (by omega) hF r85 (by omega)) wv_RX12_114_yX12_error dX12_odds_36 sh_81 rfl (by decide) rfl rfl (Nat.le_of_ble_eq_true rfl) ⟨Nat.zero_le _, Nat.zero_le _⟩ (fun r5 h5 q5 => ?_)
        obtain ⟨rfl, F5, fr5, q5_0⟩ := q5
        have fr6 : mh_fr [85] h h5 := (mh_fr.tr mh_fr.rf fr5).mono (by simp)
        refine mh_i2l (pc := 39) F dX12_odds_39 (by omega) ?_
        exact mh_lreturn F Z dX12_odds_40 ⟨_, _, (by unfold sp_odds; (repeat' split) <;> first | (exfalso; omega) | rfl | (rw [← hxg, ha, show n = k by omega]; done) | (rw [← hxg, hc, show n = k by omega]; done)), rfl, F5, (fr6.mono (by simp)), q5_0⟩

