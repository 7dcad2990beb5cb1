/-! what would be: churns that are tried -/
def sc_ps (s c : Int → Int) (q : Int) : Nat → Int → Int
  | 0 => c
  | n + 1 => sc_pass s (sc_ps s c q n) (q + (n : Int))
theorem sc_ps_at (s c : Int → Int) (q : Int) {n : Int} (h : 0 ≤ n) : sc_ps s c q (n + 1).toNat = sc_pass s (sc_ps s c q n.toNat) (q + n) := by
  rw [show (n + 1).toNat = n.toNat + 1 by omega]
  show sc_pass s _ (q + (n.toNat : Int)) = _
  rw [Int.toNat_of_nonneg h]
theorem sc_pass_ok {s c : Int → Int} {q : Int} (h : sc_ok c) (h8 : sc_i8 c) : sc_ok (sc_pass s c q) ∧ sc_i8 (sc_pass s c q) := by
  have g7 : 0 ≤ sc_q7 s c q ∧ sc_q7 s c q ≤ 9999 := sp_held_rg (by decide)
  have g8 : 0 ≤ sc_q8 s c ∧ sc_q8 s c ≤ 9999 := sp_held_rg (by decide)
  obtain ⟨c1, c2, c3, c4, c5, c6, c7, c8, c9⟩ := id h
  unfold sc_pass
  split
  · exact ⟨h, h8⟩
  · split
    · unfold sc_ok sc_i8 at *
      rw [mh_ur_eq rfl, mh_ur_ne (by decide), mh_ur_ne (by decide), mh_ur_ne (by decide), mh_ur_ne (by decide), mh_ur_ne (by decide), mh_ur_ne (by decide), mh_ur_ne (by decide), mh_ur_ne (by decide)]
      exact ⟨⟨c1, c2, c3, c4, c5, c6, g7, c8, c9⟩, h8⟩
    · split
      · have e : ∀ i, i ≠ 5 → i ≠ 7 → i ≠ 8 → mh_ur (mh_ur (mh_ur c 7 (sc_q7 s c q)) 8 (sc_q8 s c)) 5 (c 5 - 1) i = c i := fun i a b d => by rw [mh_ur_ne a, mh_ur_ne d, mh_ur_ne b]
        unfold sc_ok sc_i8 at *
        rw [e 1 (by decide) (by decide) (by decide), e 2 (by decide) (by decide) (by decide), e 3 (by decide) (by decide) (by decide), e 4 (by decide) (by decide) (by decide), e 6 (by decide) (by decide) (by decide), e 9 (by decide) (by decide) (by decide), mh_ur_eq rfl, mh_ur_ne (i := 5) (j := 7) (by decide), mh_ur_ne (i := 8) (j := 7) (by decide), mh_ur_eq rfl, mh_ur_ne (i := 5) (j := 8) (by decide), mh_ur_eq rfl]
        exact ⟨⟨c1, c2, c3, c4, by omega, c6, g7, g8, c9⟩, h8⟩
      · have h38 := h8 (by omega)
        unfold sc_ok sc_i8
        refine ⟨⟨c1, c2, ?_, ?_, ?_, ?_, g7, g8, c9⟩, ?_⟩
        · show 0 ≤ c 3 + 1 ∧ c 3 + 1 ≤ 9; omega
        · show 0 ≤ (if 9 ≤ c 3 + 1 then (3 : Int) else 0) ∧ (if 9 ≤ c 3 + 1 then (3 : Int) else 0) ≤ 3; split <;> omega
        · show 0 ≤ (0 : Int) ∧ (0 : Int) ≤ 9; decide
        · show -1 ≤ (-1 : Int) ∧ (-1 : Int) ≤ 3; decide
        · show (if 9 ≤ c 3 + 1 then (3 : Int) else 0) ≤ 2 → c 3 + 1 ≤ 8; split <;> omega
theorem sc_pass_s {s t c : Int → Int} {q : Int} (h3 : sc_ok c) (h8 : sc_i8 c) (e : ∀ i, (6 ≤ i ∧ i < 41) ∨ 95 ≤ i → t i = s i) : sc_pass t c q = sc_pass s c q := by
  unfold sc_pass
  by_cases b1 : c 9 = 1 ∨ c 4 = 3 ∨ c 4 = 1
  · rw [if_pos b1, if_pos b1]
  · have hq := h3.2.2.1
    have h4 := h3.2.2.2.1
    have h38 := h8 (by omega)
    have w : sp_warm t (c 3) q = sp_warm s (c 3) q := by
      unfold sp_warm
      rw [e _ (by omega)]
      exact sp_law_same (fun i hi => e i (by omega)) 0 _ _ _
    have e7 : sc_q7 t c q = sc_q7 s c q := by unfold sc_q7; rw [w]
    have e8 : sc_q8 t c = sc_q8 s c := by
      unfold sc_q8 sc_sh
      by_cases z : 0 ≤ c 6 ∧ c 6 ≤ 3
      · rw [if_pos z, if_pos z, e _ (by omega)]
      · rw [if_neg z, if_neg z]
    rw [e7, e8]
theorem sp_gos_row (s : Int → Int) (k : Int) (n : Nat) (hn : (n : Int) ≤ k) (i : Int) (hi : 41 + 9 * k ≤ i ∧ i < 41 + 9 * k + 9) : sp_gos s n i = s i := by
  induction n with
  | zero => rfl
  | succ n ih => show sp_go _ _ i = _; rw [sp_go_out _ _ _ (by omega) (by omega)]; exact ih (by omega)
theorem sp_gos_row2 (s : Int → Int) (k : Int) (m n : Nat) (hm : 0 ≤ k ∧ k < (m : Int)) (i : Int) (hi : 41 + 9 * k ≤ i ∧ i < 41 + 9 * k + 9) : sp_gos s (m + n) i = sp_gos s m i := by
  induction n with
  | zero => rfl
  | succ n ih => show sp_go (sp_gos s (m + n)) ((m + n : Nat) : Int) i = _; rw [sp_go_out _ _ _ (by omega) (by omega)]; exact ih
/-- a quarter of all, seen at one churn -/
theorem sc_pass_aq {s c : Int → Int} {k j : Int} (hi : sp_inv s) (hk : 0 ≤ k ∧ k < s 3) (hc : sc_is c (sp_row s k) j) : sc_is (sc_pass s c (s 0)) (sp_row (sp_aq s) k) j := by
  have hm := hi.1
  have hcr := hi.2.2.2.2.1 k hk.1 (by omega)
  have t1 := sp_gos_inv hi k.toNat (by omega)
  have t0 : ∀ i, (i ≠ 1 ∧ (i < 41 ∨ 95 ≤ i)) → sp_gos s k.toNat i = s i := fun i hi2 => sp_gos_out s k.toNat (by omega) i hi2.1 hi2.2
  have tr : sp_row (sp_gos s k.toNat) k = sp_row s k ∨ True := Or.inr trivial
  have hc2 : sc_is c (sp_row (sp_gos s k.toNat) k) j := by
    have hb := hc
    unfold sc_is sp_row at hb ⊢
    rw [sp_gos_row s k k.toNat (by omega) _ (by omega), sp_gos_row s k k.toNat (by omega) _ (by omega), sp_gos_row s k k.toNat (by omega) _ (by omega), sp_gos_row s k k.toNat (by omega) _ (by omega), sp_gos_row s k k.toNat (by omega) _ (by omega), sp_gos_row s k k.toNat (by omega) _ (by omega), sp_gos_row s k k.toNat (by omega) _ (by omega), sp_gos_row s k k.toNat (by omega) _ (by omega), sp_gos_row s k k.toNat (by omega) _ (by omega)]
    exact hb
  have g := (sc_pass_go ⟨hk.1, by omega⟩ t1 hc2).1
  rw [t0 0 (by decide), sc_pass_s (hc.ok hcr) (hc.i8 hcr) (fun i hi2 => t0 i (by omega))] at g
  have e : ∀ i, 41 + 9 * k ≤ i → i < 41 + 9 * k + 9 → sp_aq s i = sp_go (sp_gos s k.toNat) k i := fun i i0 i1 => by
    unfold sp_aq
    rw [mh_ur_ne (by omega), show (s 3).toNat = (k.toNat + 1) + ((s 3).toNat - (k.toNat + 1)) by omega, sp_gos_row2 s k (k.toNat + 1) _ (by omega) i ⟨i0, i1⟩]
    show sp_go _ ((k.toNat : Nat) : Int) i = _
    rw [Int.toNat_of_nonneg hk.1]
  unfold sc_is sp_row at g ⊢
  rw [e _ (by omega) (by omega), e _ (by omega) (by omega), e _ (by omega) (by omega), e _ (by omega) (by omega), e _ (by omega) (by omega), e _ (by omega) (by omega), e _ (by omega) (by omega), e _ (by omega) (by omega), e _ (by omega) (by omega)]
  exact g
theorem sc_ps_aqs {s c : Int → Int} {k j : Int} (hi : sp_inv s) (hk : 0 ≤ k ∧ k < s 3) (hc : sc_is c (sp_row s k) j) (n : Nat) (hn : s 0 + n ≤ 20000) : sc_is (sc_ps s c (s 0) n) (sp_row (sp_aqs s n) k) j ∧ sc_ok (sc_ps s c (s 0) n) ∧ sc_i8 (sc_ps s c (s 0) n) := by
  have hm := hi.1
  have hcr := hi.2.2.2.2.1 k hk.1 (by omega)
  induction n with
  | zero => exact ⟨hc, hc.ok hcr, hc.i8 hcr⟩
  | succ n ih =>
    obtain ⟨i1, i2, i3⟩ := ih (by omega)
    obtain ⟨zi, z0, z3⟩ := sp_aqs_all hi n (by omega)
    have g := sc_pass_aq zi (by rw [z3]; exact hk) i1
    rw [z0] at g
    have e := sc_pass_s (s := s) (t := sp_aqs s n) (c := sc_ps s c (s 0) n) (q := s 0 + n) i2 i3 (fun i hi2 => sp_aqs_wt s hm n i (by omega) (by omega) (by omega))
    rw [e] at g
    exact ⟨g, sc_pass_ok i2 i3⟩
theorem sc_is_cp {c b r : Int → Int} {j i : Int} (h : sc_is b r j) (hc : c 0 = i) : sc_is (sc_cp c b) r i := by
  obtain ⟨a0, a1, a2, a3, a4, a5, a6, a7, a8, a9⟩ := h
  exact ⟨hc, a1, a2, a3, a4, a5, a6, a7, a8, a9⟩
theorem sc_KN.fr {h h2 : Nat → Int → Int} (H : sc_KN h) (e : ∀ a, a ≤ 8 → h2 a = h a) : sc_KN h2 := fun k k0 k1 => by rw [e _ (by omega)]; exact H k k0 k1
set_option maxRecDepth 100000 in
set_option maxHeartbeats 2000000 in
theorem q_then {g : mh_G} {d : Nat} (hd : 16 ≤ d) {h : Nat → Int → Int} (hF : mh_FX h) {s er : Int → Int} {n k w : Int} (hn : -2147483648 ≤ n ∧ n < 2147483648) (hk : -2147483648 ≤ k ∧ k < 2147483648) (hw : -2147483648 ≤ w ∧ w < 2147483648) (hq9 : s 0 ≤ 9999) (hi : sp_inv s) (hV : sc_V h s) (hE : sc_E h er) (hKN : sc_KN h) : mh_M g d yX11_then cX11_then 6 (some .int) 96 0 0 [.ref 0, .int (Int32.ofInt (n)), .int (Int32.ofInt (k)), .int (Int32.ofInt (w))] h (fun r h2 => ∃ (vv : Int) (tt ee : Int → Int), (vv, tt, ee) = sp_thenP n k w s er ∧ r = some (.int (Int32.ofInt vv)) ∧ mh_FX h2 ∧ mh_fr [36, 75, 24] h h2 ∧ sc_V h2 tt ∧ sc_E h2 ee) := by
  refine mh_M_of RX11 rfl (by decide +kernel) [some (.ref 0), some (.int (Int32.ofInt (n))), some (.int (Int32.ofInt (k))), some (.int (Int32.ofInt (w))), none, none] rfl (Nat.le_of_ble_eq_true rfl) (fun f F Z hn0 hR => ?_)
  have hm := hi.1
  have hq0 := hi.2.1
  have hs1 := hi.2.2.1
  have hh := hi.2.2.2.1
  obtain ⟨n6, n7, n8, n10, n14, n15⟩ := hV.2.2
  refine mh_iload1 (pc := 0) F dX11_then_0 ?_
  refine mh_iconst (pc := 1) F dX11_then_1 ?_
  refine mh_sipush (pc := 2) F dX11_then_2 rfl ?_
  refine mh_callSp (pc := 5) (As := [.int (Int32.ofInt (n)), .int (Int32.ofInt (0)), .int (Int32.ofInt (300))]) (st := []) F (by omega) (k4_within (by omega) (by omega) (by omega) (by omega)) ws_RX11_82 dX11_then_5 rfl rfl (Nat.le_of_ble_eq_true rfl) ⟨Nat.zero_le _, Nat.zero_le _⟩ ?_
  refine mh_ifb_eq (pc := 8) (tgt := 29) F dX11_then_8 rfl (fun c_8 => ?_) (fun c_8 => ?_)
  · refine mh_aload0 (pc := 29) F dX11_then_29 ?_
    refine mh_iconst (pc := 30) F dX11_then_30 ?_
    refine mh_callV0 (pc := 31) (As := [.int (Int32.ofInt (1))]) (st := []) F (by omega) (k8_refuse (by omega) hF rfl (by decide)) wv_RX11_90_yX11_refuse dX11_then_31 sh_0 rfl (by decide) rfl rfl (Nat.le_of_ble_eq_true rfl) ⟨Nat.zero_le _, Nat.zero_le _⟩ (fun r1 h1 q1 => ?_)
    obtain ⟨rfl, F1, fr1, q1_0⟩ := q1
    have fr2 : mh_fr [24] h h1 := (mh_fr.tr mh_fr.rf fr1).mono (by simp)
    have hVr : sc_V h1 s := sc_V_fr hV (fun a a1 a2 a3 a4 => fr1 a (by simp; omega))
    have hEr : sc_E h1 (mh_ur er 1 (er 1 + 1)) := hE.up (by decide) q1_0
    exact mh_ireturn F Z dX11_then_34 ⟨_, _, _, (by unfold sp_thenP; (repeat' split) <;> first | rfl | (exfalso; omega)), rfl, F1, (fr2.mono (by simp)), hVr, hEr⟩
  · refine mh_aload0 (pc := 11) F dX11_then_11 ?_
    refine mh_iload2 (pc := 12) F dX11_then_12 ?_
    refine mh_callVp (pc := 13) (As := [.int (Int32.ofInt (k))]) (st := []) F (by omega) (k8_isChurn (by omega) hF (by omega) hV.2.2 (by omega)) wv_RX11_139_yX11_isChurn dX11_then_13 sh_0 rfl (by decide) rfl rfl (Nat.le_of_ble_eq_true rfl) ⟨Nat.zero_le _, Nat.zero_le _⟩ ?_
    refine mh_ifb_eq (pc := 16) (tgt := 29) F dX11_then_16 rfl (fun c_16 => ?_) (fun c_16 => ?_)
    · refine mh_aload0 (pc := 29) F dX11_then_29 ?_
      refine mh_iconst (pc := 30) F dX11_then_30 ?_
      refine mh_callV0 (pc := 31) (As := [.int (Int32.ofInt (1))]) (st := []) F (by omega) (k8_refuse (by omega) hF rfl (by decide)) wv_RX11_90_yX11_refuse dX11_then_31 sh_0 rfl (by decide) rfl rfl (Nat.le_of_ble_eq_true rfl) ⟨Nat.zero_le _, Nat.zero_le _⟩ (fun r3 h3 q3 => ?_)
      obtain ⟨rfl, F3, fr3, q3_0⟩ := q3
      have fr4 : mh_fr [24] h h3 := (mh_fr.tr mh_fr.rf fr3).mono (by simp)
      have hVr : sc_V h3 s := sc_V_fr hV (fun a a1 a2 a3 a4 => fr3 a (by simp; omega))
      have hEr : sc_E h3 (mh_ur er 1 (er 1 + 1)) := hE.up (by decide) q3_0
      exact mh_ireturn F Z dX11_then_34 ⟨_, _, _, (by unfold sp_thenP; (repeat' split) <;> first | rfl | (exfalso; omega)), rfl, F3, (fr4.mono (by simp)), hVr, hEr⟩
    · refine mh_iload3 (pc := 19) F dX11_then_19 ?_
      refine mh_iconst (pc := 20) F dX11_then_20 ?_
      refine mh_bipush (pc := 21) F dX11_then_21 rfl ?_
      refine mh_callSp (pc := 23) (As := [.int (Int32.ofInt (w)), .int (Int32.ofInt (2)), .int (Int32.ofInt (7))]) (st := []) F (by omega) (k4_within (by omega) (by omega) (by omega) (by omega)) ws_RX11_82 dX11_then_23 rfl rfl (Nat.le_of_ble_eq_true rfl) ⟨Nat.zero_le _, Nat.zero_le _⟩ ?_
      refine mh_ifb_ne (pc := 26) (tgt := 35) F dX11_then_26 rfl (fun c_26 => ?_) (fun c_26 => ?_)
      · have hkk : 0 ≤ k ∧ k < 6 := by omega
        have zAk := sc_Aj hkk
        have hcs : sc_is (h (44 + k.toNat)) (sp_row s k) k := hV.2.1 k hkk.1 hkk.2
        have hcr := hi.2.2.2.2.1 k hkk.1 hkk.2
        have hco := hcs.ok hcr
        obtain ⟨d0, d1, d2, d3, d4, d5, d6, d7, d8, d9⟩ := id hcs
        unfold sp_row at d1 d2 d3 d4 d5 d6 d7 d8 d9
        obtain ⟨c0, c1, c2, c3, c4, c5, c6, c7, c8, c9, c10, c11, c12, c13⟩ := id hcr
        unfold sp_row at c0 c1 c2 c3 c4 c5 c6 c7 c8 c9 c10 c11 c12 c13
        have hcA := zAk.rg
        have zA75 : sc_A 75 := Or.inr (Or.inr (by decide))
        refine mh_aload0 (pc := 35) F dX11_then_35 ?_
        refine mh_getr (b := 9) (pc := 36) F sh_0 (by decide) fw_RX11_38_11 dX11_then_36 rfl (fx_0_4 hF) ?_
        refine mh_iconst (pc := 39) F dX11_then_39 ?_
        refine mh_aaload (b := 75) (pc := 40) F sh_9 (by decide) (by decide) (by omega) dX11_then_40 (fx_9_0 hF) ?_
        refine mh_astore4 (pc := 41) F dX11_then_41 rfl (by decide) ?_
        refine mh_aload4 (pc := 43) F dX11_then_43 ?_
        refine mh_aload0 (pc := 45) F dX11_then_45 ?_
        refine mh_getr (b := 25) (pc := 46) F sh_0 (by decide) fw_RX11_72_11 dX11_then_46 rfl (fx_0_0 hF) ?_
        refine mh_getr (b := 31) (pc := 49) F sh_25 (by decide) fw_RX11_126_10 dX11_then_49 rfl (fx_25_5 hF) ?_
        refine mh_iload2 (pc := 52) F dX11_then_52 ?_
        refine mh_aaload (b := 44 + (k).toNat) (pc := 53) F sh_31 (by decide) (by decide) (by omega) dX11_then_53 (fx_31 hF (by omega)) ?_
        refine mh_callV0 (pc := 54) (As := [.ref (44 + (k).toNat)]) (st := []) F (by omega) (k0_copy (by omega) hF rfl rfl zA75 zAk (by omega) hco) wv_RX11_216_yX0_copy dX11_then_54 sh_75 rfl (by decide) rfl rfl (Nat.le_of_ble_eq_true rfl) ⟨Nat.zero_le _, Nat.zero_le _⟩ (fun r5 h5 q5 => ?_)
        obtain ⟨rfl, F5, fr5, q5_0⟩ := q5
        have fr6 : mh_fr [75] h h5 := (mh_fr.tr mh_fr.rf fr5).mono (by simp)
        obtain ⟨c0, ec0⟩ : ∃ z : Int → Int, z = sc_cp (h 75) (h (44 + (k).toNat)) := ⟨_, rfl⟩
        rw [← ec0] at q5_0
        have hc0 : sc_is c0 (sp_row s k) (h 75 0) := by rw [ec0]; exact sc_is_cp hcs rfl
        refine mh_iconst (pc := 57) F dX11_then_57 ?_
        refine mh_istore5 (pc := 58) F dX11_then_58 rfl (by decide) ?_
        have L60 : ∀ (m : Nat) (x : Int) (hg : Nat → Int → Int) (t : Int → Int), (mh_FX hg) → (mh_fr [36, 75] h hg) → (hg 75 = t) → (0 ≤ x ∧ x ≤ n) → (t = sc_ps s c0 (s 0) x.toNat) → (n - x).toNat = m → mh_V g f 6 96 0 0 60 [some (.ref 0), some (.int (Int32.ofInt (n))), some (.int (Int32.ofInt (k))), some (.int (Int32.ofInt (w))), some (.ref 75), some (.int (Int32.ofInt (x)))] [] hg := by
          intro m
          induction m using Nat.strongRecOn with
          | _ m ihL60 =>
          intro x hg t Fhg frhg q75hg hx ht hmz
          refine mh_iload5 (pc := 60) F dX11_then_60 ?_
          refine mh_iload1 (pc := 62) F dX11_then_62 ?_
          obtain ⟨hisT, hokT, h8T⟩ := sc_ps_aqs hi (show 0 ≤ k ∧ k < s 3 by omega) hc0 x.toNat (by omega)
          rw [← ht] at hisT hokT h8T
          refine mh_icmp_ge (pc := 63) (tgt := 92) F dX11_then_63 rfl (by omega) (by omega) (fun c_63 => ?_) (fun c_63 => ?_)
          · refine mh_aload4 (pc := 92) F dX11_then_92 ?_
            refine mh_iload3 (pc := 94) F dX11_then_94 ?_
            refine mh_callVp (pc := 95) (As := [.int (Int32.ofInt (w))]) (st := []) F (by omega) (k0_answer (by omega) Fhg q75hg zA75 hokT (by omega) (sc_KN.fr hKN (fun a a1 => frhg a (by simp; omega)))) wv_RX11_142_yX0_answer dX11_then_95 sh_75 rfl (by decide) rfl rfl (Nat.le_of_ble_eq_true rfl) ⟨Nat.zero_le _, Nat.zero_le _⟩ ?_
            refine mh_top (y := sp_told (sp_aqs s n.toNat) k w) (mh_eqI (by rw [hisT.an ((sp_aqs_all hi x.toNat (by omega)).1.2.2.2.2.1 k hkk.1 hkk.2) (by omega), show n = x by omega])) ?_
            exact mh_ireturn F Z dX11_then_98 ⟨_, _, _, (by unfold sp_thenP; (repeat' split) <;> first | rfl | (exfalso; omega)), rfl, Fhg, (frhg.mono (by simp)), (sc_V_fr hV (fun a a1 a2 a3 a4 => frhg a (by simp; omega))), (hE.of (frhg 24 (by simp)))⟩
          · refine mh_aload0 (pc := 66) F dX11_then_66 ?_
            refine mh_getr (b := 25) (pc := 67) F sh_0 (by decide) fw_RX11_72_11 dX11_then_67 rfl (fx_0_0 Fhg) ?_
            refine mh_aload4 (pc := 70) F dX11_then_70 ?_
            refine mh_aload0 (pc := 72) F dX11_then_72 ?_
            refine mh_getr (b := 25) (pc := 73) F sh_0 (by decide) fw_RX11_72_11 dX11_then_73 rfl (fx_0_0 Fhg) ?_
            refine mh_geti (pc := 76) F sh_25 (by decide) fw_RX11_105_10 dX11_then_76 rfl ?_
            refine mh_iload5 (pc := 79) F dX11_then_79 ?_
            refine mh_iadd (pc := 81) F dX11_then_81 ?_
            refine mh_top (y := s 0 + x) (mh_eqI (by rw [frhg 25 (by simp), n7])) ?_
            refine mh_callV0 (pc := 82) (As := [.ref 75, .int (Int32.ofInt (s 0 + x))]) (st := []) F (by omega) (k5_pass (by omega) Fhg q75hg rfl zA75 hokT (hV.1.of (fun x hx => frhg x (by simp; omega))) hh (by omega) h8T) wv_RX11_220_yX10_pass dX11_then_82 sh_25 rfl (by decide) rfl rfl (Nat.le_of_ble_eq_true rfl) ⟨Nat.zero_le _, Nat.zero_le _⟩ (fun r7 h7 q7 => ?_)
            obtain ⟨rfl, F7, frp7, qA7⟩ := q7
            have fr8 : mh_fr [36, 75] h h7 := (mh_fr.tr frhg frp7).mono (by simp)
            refine mh_pop (pc := 85) F dX11_then_85 rfl ?_
            refine mh_iinc5 (pc := 86) F dX11_then_86 rfl (by decide) ?_
            refine mh_goto (pc := 89) (tgt := 60) F dX11_then_89 rfl ?_
            exact ihL60 _ (by omega) (x + 1) h7 (sc_pass s t (s 0 + x)) F7 (fr8.mono (by simp)) qA7 (by omega) (by rw [sc_ps_at s c0 (s 0) hx.1, ← ht]) rfl
        exact L60 _ 0 h5 c0 F5 (fr6.mono (by simp)) q5_0 (by omega) rfl rfl
      · refine mh_aload0 (pc := 29) F dX11_then_29 ?_
        refine mh_iconst (pc := 30) F dX11_then_30 ?_
        refine mh_callV0 (pc := 31) (As := [.int (Int32.ofInt (1))]) (st := []) F (by omega) (k8_refuse (by omega) hF rfl (by decide)) wv_RX11_90_yX11_refuse dX11_then_31 sh_0 rfl (by decide) rfl rfl (Nat.le_of_ble_eq_true rfl) ⟨Nat.zero_le _, Nat.zero_le _⟩ (fun r9 h9 q9 => ?_)
        obtain ⟨rfl, F9, fr9, q9_0⟩ := q9
        have fr10 : mh_fr [24] h h9 := (mh_fr.tr mh_fr.rf fr9).mono (by simp)
        have hVr : sc_V h9 s := sc_V_fr hV (fun a a1 a2 a3 a4 => fr9 a (by simp; omega))
        have hEr : sc_E h9 (mh_ur er 1 (er 1 + 1)) := hE.up (by decide) q9_0
        exact mh_ireturn F Z dX11_then_34 ⟨_, _, _, (by unfold sp_thenP; (repeat' split) <;> first | rfl | (exfalso; omega)), rfl, F9, (fr10.mono (by simp)), hVr, hEr⟩

