/-! straight on, by one carrier: fields 17 isAt, 18 quarterThen, 19 sourThen, 20 shakenThen of the model -/
def sp_ook (o : Int → Int) : Prop := (0 ≤ o 17 ∧ o 17 ≤ 9) ∧ (0 ≤ o 18) ∧ (0 ≤ o 19 ∧ o 19 ≤ 9999) ∧ (0 ≤ o 20 ∧ o 20 ≤ 9999)
def sp_bg (o : Int → Int) (a q x y : Int) : Int → Int := mh_ur (mh_ur (mh_ur (mh_ur o 17 a) 18 q) 19 x) 20 y
def sp_str (s o : Int → Int) (k c : Int) : Int → Int := mh_ur (mh_ur (mh_ur o 19 (sp_held (o 19 + sp_warms (s (41 + 9 * k + 0)) (s (41 + 9 * k + 1)) (sp_warm s (o 17) (o 18))) 0 9999)) 20 (sp_held (o 20 + sp_jolts (s (41 + 9 * k + 0)) (s (41 + 9 * k + 1)) (s (33 + 2 * c + 1))) 0 9999)) 18 (o 18 + 1)
def sp_strs (s o : Int → Int) (k c : Int) : Nat → Int → Int
  | 0 => o
  | n + 1 => sp_str s (sp_strs s o k c n) k c
theorem sp_strs_at (s o : Int → Int) (k c : Int) {n : Int} (h : 0 ≤ n) : sp_strs s o k c (n + 1).toNat = sp_str s (sp_strs s o k c n.toNat) k c := by
  rw [show (n + 1).toNat = n.toNat + 1 by omega]; rfl
def sp_on (s o : Int → Int) (k c : Int) : Int → Int := mh_ur (sp_strs s o k c (s (33 + 2 * c)).toNat) 17 (sp_strs s o k c (s (33 + 2 * c)).toNat 17 + 1)
theorem sp_str_ok {s o : Int → Int} {k c : Int} (h : sp_ook o) : sp_ook (sp_str s o k c) ∧ sp_str s o k c 17 = o 17 ∧ sp_str s o k c 18 = o 18 + 1 := by
  have e17 : sp_str s o k c 17 = o 17 := by unfold sp_str; rw [mh_ur_ne (by decide), mh_ur_ne (by decide), mh_ur_ne (by decide)]
  have e18 : sp_str s o k c 18 = o 18 + 1 := by unfold sp_str; rw [mh_ur_eq rfl]
  have e19 : sp_str s o k c 19 = sp_held (o 19 + sp_warms (s (41 + 9 * k + 0)) (s (41 + 9 * k + 1)) (sp_warm s (o 17) (o 18))) 0 9999 := by unfold sp_str; rw [mh_ur_ne (by decide), mh_ur_ne (by decide), mh_ur_eq rfl]
  have e20 : sp_str s o k c 20 = sp_held (o 20 + sp_jolts (s (41 + 9 * k + 0)) (s (41 + 9 * k + 1)) (s (33 + 2 * c + 1))) 0 9999 := by unfold sp_str; rw [mh_ur_ne (by decide), mh_ur_eq rfl]
  refine ⟨⟨by rw [e17]; exact h.1, by rw [e18]; have := h.2.1; omega, by rw [e19]; exact sp_held_rg (by decide), by rw [e20]; exact sp_held_rg (by decide)⟩, e17, e18⟩
theorem sp_strs_ok {s o : Int → Int} {k c : Int} (h : sp_ook o) (n : Nat) : sp_ook (sp_strs s o k c n) ∧ sp_strs s o k c n 17 = o 17 ∧ sp_strs s o k c n 18 = o 18 + n := by
  induction n with
  | zero => exact ⟨h, rfl, by simp [sp_strs]⟩
  | succ n ih =>
    obtain ⟨a1, a2, a3⟩ := sp_str_ok (s := s) (k := k) (c := c) ih.1
    exact ⟨a1, a2.trans ih.2.1, a3.trans (by rw [ih.2.2]; omega)⟩
theorem sp_on_ok {s o : Int → Int} {k c : Int} (h : sp_ook o) (h17 : o 17 ≤ 8) (hp : 0 ≤ s (33 + 2 * c)) : sp_ook (sp_on s o k c) ∧ sp_on s o k c 17 = o 17 + 1 ∧ sp_on s o k c 18 = o 18 + s (33 + 2 * c) := by
  obtain ⟨a1, a2, a3⟩ := sp_strs_ok (s := s) (k := k) (c := c) h (s (33 + 2 * c)).toNat
  have h0 := h.1
  have e : ∀ j, j ≠ 17 → sp_on s o k c j = sp_strs s o k c (s (33 + 2 * c)).toNat j := fun j hj => mh_ur_ne hj
  have e17 : sp_on s o k c 17 = o 17 + 1 := by unfold sp_on; rw [mh_ur_eq rfl, a2]
  refine ⟨⟨by rw [e17]; omega, by rw [e 18 (by decide)]; exact a1.2.1, by rw [e 19 (by decide)]; exact a1.2.2.1, by rw [e 20 (by decide)]; exact a1.2.2.2⟩, e17, by rw [e 18 (by decide), a3]; omega⟩
set_option maxRecDepth 100000 in
set_option maxHeartbeats 4000000 in
theorem k_begins0 {g : mh_G} {d : Nat} (hd : 2 ≤ d) {h : Nat → Int → Int} (hF : mh_FX h) {s : Int → Int} (r82 : h 82 = s) {o : Int → Int} (r81 : h 81 = o) {k a q : Int} (hk : 0 ≤ k ∧ k < 6) : mh_M g d yX12_begins cX12_begins 5 none 96 0 0 [.ref 81, .int (Int32.ofInt (k)), .int (Int32.ofInt (a)), .int (Int32.ofInt (q)), .int (Int32.ofInt (0))] h (fun r h2 => r = none ∧ mh_FX h2 ∧ mh_fr [81] h h2 ∧ h2 81 = sp_bg o a q (s (41 + 9 * k + 5)) (s (41 + 9 * k + 6))) := by
  refine mh_M_of RX12 rfl (by decide +kernel) [some (.ref 81), some (.int (Int32.ofInt (k))), some (.int (Int32.ofInt (a))), some (.int (Int32.ofInt (q))), some (.int (Int32.ofInt (0)))] rfl (Nat.le_of_ble_eq_true rfl) (fun f F Z hn0 hR => ?_)
  refine mh_aload0 (pc := 0) F dX12_begins_0 ?_
  refine mh_iload2 (pc := 1) F dX12_begins_1 ?_
  refine mh_puti (pc := 2) F sh_81 (by decide) pw_RX12_317_12 dX12_begins_2 ?_
  refine mh_nmh (fun h1 e1 => ?_)
  have F1 : mh_FX h1 := by rw [e1]; exact hF.upz rfl
  have r82_1 : h1 82 = s := by rw [e1, mh_up_row (by decide)]; exact r82
  have r81_1 : h1 81 = mh_ur o 17 a := by rw [e1, mh_up_rs, r81]
  have fr1 : mh_fr [81] h h1 := mh_fr.up mh_fr.rf e1
  refine mh_aload0 (pc := 5) F dX12_begins_5 ?_
  refine mh_iload3 (pc := 6) F dX12_begins_6 ?_
  refine mh_puti (pc := 7) F sh_81 (by decide) pw_RX12_320_12 dX12_begins_7 ?_
  refine mh_nmh (fun h2 e2 => ?_)
  have F2 : mh_FX h2 := by rw [e2]; exact F1.upz rfl
  have r82_2 : h2 82 = s := by rw [e2, mh_up_row (by decide)]; exact r82_1
  have r81_2 : h2 81 = mh_ur (mh_ur o 17 a) 18 q := by rw [e2, mh_up_rs, r81_1]
  have fr2 : mh_fr [81] h h2 := mh_fr.upi fr1 e2 (by simp)
  refine mh_aload0 (pc := 10) F dX12_begins_10 ?_
  refine mh_iload4 (pc := 11) F dX12_begins_11 ?_
  refine mh_if_eq (pc := 13) (tgt := 20) F dX12_begins_13 rfl (by omega) (fun c_13 => ?_) (fun c_13 => ?_)
  · refine mh_aload0 (pc := 20) F dX12_begins_20 ?_
    refine mh_iload1 (pc := 21) F dX12_begins_21 ?_
    refine mh_iconst (pc := 22) F dX12_begins_22 ?_
    refine mh_callVp (pc := 23) (As := [.int (Int32.ofInt (k)), .int (Int32.ofInt (5))]) (st := [.ref 81]) F (by omega) (k_its (by omega) F2 r82_2 (by omega) (by omega)) wv_RX12_79_yX12_its dX12_begins_23 sh_81 rfl (by decide) rfl rfl (Nat.le_of_ble_eq_true rfl) ⟨Nat.zero_le _, Nat.zero_le _⟩ ?_
    refine mh_puti (pc := 26) F sh_81 (by decide) pw_RX12_323_12 dX12_begins_26 ?_
    refine mh_nmh (fun h3 e3 => ?_)
    have F3 : mh_FX h3 := by rw [e3]; exact F2.upz rfl
    have r82_3 : h3 82 = s := by rw [e3, mh_up_row (by decide)]; exact r82_2
    have r81_3 : h3 81 = mh_ur (mh_ur (mh_ur o 17 a) 18 q) 19 (s (41 + 9 * k + 5)) := by rw [e3, mh_up_rs, r81_2]
    have fr3 : mh_fr [81] h h3 := mh_fr.upi fr2 e3 (by simp)
    refine mh_aload0 (pc := 29) F dX12_begins_29 ?_
    refine mh_iload4 (pc := 30) F dX12_begins_30 ?_
    refine mh_if_eq (pc := 32) (tgt := 39) F dX12_begins_32 rfl (by omega) (fun c_32 => ?_) (fun c_32 => ?_)
    · refine mh_aload0 (pc := 39) F dX12_begins_39 ?_
      refine mh_iload1 (pc := 40) F dX12_begins_40 ?_
      refine mh_bipush (pc := 41) F dX12_begins_41 rfl ?_
      refine mh_callVp (pc := 43) (As := [.int (Int32.ofInt (k)), .int (Int32.ofInt (6))]) (st := [.ref 81]) F (by omega) (k_its (by omega) F3 r82_3 (by omega) (by omega)) wv_RX12_79_yX12_its dX12_begins_43 sh_81 rfl (by decide) rfl rfl (Nat.le_of_ble_eq_true rfl) ⟨Nat.zero_le _, Nat.zero_le _⟩ ?_
      refine mh_puti (pc := 46) F sh_81 (by decide) pw_RX12_326_12 dX12_begins_46 ?_
      refine mh_nmh (fun h4 e4 => ?_)
      have F4 : mh_FX h4 := by rw [e4]; exact F3.upz rfl
      have r82_4 : h4 82 = s := by rw [e4, mh_up_row (by decide)]; exact r82_3
      have r81_4 : h4 81 = mh_ur (mh_ur (mh_ur (mh_ur o 17 a) 18 q) 19 (s (41 + 9 * k + 5))) 20 (s (41 + 9 * k + 6)) := by rw [e4, mh_up_rs, r81_3]
      have fr4 : mh_fr [81] h h4 := mh_fr.upi fr3 e4 (by simp)
      exact mh_return F Z dX12_begins_49 ⟨rfl, F4, (fr4.mono (by simp)), r81_4⟩
    · exact absurd c_32 (by decide)
  · exact absurd c_13 (by decide)

set_option maxRecDepth 100000 in
set_option maxHeartbeats 4000000 in
theorem k_begins1 {g : mh_G} {d : Nat} (hd : 2 ≤ d) {h : Nat → Int → Int} (hF : mh_FX h) {s : Int → Int} (r82 : h 82 = s) {o : Int → Int} (r81 : h 81 = o) {k a q : Int} (hk : 0 ≤ k ∧ k < 6) : mh_M g d yX12_begins cX12_begins 5 none 96 0 0 [.ref 81, .int (Int32.ofInt (k)), .int (Int32.ofInt (a)), .int (Int32.ofInt (q)), .int (Int32.ofInt (1))] h (fun r h2 => r = none ∧ mh_FX h2 ∧ mh_fr [81] h h2 ∧ h2 81 = sp_bg o a q 0 0) := by
  refine mh_M_of RX12 rfl (by decide +kernel) [some (.ref 81), some (.int (Int32.ofInt (k))), some (.int (Int32.ofInt (a))), some (.int (Int32.ofInt (q))), some (.int (Int32.ofInt (1)))] rfl (Nat.le_of_ble_eq_true rfl) (fun f F Z hn0 hR => ?_)
  refine mh_aload0 (pc := 0) F dX12_begins_0 ?_
  refine mh_iload2 (pc := 1) F dX12_begins_1 ?_
  refine mh_puti (pc := 2) F sh_81 (by decide) pw_RX12_317_12 dX12_begins_2 ?_
  refine mh_nmh (fun h1 e1 => ?_)
  have F1 : mh_FX h1 := by rw [e1]; exact hF.upz rfl
  have r82_1 : h1 82 = s := by rw [e1, mh_up_row (by decide)]; exact r82
  have r81_1 : h1 81 = mh_ur o 17 a := by rw [e1, mh_up_rs, r81]
  have fr1 : mh_fr [81] h h1 := mh_fr.up mh_fr.rf e1
  refine mh_aload0 (pc := 5) F dX12_begins_5 ?_
  refine mh_iload3 (pc := 6) F dX12_begins_6 ?_
  refine mh_puti (pc := 7) F sh_81 (by decide) pw_RX12_320_12 dX12_begins_7 ?_
  refine mh_nmh (fun h2 e2 => ?_)
  have F2 : mh_FX h2 := by rw [e2]; exact F1.upz rfl
  have r82_2 : h2 82 = s := by rw [e2, mh_up_row (by decide)]; exact r82_1
  have r81_2 : h2 81 = mh_ur (mh_ur o 17 a) 18 q := by rw [e2, mh_up_rs, r81_1]
  have fr2 : mh_fr [81] h h2 := mh_fr.upi fr1 e2 (by simp)
  refine mh_aload0 (pc := 10) F dX12_begins_10 ?_
  refine mh_iload4 (pc := 11) F dX12_begins_11 ?_
  refine mh_if_eq (pc := 13) (tgt := 20) F dX12_begins_13 rfl (by omega) (fun c_13 => ?_) (fun c_13 => ?_)
  · exact absurd c_13 (by decide)
  · refine mh_iconst (pc := 16) F dX12_begins_16 ?_
    refine mh_goto (pc := 17) (tgt := 26) F dX12_begins_17 rfl ?_
    refine mh_puti (pc := 26) F sh_81 (by decide) pw_RX12_323_12 dX12_begins_26 ?_
    refine mh_nmh (fun h3 e3 => ?_)
    have F3 : mh_FX h3 := by rw [e3]; exact F2.upz rfl
    have r82_3 : h3 82 = s := by rw [e3, mh_up_row (by decide)]; exact r82_2
    have r81_3 : h3 81 = mh_ur (mh_ur (mh_ur o 17 a) 18 q) 19 0 := by rw [e3, mh_up_rs, r81_2]
    have fr3 : mh_fr [81] h h3 := mh_fr.upi fr2 e3 (by simp)
    refine mh_aload0 (pc := 29) F dX12_begins_29 ?_
    refine mh_iload4 (pc := 30) F dX12_begins_30 ?_
    refine mh_if_eq (pc := 32) (tgt := 39) F dX12_begins_32 rfl (by omega) (fun c_32 => ?_) (fun c_32 => ?_)
    · exact absurd c_32 (by decide)
    · refine mh_iconst (pc := 35) F dX12_begins_35 ?_
      refine mh_goto (pc := 36) (tgt := 46) F dX12_begins_36 rfl ?_
      refine mh_puti (pc := 46) F sh_81 (by decide) pw_RX12_326_12 dX12_begins_46 ?_
      refine mh_nmh (fun h4 e4 => ?_)
      have F4 : mh_FX h4 := by rw [e4]; exact F3.upz rfl
      have r82_4 : h4 82 = s := by rw [e4, mh_up_row (by decide)]; exact r82_3
      have r81_4 : h4 81 = mh_ur (mh_ur (mh_ur (mh_ur o 17 a) 18 q) 19 0) 20 0 := by rw [e4, mh_up_rs, r81_3]
      have fr4 : mh_fr [81] h h4 := mh_fr.upi fr3 e4 (by simp)
      exact mh_return F Z dX12_begins_49 ⟨rfl, F4, (fr4.mono (by simp)), r81_4⟩

set_option maxRecDepth 100000 in
set_option maxHeartbeats 4000000 in
theorem k_straight {g : mh_G} {d : Nat} (hd : 7 ≤ d) {h : Nat → Int → Int} (hF : mh_FX h) {s : Int → Int} (r82 : h 82 = s) {o : Int → Int} (r81 : h 81 = o) {k c : Int} (hk : 0 ≤ k ∧ k < 6) (hi : sp_inv s) (hc : 0 ≤ c ∧ c < 4) (ho : sp_ook o) (h17 : o 17 ≤ 8) (h18 : o 18 ≤ 50000) : mh_M g d yX12_straight cX12_straight 5 none 96 0 0 [.ref 81, .int (Int32.ofInt (k)), .int (Int32.ofInt (c))] h (fun r h2 => r = none ∧ mh_FX h2 ∧ mh_fr [81, 86, 87] h h2 ∧ h2 81 = sp_str s o k c) := by
  refine mh_M_of RX12 rfl (by decide +kernel) [some (.ref 81), some (.int (Int32.ofInt (k))), some (.int (Int32.ofInt (c))), none, none] rfl (Nat.le_of_ble_eq_true rfl) (fun f F Z hn0 hR => ?_)
  have hcc := hi.2.2.2.2.1 k hk.1 hk.2
  have hws := hi.2.2.2.2.2
  obtain ⟨hH, hC⟩ := hi.2.2.2.1
  obtain ⟨c0, c1, c2, c3, c4, c5, c6, c7, c8, c9, c10, c11, c12, c13⟩ := hcc
  unfold sp_row at c0 c1 c2 c3 c4 c5 c6 c7 c8 c9 c10 c11 c12 c13
  obtain ⟨o17, o18, o19, o20⟩ := ho
  have hh := (hH (o 17) (by omega) (by omega)).1
  have hsh := (hC c hc.1 hc.2).2
  have hjl := sp_jolts_rg (k := s (41 + 9 * k + 0)) c1 hsh
  have hwm : 0 ≤ sp_warm s (o 17) (o 18) ∧ sp_warm s (o 17) (o 18) ≤ 40 := sp_law_rg0
  have hq5 := sp_warms_rg (k := s (41 + 9 * k + 0)) c1 hwm
  refine mh_aload0 (pc := 0) F dX12_straight_0 ?_
  refine mh_iload1 (pc := 1) F dX12_straight_1 ?_
  refine mh_iconst (pc := 2) F dX12_straight_2 ?_
  refine mh_callVp (pc := 3) (As := [.int (Int32.ofInt (k)), .int (Int32.ofInt (0))]) (st := []) F (by omega) (k_its (by omega) hF r82 (by omega) (by omega)) wv_RX12_79_yX12_its dX12_straight_3 sh_81 rfl (by decide) rfl rfl (Nat.le_of_ble_eq_true rfl) ⟨Nat.zero_le _, Nat.zero_le _⟩ ?_
  refine mh_istore3 (pc := 6) F dX12_straight_6 rfl (by decide) ?_
  refine mh_aload0 (pc := 7) F dX12_straight_7 ?_
  refine mh_iload1 (pc := 8) F dX12_straight_8 ?_
  refine mh_iconst (pc := 9) F dX12_straight_9 ?_
  refine mh_callVp (pc := 10) (As := [.int (Int32.ofInt (k)), .int (Int32.ofInt (1))]) (st := []) F (by omega) (k_its (by omega) hF r82 (by omega) (by omega)) wv_RX12_79_yX12_its dX12_straight_10 sh_81 rfl (by decide) rfl rfl (Nat.le_of_ble_eq_true rfl) ⟨Nat.zero_le _, Nat.zero_le _⟩ ?_
  refine mh_istore4 (pc := 13) F dX12_straight_13 rfl (by decide) ?_
  refine mh_aload0 (pc := 15) F dX12_straight_15 ?_
  refine mh_aload0 (pc := 16) F dX12_straight_16 ?_
  refine mh_getir (pc := 17) F sh_81 (by decide) fw_RX12_323_12 dX12_straight_17 rfl r81 ?_
  refine mh_iload3 (pc := 20) F dX12_straight_20 ?_
  refine mh_iload4 (pc := 21) F dX12_straight_21 ?_
  refine mh_aload0 (pc := 23) F dX12_straight_23 ?_
  refine mh_aload0 (pc := 24) F dX12_straight_24 ?_
  refine mh_getir (pc := 25) F sh_81 (by decide) fw_RX12_317_12 dX12_straight_25 rfl r81 ?_
  refine mh_aload0 (pc := 28) F dX12_straight_28 ?_
  refine mh_getir (pc := 29) F sh_81 (by decide) fw_RX12_320_12 dX12_straight_29 rfl r81 ?_
  refine mh_callV0 (pc := 32) (As := [.int (Int32.ofInt (o 17)), .int (Int32.ofInt (o 18))]) (st := [.int (Int32.ofInt (s (41 + 9 * k + 1))), .int (Int32.ofInt (s (41 + 9 * k + 0))), .int (Int32.ofInt (o 19)), .ref 81]) F (by omega) (k_warm (by omega) hF r82 (by omega) (by omega) (by omega) hws) wv_RX12_122_yX12_warm dX12_straight_32 sh_81 rfl (by decide) rfl rfl (Nat.le_of_ble_eq_true rfl) ⟨Nat.zero_le _, Nat.zero_le _⟩ (fun r1 h1 q1 => ?_)
  obtain ⟨rfl, F1, fr1⟩ := q1
  have r82_2 : h1 82 = s := (fr1 _ (by decide)).trans r82
  have r81_2 : h1 81 = o := (fr1 _ (by decide)).trans r81
  have fr2 : mh_fr [86, 87] h h1 := (mh_fr.tr mh_fr.rf fr1).mono (by simp)
  refine mh_callSp (pc := 35) (As := [.int (Int32.ofInt (s (41 + 9 * k + 0))), .int (Int32.ofInt (s (41 + 9 * k + 1))), .int (Int32.ofInt (sp_warm s (o 17) (o 18)))]) (st := [.int (Int32.ofInt (o 19)), .ref 81]) F (by omega) (k_warms (by omega) (by omega) (by omega) (by omega)) ws_RX12_242 dX12_straight_35 rfl rfl (Nat.le_of_ble_eq_true rfl) ⟨Nat.zero_le _, Nat.zero_le _⟩ ?_
  refine mh_iadd (pc := 38) F dX12_straight_38 ?_
  refine mh_iconst (pc := 39) F dX12_straight_39 ?_
  refine mh_sipush (pc := 40) F dX12_straight_40 rfl ?_
  refine mh_callSp (pc := 43) (As := [.int (Int32.ofInt ((o 19) + (sp_warms (s (41 + 9 * k + 0)) (s (41 + 9 * k + 1)) (sp_warm s (o 17) (o 18))))), .int (Int32.ofInt (0)), .int (Int32.ofInt (9999))]) (st := [.ref 81]) F (by omega) (k_held (by omega) (by omega) (by omega) (by omega)) ws_RX12_95 dX12_straight_43 rfl rfl (Nat.le_of_ble_eq_true rfl) ⟨Nat.zero_le _, Nat.zero_le _⟩ ?_
  refine mh_puti (pc := 46) F sh_81 (by decide) pw_RX12_323_12 dX12_straight_46 ?_
  refine mh_nmh (fun h3 e3 => ?_)
  have F3 : mh_FX h3 := by rw [e3]; exact F1.upz rfl
  have r82_3 : h3 82 = s := by rw [e3, mh_up_row (by decide)]; exact r82_2
  have r81_3 : h3 81 = mh_ur o 19 (sp_held ((o 19) + (sp_warms (s (41 + 9 * k + 0)) (s (41 + 9 * k + 1)) (sp_warm s (o 17) (o 18)))) (0) (9999)) := by rw [e3, mh_up_rs, r81_2]
  obtain ⟨o1, eo1⟩ : ∃ z : Int → Int, z = mh_ur o 19 (sp_held ((o 19) + (sp_warms (s (41 + 9 * k + 0)) (s (41 + 9 * k + 1)) (sp_warm s (o 17) (o 18)))) (0) (9999)) := ⟨_, rfl⟩
  rw [← eo1] at r81_3
  have fr3 : mh_fr [81, 86, 87] h h3 := mh_fr.up fr2 e3
  have o1f : ∀ j, j ≠ 19 → o1 j = o j := fun j hj => by rw [eo1]; exact mh_ur_ne hj
  have o1_20 := o1f 20 (by decide)
  have o1_18 := o1f 18 (by decide)
  refine mh_aload0 (pc := 49) F dX12_straight_49 ?_
  refine mh_aload0 (pc := 50) F dX12_straight_50 ?_
  refine mh_getir (pc := 51) F sh_81 (by decide) fw_RX12_326_12 dX12_straight_51 rfl r81_3 ?_
  refine mh_iload3 (pc := 54) F dX12_straight_54 ?_
  refine mh_iload4 (pc := 55) F dX12_straight_55 ?_
  refine mh_aload0 (pc := 57) F dX12_straight_57 ?_
  refine mh_iload2 (pc := 58) F dX12_straight_58 ?_
  refine mh_callVp (pc := 59) (As := [.int (Int32.ofInt (c))]) (st := [.int (Int32.ofInt (s (41 + 9 * k + 1))), .int (Int32.ofInt (s (41 + 9 * k + 0))), .int (Int32.ofInt (o1 20)), .ref 81]) F (by omega) (k_shake (by omega) F3 r82_3 (by omega)) wv_RX12_248_yX12_shake dX12_straight_59 sh_81 rfl (by decide) rfl rfl (Nat.le_of_ble_eq_true rfl) ⟨Nat.zero_le _, Nat.zero_le _⟩ ?_
  refine mh_callSp (pc := 62) (As := [.int (Int32.ofInt (s (41 + 9 * k + 0))), .int (Int32.ofInt (s (41 + 9 * k + 1))), .int (Int32.ofInt (s (33 + 2 * c + 1)))]) (st := [.int (Int32.ofInt (o1 20)), .ref 81]) F (by omega) (k_jolts (by omega) (by omega) (by omega) (by omega)) ws_RX12_251 dX12_straight_62 rfl rfl (Nat.le_of_ble_eq_true rfl) ⟨Nat.zero_le _, Nat.zero_le _⟩ ?_
  refine mh_iadd (pc := 65) F dX12_straight_65 ?_
  refine mh_iconst (pc := 66) F dX12_straight_66 ?_
  refine mh_sipush (pc := 67) F dX12_straight_67 rfl ?_
  refine mh_callSp (pc := 70) (As := [.int (Int32.ofInt ((o1 20) + (sp_jolts (s (41 + 9 * k + 0)) (s (41 + 9 * k + 1)) (s (33 + 2 * c + 1))))), .int (Int32.ofInt (0)), .int (Int32.ofInt (9999))]) (st := [.ref 81]) F (by omega) (k_held (by omega) (by omega) (by omega) (by omega)) ws_RX12_95 dX12_straight_70 rfl rfl (Nat.le_of_ble_eq_true rfl) ⟨Nat.zero_le _, Nat.zero_le _⟩ ?_
  refine mh_puti (pc := 73) F sh_81 (by decide) pw_RX12_326_12 dX12_straight_73 ?_
  refine mh_nmh (fun h4 e4 => ?_)
  have F4 : mh_FX h4 := by rw [e4]; exact F3.upz rfl
  have r82_4 : h4 82 = s := by rw [e4, mh_up_row (by decide)]; exact r82_3
  have r81_4 : h4 81 = mh_ur o1 20 (sp_held ((o1 20) + (sp_jolts (s (41 + 9 * k + 0)) (s (41 + 9 * k + 1)) (s (33 + 2 * c + 1)))) (0) (9999)) := by rw [e4, mh_up_rs, r81_3]
  obtain ⟨o2, eo2⟩ : ∃ z : Int → Int, z = mh_ur o1 20 (sp_held ((o1 20) + (sp_jolts (s (41 + 9 * k + 0)) (s (41 + 9 * k + 1)) (s (33 + 2 * c + 1)))) (0) (9999)) := ⟨_, rfl⟩
  rw [← eo2] at r81_4
  have fr4 : mh_fr [81, 86, 87] h h4 := mh_fr.upi fr3 e4 (by simp)
  have o2f : ∀ j, j ≠ 20 → o2 j = o1 j := fun j hj => by rw [eo2]; exact mh_ur_ne hj
  have o2_18 := (o2f 18 (by decide)).trans o1_18
  refine mh_aload0 (pc := 76) F dX12_straight_76 ?_
  refine mh_dup (pc := 77) F dX12_straight_77 rfl ?_
  refine mh_getir (pc := 78) F sh_81 (by decide) fw_RX12_320_12 dX12_straight_78 rfl r81_4 ?_
  refine mh_iconst (pc := 81) F dX12_straight_81 ?_
  refine mh_iadd (pc := 82) F dX12_straight_82 ?_
  refine mh_puti (pc := 83) F sh_81 (by decide) pw_RX12_320_12 dX12_straight_83 ?_
  refine mh_nmh (fun h5 e5 => ?_)
  have F5 : mh_FX h5 := by rw [e5]; exact F4.upz rfl
  have r82_5 : h5 82 = s := by rw [e5, mh_up_row (by decide)]; exact r82_4
  have r81_5 : h5 81 = mh_ur o2 18 ((o2 18) + 1) := by rw [e5, mh_up_rs, r81_4]
  have fr5 : mh_fr [81, 86, 87] h h5 := mh_fr.upi fr4 e5 (by simp)
  exact mh_return F Z dX12_straight_86 ⟨rfl, F5, (fr5.mono (by simp)), (r81_5.trans (by unfold sp_str; rw [o2_18, eo2, o1_20, eo1]))⟩

set_option maxRecDepth 100000 in
set_option maxHeartbeats 4000000 in
theorem k_straightOn {g : mh_G} {d : Nat} (hd : 8 ≤ d) {h : Nat → Int → Int} (hF : mh_FX h) {s : Int → Int} (r82 : h 82 = s) {o : Int → Int} (r81 : h 81 = o) {k c : Int} (hk : 0 ≤ k ∧ k < 6) (hi : sp_inv s) (hc : 0 ≤ c ∧ c < 4) (ho : sp_ook o) (h17 : o 17 ≤ 8) (h18 : o 18 ≤ 40000) : mh_M g d yX12_straightOn cX12_straightOn 4 none 96 0 0 [.ref 81, .int (Int32.ofInt (k)), .int (Int32.ofInt (c))] h (fun r h2 => r = none ∧ mh_FX h2 ∧ mh_fr [81, 86, 87] h h2 ∧ h2 81 = sp_on s o k c) := by
  refine mh_M_of RX12 rfl (by decide +kernel) [some (.ref 81), some (.int (Int32.ofInt (k))), some (.int (Int32.ofInt (c))), none] rfl (Nat.le_of_ble_eq_true rfl) (fun f F Z hn0 hR => ?_)
  obtain ⟨hH, hC⟩ := hi.2.2.2.1
  have hpc := (hC c hc.1 hc.2).1
  refine mh_iconst (pc := 0) F dX12_straightOn_0 ?_
  refine mh_istore3 (pc := 1) F dX12_straightOn_1 rfl (by decide) ?_
  have L2 : ∀ (m : Nat) (x : Int) (hh : Nat → Int → Int) (t : Int → Int), (mh_FX hh) → (mh_fr [81, 86, 87] h hh) → (hh 82 = s) → (hh 81 = t) → (0 ≤ x ∧ x ≤ s (33 + 2 * c)) → (t = sp_strs s o k c x.toNat) → (s (33 + 2 * c) - x).toNat = m → mh_V g f 4 96 0 0 2 [some (.ref 81), some (.int (Int32.ofInt (k))), some (.int (Int32.ofInt (c))), some (.int (Int32.ofInt (x)))] [] hh := by
    intro m
    induction m using Nat.strongRecOn with
    | _ m ihL2 =>
    intro x hh t Fhh frhh q82hh q81hh hx ht hmz
    refine mh_iload3 (pc := 2) F dX12_straightOn_2 ?_
    obtain ⟨zHO, t17, t18⟩ := sp_strs_ok (s := s) (k := k) (c := c) ho x.toNat
    rw [← ht] at zHO t17 t18
    refine mh_aload0 (pc := 3) F dX12_straightOn_3 ?_
    refine mh_iload2 (pc := 4) F dX12_straightOn_4 ?_
    refine mh_callVp (pc := 5) (As := [.int (Int32.ofInt (c))]) (st := [.int (Int32.ofInt (x))]) F (by omega) (k_pace (by omega) Fhh q82hh (by omega)) wv_RX12_132_yX12_pace dX12_straightOn_5 sh_81 rfl (by decide) rfl rfl (Nat.le_of_ble_eq_true rfl) ⟨Nat.zero_le _, Nat.zero_le _⟩ ?_
    refine mh_icmp_ge (pc := 8) (tgt := 23) F dX12_straightOn_8 rfl (by omega) (by omega) (fun c_8 => ?_) (fun c_8 => ?_)
    · refine mh_aload0 (pc := 23) F dX12_straightOn_23 ?_
      refine mh_dup (pc := 24) F dX12_straightOn_24 rfl ?_
      refine mh_getir (pc := 25) F sh_81 (by decide) fw_RX12_317_12 dX12_straightOn_25 rfl q81hh ?_
      refine mh_iconst (pc := 28) F dX12_straightOn_28 ?_
      refine mh_iadd (pc := 29) F dX12_straightOn_29 ?_
      refine mh_puti (pc := 30) F sh_81 (by decide) pw_RX12_317_12 dX12_straightOn_30 ?_
      refine mh_nmh (fun h1 e1 => ?_)
      have F1 : mh_FX h1 := by rw [e1]; exact Fhh.upz rfl
      have r82_1 : h1 82 = s := by rw [e1, mh_up_row (by decide)]; exact q82hh
      have r81_1 : h1 81 = mh_ur t 17 ((t 17) + 1) := by rw [e1, mh_up_rs, q81hh]
      have fr1 : mh_fr [81, 86, 87] h h1 := mh_fr.upi frhh e1 (by simp)
      exact mh_return F Z dX12_straightOn_33 ⟨rfl, F1, (fr1.mono (by simp)), (r81_1.trans (by unfold sp_on; rw [← (show x = s (33 + 2 * c) by omega), ← ht]))⟩
    · refine mh_aload0 (pc := 11) F dX12_straightOn_11 ?_
      refine mh_iload1 (pc := 12) F dX12_straightOn_12 ?_
      refine mh_iload2 (pc := 13) F dX12_straightOn_13 ?_
      refine mh_callV0 (pc := 14) (As := [.int (Int32.ofInt (k)), .int (Int32.ofInt (c))]) (st := []) F (by omega) (k_straight (by omega) Fhh q82hh q81hh (by omega) hi (by omega) zHO (by omega) (by omega)) wv_RX12_329_yX12_straight dX12_straightOn_14 sh_81 rfl (by decide) rfl rfl (Nat.le_of_ble_eq_true rfl) ⟨Nat.zero_le _, Nat.zero_le _⟩ (fun r2 h2 q2 => ?_)
      obtain ⟨rfl, F2, fr2, q2_0⟩ := q2
      have r82_3 : h2 82 = s := (fr2 _ (by decide)).trans q82hh
      have fr3 : mh_fr [81, 86, 87] h h2 := (mh_fr.tr frhh fr2).mono (by simp)
      refine mh_iinc3 (pc := 17) F dX12_straightOn_17 rfl (by decide) ?_
      refine mh_goto (pc := 20) (tgt := 2) F dX12_straightOn_20 rfl ?_
      exact ihL2 _ (by omega) (x + 1) h2 (sp_str s t k c) F2 (fr3.mono (by simp)) r82_3 q2_0 (by omega) (by rw [sp_strs_at s o k c hx.1, ← ht]) rfl
  exact L2 _ 0 h o hF (mh_fr.rf.mono (by simp)) r82 r81 (by omega) rfl rfl

def sp_may (s : Int → Int) (k : Int) : Prop := s (41 + 9 * k + 3) < 2 ∧ sp_stm s k = 0
set_option maxRecDepth 100000 in
set_option maxHeartbeats 4000000 in
theorem k_mayRelay {g : mh_G} {d : Nat} (hd : 4 ≤ d) {h : Nat → Int → Int} (hF : mh_FX h) {s : Int → Int} (r82 : h 82 = s) {k : Int} (hk : 0 ≤ k ∧ k < 6) (hc : sp_cok (sp_row s k)) : mh_MP g d yX12_mayRelay cX12_mayRelay 2 (some .boolean) 96 [.ref 81, .int (Int32.ofInt (k))] h (some (.int (Int32.ofInt (mh_B (s (41 + 9 * k + 3) < 2 ∧ sp_stm s k = 0))))) := by
  refine mh_M_of RX12 rfl (by decide +kernel) [some (.ref 81), some (.int (Int32.ofInt (k)))] rfl (Nat.le_of_ble_eq_true rfl) (fun f F Z hn0 hR => ?_)
  obtain ⟨c0, c1, c2, c3, c4, c5, c6, c7, c8, c9, c10, c11, c12, c13⟩ := hc
  unfold sp_row at c0 c1 c2 c3 c4 c5 c6 c7 c8 c9 c10 c11 c12 c13
  have hst := sp_stm_rg s k
  refine mh_aload0 (pc := 0) F dX12_mayRelay_0 ?_
  refine mh_iload1 (pc := 1) F dX12_mayRelay_1 ?_
  refine mh_iconst (pc := 2) F dX12_mayRelay_2 ?_
  refine mh_callVp (pc := 3) (As := [.int (Int32.ofInt (k)), .int (Int32.ofInt (3))]) (st := []) F (by omega) (k_its (by omega) hF r82 (by omega) (by omega)) wv_RX12_79_yX12_its dX12_mayRelay_3 sh_81 rfl (by decide) rfl rfl (Nat.le_of_ble_eq_true rfl) ⟨Nat.zero_le _, Nat.zero_le _⟩ ?_
  refine mh_iconst (pc := 6) F dX12_mayRelay_6 ?_
  refine mh_icmp_ge (pc := 7) (tgt := 22) F dX12_mayRelay_7 rfl (by omega) (by omega) (fun c_7 => ?_) (fun c_7 => ?_)
  · refine mh_iconst (pc := 22) F dX12_mayRelay_22 ?_
    exact mh_zreturnp F Z dX12_mayRelay_23 (Or.inr ⟨rfl, (by omega)⟩) rfl
  · refine mh_aload0 (pc := 10) F dX12_mayRelay_10 ?_
    refine mh_iload1 (pc := 11) F dX12_mayRelay_11 ?_
    refine mh_callVp (pc := 12) (As := [.int (Int32.ofInt (k))]) (st := []) F (by omega) (k_stateOf (by omega) hF r82 (by omega) (by omega) (by omega) (by omega) (by omega) (by omega)) wv_RX12_154_yX12_stateOf dX12_mayRelay_12 sh_81 rfl (by decide) rfl rfl (Nat.le_of_ble_eq_true rfl) ⟨Nat.zero_le _, Nat.zero_le _⟩ ?_
    refine mh_if_ne (pc := 15) (tgt := 22) F dX12_mayRelay_15 rfl (by omega) (fun c_15 => ?_) (fun c_15 => ?_)
    · refine mh_iconst (pc := 22) F dX12_mayRelay_22 ?_
      exact mh_zreturnp F Z dX12_mayRelay_23 (Or.inr ⟨rfl, (by omega)⟩) rfl
    · refine mh_iconst (pc := 18) F dX12_mayRelay_18 ?_
      refine mh_goto (pc := 19) (tgt := 23) F dX12_mayRelay_19 rfl ?_
      exact mh_zreturnp F Z dX12_mayRelay_23 (Or.inl ⟨rfl, (by omega)⟩) rfl

