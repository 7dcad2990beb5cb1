theorem mh_cp_at {u v t : Int → Int} {k : Int} (hk : 0 ≤ k) (ht : t = mh_cp k u v) : mh_ur t k (u k) = mh_cp (k + 1) u v := by
  rw [ht]; funext i; unfold mh_ur mh_cp
  (repeat' split) <;> first | rfl | (exfalso; omega) | (congr 1; omega)
theorem mh_cp_0 {u v : Int → Int} : v = mh_cp 0 u v := by funext i; unfold mh_cp; rw [if_neg (by omega)]
set_option maxRecDepth 100000 in
set_option maxHeartbeats 4000000 in
theorem k_cp_82_84 {g : mh_G} {d : Nat} (hd : 1 ≤ d) {h : Nat → Int → Int} (hF : mh_FX h) {u : Int → Int} (r82 : h 82 = u) {v : Int → Int} (r84 : h 84 = v)   : mh_M g d yX12_become cX12_become 3 none 96 0 0 [.ref 82, .ref 84] h (fun r h2 => r = none ∧ mh_FX h2 ∧ mh_fr [84] h h2 ∧ h2 84 = mh_cp 267 u v) := by
  refine mh_M_of RX12 rfl (by decide +kernel) [some (.ref 82), some (.ref 84), none] rfl (Nat.le_of_ble_eq_true rfl) (fun f F Z hn0 hR => ?_)
  refine mh_iconst (pc := 0) F dX12_become_0 ?_
  refine mh_istore2 (pc := 1) F dX12_become_1 rfl (by decide) ?_
  have L2 : ∀ (m : Nat) (x : Int) (hh : Nat → Int → Int) (t : Int → Int), (mh_FX hh) → (mh_fr [84] h hh) → (hh 82 = u) → (hh 84 = t) → (0 ≤ x ∧ x ≤ 267) → (t = mh_cp x u v) → (267 - x).toNat = m → mh_V g f 3 96 0 0 2 [some (.ref 82), some (.ref 84), some (.int (Int32.ofInt (x)))] [] hh := by
    intro m
    induction m using Nat.strongRecOn with
    | _ m ihL2 =>
    intro x hh t Fhh frhh q82hh q84hh hx ht hmz
    refine mh_iload2 (pc := 2) F dX12_become_2 ?_
    refine mh_sipush (pc := 3) F dX12_become_3 rfl ?_
    refine mh_icmp_ge (pc := 6) (tgt := 21) F dX12_become_6 rfl (by omega) (by omega) (fun c_6 => ?_) (fun c_6 => ?_)
    · exact mh_return F Z dX12_become_21 ⟨rfl, Fhh, frhh, q84hh.trans (by rw [ht, show x = 267 by omega])⟩
    · refine mh_aload1 (pc := 9) F dX12_become_9 ?_
      refine mh_iload2 (pc := 10) F dX12_become_10 ?_
      refine mh_aload0 (pc := 11) F dX12_become_11 ?_
      refine mh_iload2 (pc := 12) F dX12_become_12 ?_
      refine mh_ialoadr (pc := 13) F sh_82 (by decide) (by omega) dX12_become_13 q82hh ?_
      refine mh_iastore (pc := 14) F sh_84 (by decide) (by omega) dX12_become_14 ?_
      refine mh_nmh (fun h1 e1 => ?_)
      have F1 : mh_FX h1 := by rw [e1]; exact Fhh.upa rfl
      have r82_1 : h1 82 = u := by rw [e1, mh_up_row (by decide)]; exact q82hh
      have r84_1 : h1 84 = mh_ur t x (u x) := by rw [e1, mh_up_rs, q84hh]
      have fr1 : mh_fr [84] h h1 := mh_fr.upi frhh e1 (by simp)
      refine mh_iinc2 (pc := 15) F dX12_become_15 rfl (by decide) ?_
      refine mh_goto (pc := 18) (tgt := 2) F dX12_become_18 rfl ?_
      exact ihL2 _ (by omega) (x + 1) h1 (mh_ur t x (u x)) F1 (fr1.mono (by simp)) r82_1 r84_1 (by omega) (mh_cp_at hx.1 ht) rfl
  exact L2 _ 0 h v hF (mh_fr.rf.mono (by simp)) r82 r84 (by omega) mh_cp_0 rfl

set_option maxRecDepth 100000 in
set_option maxHeartbeats 4000000 in
theorem k_cp_84_82 {g : mh_G} {d : Nat} (hd : 1 ≤ d) {h : Nat → Int → Int} (hF : mh_FX h) {u : Int → Int} (r84 : h 84 = u) {v : Int → Int} (r82 : h 82 = v)   : mh_M g d yX12_become cX12_become 3 none 96 0 0 [.ref 84, .ref 82] h (fun r h2 => r = none ∧ mh_FX h2 ∧ mh_fr [82] h h2 ∧ h2 82 = mh_cp 267 u v) := by
  refine mh_M_of RX12 rfl (by decide +kernel) [some (.ref 84), some (.ref 82), none] rfl (Nat.le_of_ble_eq_true rfl) (fun f F Z hn0 hR => ?_)
  refine mh_iconst (pc := 0) F dX12_become_0 ?_
  refine mh_istore2 (pc := 1) F dX12_become_1 rfl (by decide) ?_
  have L2 : ∀ (m : Nat) (x : Int) (hh : Nat → Int → Int) (t : Int → Int), (mh_FX hh) → (mh_fr [82] h hh) → (hh 84 = u) → (hh 82 = t) → (0 ≤ x ∧ x ≤ 267) → (t = mh_cp x u v) → (267 - x).toNat = m → mh_V g f 3 96 0 0 2 [some (.ref 84), some (.ref 82), some (.int (Int32.ofInt (x)))] [] hh := by
    intro m
    induction m using Nat.strongRecOn with
    | _ m ihL2 =>
    intro x hh t Fhh frhh q84hh q82hh hx ht hmz
    refine mh_iload2 (pc := 2) F dX12_become_2 ?_
    refine mh_sipush (pc := 3) F dX12_become_3 rfl ?_
    refine mh_icmp_ge (pc := 6) (tgt := 21) F dX12_become_6 rfl (by omega) (by omega) (fun c_6 => ?_) (fun c_6 => ?_)
    · exact mh_return F Z dX12_become_21 ⟨rfl, Fhh, frhh, q82hh.trans (by rw [ht, show x = 267 by omega])⟩
    · refine mh_aload1 (pc := 9) F dX12_become_9 ?_
      refine mh_iload2 (pc := 10) F dX12_become_10 ?_
      refine mh_aload0 (pc := 11) F dX12_become_11 ?_
      refine mh_iload2 (pc := 12) F dX12_become_12 ?_
      refine mh_ialoadr (pc := 13) F sh_84 (by decide) (by omega) dX12_become_13 q84hh ?_
      refine mh_iastore (pc := 14) F sh_82 (by decide) (by omega) dX12_become_14 ?_
      refine mh_nmh (fun h1 e1 => ?_)
      have F1 : mh_FX h1 := by rw [e1]; exact Fhh.upa rfl
      have r84_1 : h1 84 = u := by rw [e1, mh_up_row (by decide)]; exact q84hh
      have r82_1 : h1 82 = mh_ur t x (u x) := by rw [e1, mh_up_rs, q82hh]
      have fr1 : mh_fr [82] h h1 := mh_fr.upi frhh e1 (by simp)
      refine mh_iinc2 (pc := 15) F dX12_become_15 rfl (by decide) ?_
      refine mh_goto (pc := 18) (tgt := 2) F dX12_become_18 rfl ?_
      exact ihL2 _ (by omega) (x + 1) h1 (mh_ur t x (u x)) F1 (fr1.mono (by simp)) r84_1 r82_1 (by omega) (mh_cp_at hx.1 ht) rfl
  exact L2 _ 0 h v hF (mh_fr.rf.mono (by simp)) r84 r82 (by omega) mh_cp_0 rfl

set_option maxRecDepth 100000 in
set_option maxHeartbeats 4000000 in
theorem k_cp_82_83 {g : mh_G} {d : Nat} (hd : 1 ≤ d) {h : Nat → Int → Int} (hF : mh_FX h) {u : Int → Int} (r82 : h 82 = u) {v : Int → Int} (r83 : h 83 = v)   : mh_M g d yX12_become cX12_become 3 none 96 0 0 [.ref 82, .ref 83] h (fun r h2 => r = none ∧ mh_FX h2 ∧ mh_fr [83] h h2 ∧ h2 83 = mh_cp 267 u v) := by
  refine mh_M_of RX12 rfl (by decide +kernel) [some (.ref 82), some (.ref 83), none] rfl (Nat.le_of_ble_eq_true rfl) (fun f F Z hn0 hR => ?_)
  refine mh_iconst (pc := 0) F dX12_become_0 ?_
  refine mh_istore2 (pc := 1) F dX12_become_1 rfl (by decide) ?_
  have L2 : ∀ (m : Nat) (x : Int) (hh : Nat → Int → Int) (t : Int → Int), (mh_FX hh) → (mh_fr [83] h hh) → (hh 82 = u) → (hh 83 = t) → (0 ≤ x ∧ x ≤ 267) → (t = mh_cp x u v) → (267 - x).toNat = m → mh_V g f 3 96 0 0 2 [some (.ref 82), some (.ref 83), some (.int (Int32.ofInt (x)))] [] hh := by
    intro m
    induction m using Nat.strongRecOn with
    | _ m ihL2 =>
    intro x hh t Fhh frhh q82hh q83hh hx ht hmz
    refine mh_iload2 (pc := 2) F dX12_become_2 ?_
    refine mh_sipush (pc := 3) F dX12_become_3 rfl ?_
    refine mh_icmp_ge (pc := 6) (tgt := 21) F dX12_become_6 rfl (by omega) (by omega) (fun c_6 => ?_) (fun c_6 => ?_)
    · exact mh_return F Z dX12_become_21 ⟨rfl, Fhh, frhh, q83hh.trans (by rw [ht, show x = 267 by omega])⟩
    · refine mh_aload1 (pc := 9) F dX12_become_9 ?_
      refine mh_iload2 (pc := 10) F dX12_become_10 ?_
      refine mh_aload0 (pc := 11) F dX12_become_11 ?_
      refine mh_iload2 (pc := 12) F dX12_become_12 ?_
      refine mh_ialoadr (pc := 13) F sh_82 (by decide) (by omega) dX12_become_13 q82hh ?_
      refine mh_iastore (pc := 14) F sh_83 (by decide) (by omega) dX12_become_14 ?_
      refine mh_nmh (fun h1 e1 => ?_)
      have F1 : mh_FX h1 := by rw [e1]; exact Fhh.upa rfl
      have r82_1 : h1 82 = u := by rw [e1, mh_up_row (by decide)]; exact q82hh
      have r83_1 : h1 83 = mh_ur t x (u x) := by rw [e1, mh_up_rs, q83hh]
      have fr1 : mh_fr [83] h h1 := mh_fr.upi frhh e1 (by simp)
      refine mh_iinc2 (pc := 15) F dX12_become_15 rfl (by decide) ?_
      refine mh_goto (pc := 18) (tgt := 2) F dX12_become_18 rfl ?_
      exact ihL2 _ (by omega) (x + 1) h1 (mh_ur t x (u x)) F1 (fr1.mono (by simp)) r82_1 r83_1 (by omega) (mh_cp_at hx.1 ht) rfl
  exact L2 _ 0 h v hF (mh_fr.rf.mono (by simp)) r82 r83 (by omega) mh_cp_0 rfl

set_option maxRecDepth 100000 in
set_option maxHeartbeats 4000000 in
theorem k_cp_83_82 {g : mh_G} {d : Nat} (hd : 1 ≤ d) {h : Nat → Int → Int} (hF : mh_FX h) {u : Int → Int} (r83 : h 83 = u) {v : Int → Int} (r82 : h 82 = v)   : mh_M g d yX12_become cX12_become 3 none 96 0 0 [.ref 83, .ref 82] h (fun r h2 => r = none ∧ mh_FX h2 ∧ mh_fr [82] h h2 ∧ h2 82 = mh_cp 267 u v) := by
  refine mh_M_of RX12 rfl (by decide +kernel) [some (.ref 83), some (.ref 82), none] rfl (Nat.le_of_ble_eq_true rfl) (fun f F Z hn0 hR => ?_)
  refine mh_iconst (pc := 0) F dX12_become_0 ?_
  refine mh_istore2 (pc := 1) F dX12_become_1 rfl (by decide) ?_
  have L2 : ∀ (m : Nat) (x : Int) (hh : Nat → Int → Int) (t : Int → Int), (mh_FX hh) → (mh_fr [82] h hh) → (hh 83 = u) → (hh 82 = t) → (0 ≤ x ∧ x ≤ 267) → (t = mh_cp x u v) → (267 - x).toNat = m → mh_V g f 3 96 0 0 2 [some (.ref 83), some (.ref 82), some (.int (Int32.ofInt (x)))] [] hh := by
    intro m
    induction m using Nat.strongRecOn with
    | _ m ihL2 =>
    intro x hh t Fhh frhh q83hh q82hh hx ht hmz
    refine mh_iload2 (pc := 2) F dX12_become_2 ?_
    refine mh_sipush (pc := 3) F dX12_become_3 rfl ?_
    refine mh_icmp_ge (pc := 6) (tgt := 21) F dX12_become_6 rfl (by omega) (by omega) (fun c_6 => ?_) (fun c_6 => ?_)
    · exact mh_return F Z dX12_become_21 ⟨rfl, Fhh, frhh, q82hh.trans (by rw [ht, show x = 267 by omega])⟩
    · refine mh_aload1 (pc := 9) F dX12_become_9 ?_
      refine mh_iload2 (pc := 10) F dX12_become_10 ?_
      refine mh_aload0 (pc := 11) F dX12_become_11 ?_
      refine mh_iload2 (pc := 12) F dX12_become_12 ?_
      refine mh_ialoadr (pc := 13) F sh_83 (by decide) (by omega) dX12_become_13 q83hh ?_
      refine mh_iastore (pc := 14) F sh_82 (by decide) (by omega) dX12_become_14 ?_
      refine mh_nmh (fun h1 e1 => ?_)
      have F1 : mh_FX h1 := by rw [e1]; exact Fhh.upa rfl
      have r83_1 : h1 83 = u := by rw [e1, mh_up_row (by decide)]; exact q83hh
      have r82_1 : h1 82 = mh_ur t x (u x) := by rw [e1, mh_up_rs, q82hh]
      have fr1 : mh_fr [82] h h1 := mh_fr.upi frhh e1 (by simp)
      refine mh_iinc2 (pc := 15) F dX12_become_15 rfl (by decide) ?_
      refine mh_goto (pc := 18) (tgt := 2) F dX12_become_18 rfl ?_
      exact ihL2 _ (by omega) (x + 1) h1 (mh_ur t x (u x)) F1 (fr1.mono (by simp)) r83_1 r82_1 (by omega) (mh_cp_at hx.1 ht) rfl
  exact L2 _ 0 h v hF (mh_fr.rf.mono (by simp)) r83 r82 (by omega) mh_cp_0 rfl

set_option maxRecDepth 100000 in
set_option maxHeartbeats 4000000 in
theorem k_lends {g : mh_G} {d : Nat} (hd : 2 ≤ d) {h : Nat → Int → Int} (hF : mh_FX h) {s : Int → Int} (r82 : h 82 = s) {z : Int → Int} (r84 : h 84 = z)   : mh_M g d yX12_lends cX12_lends 1 none 96 0 0 [.ref 81] h (fun r h2 => r = none ∧ mh_FX h2 ∧ mh_fr [84] h h2 ∧ h2 84 = mh_cp 267 s z) := by
  refine mh_M_of RX12 rfl (by decide +kernel) [some (.ref 81)] rfl (Nat.le_of_ble_eq_true rfl) (fun f F Z hn0 hR => ?_)
  refine mh_aload0 (pc := 0) F dX12_lends_0 ?_
  refine mh_getr (b := 82) (pc := 1) F sh_81 (by decide) fw_RX12_9_12 dX12_lends_1 rfl (fx_81_0 hF) ?_
  refine mh_aload0 (pc := 4) F dX12_lends_4 ?_
  refine mh_getr (b := 84) (pc := 5) F sh_81 (by decide) fw_RX12_16_12 dX12_lends_5 rfl (fx_81_2 hF) ?_
  refine mh_callS0 (pc := 8) (As := [.ref 82, .ref 84]) (st := []) F (by omega) (k_cp_82_84 (by omega) hF r82 r84) ws_RX12_63 dX12_lends_8 rfl rfl (Nat.le_of_ble_eq_true rfl) ⟨Nat.zero_le _, Nat.zero_le _⟩ (fun r1 h1 q1 => ?_)
  obtain ⟨rfl, F1, fr1, q1_0⟩ := q1
  have r82_2 : h1 82 = s := (fr1 _ (by decide)).trans r82
  have fr2 : mh_fr [84] h h1 := (mh_fr.tr mh_fr.rf fr1).mono (by simp)
  exact mh_return F Z dX12_lends_11 ⟨rfl, F1, (fr2.mono (by simp)), q1_0⟩

set_option maxRecDepth 100000 in
set_option maxHeartbeats 4000000 in
theorem k_laysBack {g : mh_G} {d : Nat} (hd : 2 ≤ d) {h : Nat → Int → Int} (hF : mh_FX h) {z : Int → Int} (r84 : h 84 = z) {s : Int → Int} (r82 : h 82 = s)   : mh_M g d yX12_laysBack cX12_laysBack 1 none 96 0 0 [.ref 81] h (fun r h2 => r = none ∧ mh_FX h2 ∧ mh_fr [82] h h2 ∧ h2 82 = mh_cp 267 z s) := by
  refine mh_M_of RX12 rfl (by decide +kernel) [some (.ref 81)] rfl (Nat.le_of_ble_eq_true rfl) (fun f F Z hn0 hR => ?_)
  refine mh_aload0 (pc := 0) F dX12_laysBack_0 ?_
  refine mh_getr (b := 84) (pc := 1) F sh_81 (by decide) fw_RX12_16_12 dX12_laysBack_1 rfl (fx_81_2 hF) ?_
  refine mh_aload0 (pc := 4) F dX12_laysBack_4 ?_
  refine mh_getr (b := 82) (pc := 5) F sh_81 (by decide) fw_RX12_9_12 dX12_laysBack_5 rfl (fx_81_0 hF) ?_
  refine mh_callS0 (pc := 8) (As := [.ref 84, .ref 82]) (st := []) F (by omega) (k_cp_84_82 (by omega) hF r84 r82) ws_RX12_63 dX12_laysBack_8 rfl rfl (Nat.le_of_ble_eq_true rfl) ⟨Nat.zero_le _, Nat.zero_le _⟩ (fun r1 h1 q1 => ?_)
  obtain ⟨rfl, F1, fr1, q1_0⟩ := q1
  have r84_2 : h1 84 = z := (fr1 _ (by decide)).trans r84
  have fr2 : mh_fr [82] h h1 := (mh_fr.tr mh_fr.rf fr1).mono (by simp)
  exact mh_return F Z dX12_laysBack_11 ⟨rfl, F1, (fr2.mono (by simp)), q1_0⟩

theorem mh_cp_back {s t z : Int → Int} (h : ∀ i, i < 0 ∨ 267 ≤ i → t i = s i) : mh_cp 267 (mh_cp 267 s z) t = s := by
  funext i; unfold mh_cp
  split
  · rfl
  · exact h i (by omega)
set_option maxRecDepth 100000 in
set_option maxHeartbeats 4000000 in
theorem p_then {g : mh_G} {d : Nat} (hd : 10 ≤ d) {h : Nat → Int → Int} (hF : mh_FX h) {s : Int → Int} (r82 : h 82 = s) {er : Int → Int} (r85 : h 85 = er) {z : Int → Int} (r84 : h 84 = z) {n k w : Int} (hn : -2147483648 ≤ n ∧ n < 2147483648) (hk : -2147483648 ≤ k ∧ k < 2147483648) (hw : -2147483648 ≤ w ∧ w < 2147483648) (hq9 : s 0 ≤ 9999) (hi : sp_inv s) : mh_M g d yX12_then cX12_then 5 (some .int) 96 0 0 [.ref 81, .int (Int32.ofInt (n)), .int (Int32.ofInt (k)), .int (Int32.ofInt (w))] h (fun r h2 => ∃ (vv : Int) (t0 : Int → Int) (t1 : Int → Int), (vv, t0, t1) = sp_thenP n k w s er ∧ r = some (.int (Int32.ofInt vv)) ∧ mh_FX h2 ∧ mh_fr [82, 84, 85, 86, 87] h h2 ∧ h2 82 = t0 ∧ h2 85 = t1) := by
  refine mh_M_of RX12 rfl (by decide +kernel) [some (.ref 81), some (.int (Int32.ofInt (n))), some (.int (Int32.ofInt (k))), some (.int (Int32.ofInt (w))), none] rfl (Nat.le_of_ble_eq_true rfl) (fun f F Z hn0 hR => ?_)
  have hib := sp_inv_b hi
  have hm := hi.1
  have hq0 := hi.2.1
  have hws := hi.2.2.2.2.2
  obtain ⟨hH, hC⟩ := hi.2.2.2.1
  have hs1 := hi.2.2.1
  refine mh_iload1 (pc := 0) F dX12_then_0 ?_
  refine mh_i2l (pc := 1) F dX12_then_1 (by omega) ?_
  refine mh_lconst (x := 0) (pc := 2) F dX12_then_2 rfl ?_
  refine mh_ldc2 (x := 300) (pc := 3) F dX12_then_3 tw_6_209 ?_
  refine mh_callSp (pc := 6) (As := [.long (Int64.ofInt (n)), .long (Int64.ofInt (0)), .long (Int64.ofInt (300))]) (st := []) F (by omega) (k_in (by omega) (by omega) (by omega) (by omega)) ws_RX12_69 dX12_then_6 rfl rfl (Nat.le_of_ble_eq_true rfl) ⟨Nat.zero_le _, Nat.zero_le _⟩ ?_
  refine mh_ifb_eq (pc := 9) (tgt := 34) F dX12_then_9 rfl (fun c_9 => ?_) (fun c_9 => ?_)
  · refine mh_aload0 (pc := 34) F dX12_then_34 ?_
    refine mh_iconst (pc := 35) F dX12_then_35 ?_
    refine mh_callV0 (pc := 36) (As := [.int (Int32.ofInt (1))]) (st := []) F (by omega) (k_error (by omega) hF r85 (by omega)) wv_RX12_114_yX12_error dX12_then_36 sh_81 rfl (by decide) rfl rfl (Nat.le_of_ble_eq_true rfl) ⟨Nat.zero_le _, Nat.zero_le _⟩ (fun r1 h1 q1 => ?_)
    obtain ⟨rfl, F1, fr1, q1_0⟩ := q1
    have r82_2 : h1 82 = s := (fr1 _ (by decide)).trans r82
    have r84_2 : h1 84 = z := (fr1 _ (by decide)).trans r84
    have fr2 : mh_fr [85] h h1 := (mh_fr.tr mh_fr.rf fr1).mono (by simp)
    exact mh_ireturn F Z dX12_then_39 ⟨_, _, _, (by unfold sp_thenP; (repeat' split) <;> first | rfl | (exfalso; omega)), rfl, F1, (fr2.mono (by simp)), r82_2, q1_0⟩
  · refine mh_aload0 (pc := 12) F dX12_then_12 ?_
    refine mh_iload2 (pc := 13) F dX12_then_13 ?_
    refine mh_callVp (pc := 14) (As := [.int (Int32.ofInt (k))]) (st := []) F (by omega) (k_isChurn (by omega) hF r82 (by omega) (by omega)) wv_RX12_148_yX12_isChurn dX12_then_14 sh_81 rfl (by decide) rfl rfl (Nat.le_of_ble_eq_true rfl) ⟨Nat.zero_le _, Nat.zero_le _⟩ ?_
    refine mh_ifb_eq (pc := 17) (tgt := 34) F dX12_then_17 rfl (fun c_17 => ?_) (fun c_17 => ?_)
    · refine mh_aload0 (pc := 34) F dX12_then_34 ?_
      refine mh_iconst (pc := 35) F dX12_then_35 ?_
      refine mh_callV0 (pc := 36) (As := [.int (Int32.ofInt (1))]) (st := []) F (by omega) (k_error (by omega) hF r85 (by omega)) wv_RX12_114_yX12_error dX12_then_36 sh_81 rfl (by decide) rfl rfl (Nat.le_of_ble_eq_true rfl) ⟨Nat.zero_le _, Nat.zero_le _⟩ (fun r3 h3 q3 => ?_)
      obtain ⟨rfl, F3, fr3, q3_0⟩ := q3
      have r82_4 : h3 82 = s := (fr3 _ (by decide)).trans r82
      have r84_4 : h3 84 = z := (fr3 _ (by decide)).trans r84
      have fr4 : mh_fr [85] h h3 := (mh_fr.tr mh_fr.rf fr3).mono (by simp)
      exact mh_ireturn F Z dX12_then_39 ⟨_, _, _, (by unfold sp_thenP; (repeat' split) <;> first | rfl | (exfalso; omega)), rfl, F3, (fr4.mono (by simp)), r82_4, q3_0⟩
    · refine mh_iload3 (pc := 20) F dX12_then_20 ?_
      refine mh_i2l (pc := 21) F dX12_then_21 (by omega) ?_
      refine mh_ldc2 (x := 2) (pc := 22) F dX12_then_22 tw_5_226 ?_
      refine mh_ldc2 (x := 7) (pc := 25) F dX12_then_25 tw_7_21 ?_
      refine mh_callSp (pc := 28) (As := [.long (Int64.ofInt (w)), .long (Int64.ofInt (2)), .long (Int64.ofInt (7))]) (st := []) F (by omega) (k_in (by omega) (by omega) (by omega) (by omega)) ws_RX12_69 dX12_then_28 rfl rfl (Nat.le_of_ble_eq_true rfl) ⟨Nat.zero_le _, Nat.zero_le _⟩ ?_
      refine mh_ifb_ne (pc := 31) (tgt := 40) F dX12_then_31 rfl (fun c_31 => ?_) (fun c_31 => ?_)
      · refine mh_aload0 (pc := 40) F dX12_then_40 ?_
        refine mh_callV0 (pc := 41) (As := []) (st := []) F (by omega) (k_lends (by omega) hF r82 r84 ) wv_RX12_277_yX12_lends dX12_then_41 sh_81 rfl (by decide) rfl rfl (Nat.le_of_ble_eq_true rfl) ⟨Nat.zero_le _, Nat.zero_le _⟩ (fun r5 h5 q5 => ?_)
        obtain ⟨rfl, F5, fr5, q5_0⟩ := q5
        have r82_6 : h5 82 = s := (fr5 _ (by decide)).trans r82
        have r85_6 : h5 85 = er := (fr5 _ (by decide)).trans r85
        have fr6 : mh_fr [84] h h5 := (mh_fr.tr mh_fr.rf fr5).mono (by simp)
        refine mh_iconst (pc := 44) F dX12_then_44 ?_
        refine mh_istore4 (pc := 45) F dX12_then_45 rfl (by decide) ?_
        have L47 : ∀ (m : Nat) (x : Int) (hh : Nat → Int → Int) (t : Int → Int), (mh_FX hh) → (mh_fr [84, 82, 86, 87] h hh) → (hh 82 = t) → (hh 85 = er) → (hh 84 = mh_cp 267 s z) → (0 ≤ x ∧ x ≤ n) → (t = sp_aqs s x.toNat) → (n - x).toNat = m → mh_V g f 5 96 0 0 47 [some (.ref 81), some (.int (Int32.ofInt (n))), some (.int (Int32.ofInt (k))), some (.int (Int32.ofInt (w))), some (.int (Int32.ofInt (x)))] [] hh := by
          intro m
          induction m using Nat.strongRecOn with
          | _ m ihL47 =>
          intro x hh t Fhh frhh q82hh q85hh q84hh hx ht hmz
          refine mh_iload4 (pc := 47) F dX12_then_47 ?_
          obtain ⟨zHI, ha0, ha3⟩ := sp_aqs_all hi x.toNat (by omega)
          rw [← ht] at zHI ha0 ha3
          refine mh_iload1 (pc := 49) F dX12_then_49 ?_
          refine mh_icmp_ge (pc := 50) (tgt := 63) F dX12_then_50 rfl (by omega) (by omega) (fun c_50 => ?_) (fun c_50 => ?_)
          · have zHC := zHI.2.2.2.2.1 k (by omega) (by omega)
            refine mh_aload0 (pc := 63) F dX12_then_63 ?_
            refine mh_iload2 (pc := 64) F dX12_then_64 ?_
            refine mh_iload3 (pc := 65) F dX12_then_65 ?_
            refine mh_callVp (pc := 66) (As := [.int (Int32.ofInt (k)), .int (Int32.ofInt (w))]) (st := []) F (by omega) (k_told (by omega) Fhh q82hh (by omega) zHC (by omega)) wv_RX12_151_yX12_told dX12_then_66 sh_81 rfl (by decide) rfl rfl (Nat.le_of_ble_eq_true rfl) ⟨Nat.zero_le _, Nat.zero_le _⟩ ?_
            refine mh_istore4 (pc := 69) F dX12_then_69 rfl (by decide) ?_
            refine mh_aload0 (pc := 71) F dX12_then_71 ?_
            refine mh_callV0 (pc := 72) (As := []) (st := []) F (by omega) (k_laysBack (by omega) Fhh q84hh q82hh ) wv_RX12_280_yX12_laysBack dX12_then_72 sh_81 rfl (by decide) rfl rfl (Nat.le_of_ble_eq_true rfl) ⟨Nat.zero_le _, Nat.zero_le _⟩ (fun r7 h7 q7 => ?_)
            obtain ⟨rfl, F7, fr7, q7_0⟩ := q7
            have r85_8 : h7 85 = er := (fr7 _ (by decide)).trans q85hh
            have r84_8 : h7 84 = mh_cp 267 s z := (fr7 _ (by decide)).trans q84hh
            have fr8 : mh_fr [84, 82, 86, 87] h h7 := (mh_fr.tr frhh fr7).mono (by simp)
            rw [mh_cp_back (fun i hi2 => by rw [ht]; exact (sp_aqs_far s hm x.toNat i hi2).1)] at q7_0
            refine mh_iload4 (pc := 75) F dX12_then_75 ?_
            exact mh_ireturn F Z dX12_then_77 ⟨_, _, _, (by unfold sp_thenP; (repeat' split) <;> first | rfl | (exfalso; omega) | (rw [show n = x by omega, ← ht]; done)), rfl, F7, (fr8.mono (by simp)), q7_0, r85_8⟩
          · refine mh_aload0 (pc := 53) F dX12_then_53 ?_
            refine mh_callV0 (pc := 54) (As := []) (st := []) F (by omega) (k_aQuarter (by omega) Fhh q82hh zHI) wv_RX12_265_yX12_aQuarter dX12_then_54 sh_81 rfl (by decide) rfl rfl (Nat.le_of_ble_eq_true rfl) ⟨Nat.zero_le _, Nat.zero_le _⟩ (fun r9 h9 q9 => ?_)
            obtain ⟨rfl, F9, fr9, q9_0⟩ := q9
            have r85_10 : h9 85 = er := (fr9 _ (by decide)).trans q85hh
            have r84_10 : h9 84 = mh_cp 267 s z := (fr9 _ (by decide)).trans q84hh
            have fr10 : mh_fr [84, 82, 86, 87] h h9 := (mh_fr.tr frhh fr9).mono (by simp)
            refine mh_iinc4 (pc := 57) F dX12_then_57 rfl (by decide) ?_
            refine mh_goto (pc := 60) (tgt := 47) F dX12_then_60 rfl ?_
            exact ihL47 _ (by omega) (x + 1) h9 (sp_aq t) F9 (fr10.mono (by simp)) q9_0 r85_10 r84_10 (by omega) (by rw [sp_aqs_at _ hx.1, ← ht]) rfl
        exact L47 _ 0 h5 s F5 (fr6.mono (by simp)) r82_6 r85_6 q5_0 (by omega) rfl rfl
      · refine mh_aload0 (pc := 34) F dX12_then_34 ?_
        refine mh_iconst (pc := 35) F dX12_then_35 ?_
        refine mh_callV0 (pc := 36) (As := [.int (Int32.ofInt (1))]) (st := []) F (by omega) (k_error (by omega) hF r85 (by omega)) wv_RX12_114_yX12_error dX12_then_36 sh_81 rfl (by decide) rfl rfl (Nat.le_of_ble_eq_true rfl) ⟨Nat.zero_le _, Nat.zero_le _⟩ (fun r11 h11 q11 => ?_)
        obtain ⟨rfl, F11, fr11, q11_0⟩ := q11
        have r82_12 : h11 82 = s := (fr11 _ (by decide)).trans r82
        have r84_12 : h11 84 = z := (fr11 _ (by decide)).trans r84
        have fr12 : mh_fr [85] h h11 := (mh_fr.tr mh_fr.rf fr11).mono (by simp)
        exact mh_ireturn F Z dX12_then_39 ⟨_, _, _, (by unfold sp_thenP; (repeat' split) <;> first | rfl | (exfalso; omega)), rfl, F11, (fr12.mono (by simp)), r82_12, q11_0⟩

theorem sp_aqs_wt (s : Int → Int) (hm : 0 ≤ s 3 ∧ s 3 ≤ 6) (n : Nat) (i : Int) (h0 : i ≠ 0) (h1 : i ≠ 1) (hi : i < 41 ∨ 95 ≤ i) : sp_aqs s n i = s i := by
  induction n with
  | zero => rfl
  | succ n ih => exact (sp_aq_out (by rw [(sp_aqs_far s hm n 300 (by decide)).2]; exact hm) i h0 h1 hi).trans ih
def sp_tell (x : Int) (s er : Int → Int) : Int × (Int → Int) × (Int → Int) :=
  if s 5 = 20 then sp_er s er 4 else (s 5 + 1, mh_ur (mh_ur s (247 + s 5) x) 5 (s 5 + 1), er)
def sp_seed (x : Int) (s er : Int → Int) : Int × (Int → Int) × (Int → Int) := (s 2, mh_ur s 2 x, er)
def sp_sum (s : Int → Int) : Nat → Int
  | 0 => 0
  | k + 1 => sp_sum s k + s (41 + 9 * (k : Int) + 5)
theorem sp_sum_at (s : Int → Int) {k : Int} (h : 0 ≤ k) : sp_sum s (k + 1).toNat = sp_sum s k.toNat + s (41 + 9 * k + 5) := by
  rw [show (k + 1).toNat = k.toNat + 1 by omega]
  show _ + s (41 + 9 * (k.toNat : Int) + 5) = _
  rw [Int.toNat_of_nonneg h]
theorem sp_sum_rg {s : Int → Int} (h : ∀ j, 0 ≤ j → j < 6 → 0 ≤ s (41 + 9 * j + 5) ∧ s (41 + 9 * j + 5) ≤ 9999) (n : Nat) (hn : n ≤ 6) : 0 ≤ sp_sum s n ∧ sp_sum s n ≤ 9999 * n := by
  induction n with
  | zero => exact ⟨Int.le_refl _, Int.le_refl _⟩
  | succ n ih =>
    have h1 := ih (by omega)
    have h2 := h n (by omega) (by omega)
    show 0 ≤ _ + _ ∧ _ + _ ≤ _
    omega
def sp_all (s : Int → Int) : Int := sp_sum s (s 3).toNat
def sp_chk (s : Int → Int) : Nat → Int
  | 0 => -1
  | k + 1 => if 0 ≤ sp_chk s k then sp_chk s k else if s (247 + (k : Int)) = sp_all (sp_aqs s (k + 1)) then -1 else (k : Int)
theorem sp_chk_at (s : Int → Int) {k : Int} (h : 0 ≤ k) (hn : ¬ 0 ≤ sp_chk s k.toNat) : sp_chk s (k + 1).toNat = if s (247 + k) = sp_all (sp_aq (sp_aqs s k.toNat)) then -1 else k := by
  rw [show (k + 1).toNat = k.toNat + 1 by omega]
  show (if _ then _ else if s (247 + (k.toNat : Int)) = sp_all (sp_aqs s (k.toNat + 1)) then (-1 : Int) else (k.toNat : Int)) = _
  rw [if_neg hn, Int.toNat_of_nonneg h]; rfl
theorem sp_chk_stay (s : Int → Int) (k n : Nat) (h : 0 ≤ sp_chk s k) : sp_chk s (k + n) = sp_chk s k := by
  induction n with
  | zero => rfl
  | succ n ih =>
    show sp_chk s (k + n + 1) = _
    show (if _ then _ else _) = _
    rw [ih, if_pos h]
theorem sp_chk_rg (s : Int → Int) (k : Nat) : -1 ≤ sp_chk s k ∧ sp_chk s k < k + 1 := by
  induction k with
  | zero => exact ⟨Int.le_refl _, (by decide : (-1 : Int) < 0 + 1)⟩
  | succ k ih =>
    show -1 ≤ (if _ then _ else _) ∧ (if _ then _ else _) < _
    split
    · omega
    · split <;> omega
def sp_checkP (s er : Int → Int) : Int × (Int → Int) × (Int → Int) := (sp_chk s (s 5).toNat + 1, mh_ur s 5 0, er)
def sp_toldP (x : Int) (s er : Int → Int) : Int × (Int → Int) × (Int → Int) := if ¬ (1 ≤ x ∧ x ≤ 5) then sp_er s er 1 else (er x, s, er)
def sp_hows (s : Int → Int) (x : Int) : Int := sp_cnt (fun j => decide (s (41 + 9 * j + 3) = x)) (s 3).toNat
def sp_sweets (s : Int → Int) : Int := sp_cnt (fun j => decide (sp_stm s j = 0)) (s 3).toNat
def sp_count (x : Int) (s er o : Int → Int) : Int × (Int → Int) × (Int → Int) :=
  if x = 0 then (s 3, s, er) else if x = 1 then (s 0, s, er) else if x = 2 then (s 1, s, er) else if x = 3 then (sp_hows s 3, s, er) else if x = 4 then (sp_hows s 2, s, er) else if x = 5 then (sp_sweets s, s, er) else if x = 6 then (s 4, s, er) else if x = 7 then (s 5, s, er) else if x = 8 then (o 22, s, er) else if x = 9 then (s 2, s, er) else sp_er s er 1
theorem sp_stm_rg (s : Int → Int) (k : Int) : 0 ≤ sp_stm s k ∧ sp_stm s k ≤ 3 := by unfold sp_stm sp_st; (repeat' split) <;> omega
set_option maxRecDepth 100000 in
set_option maxHeartbeats 4000000 in
theorem p_tell {g : mh_G} {d : Nat} (hd : 9 ≤ d) {h : Nat → Int → Int} (hF : mh_FX h) {s : Int → Int} (r82 : h 82 = s) {er : Int → Int} (r85 : h 85 = er) {x : Int} (hx : -2147483648 ≤ x ∧ x < 2147483648) (h5 : 0 ≤ s 5 ∧ s 5 ≤ 20) (hi : sp_inv s) : mh_M g d yX12_tell cX12_tell 2 (some .int) 96 0 0 [.ref 81, .int (Int32.ofInt (x))] h (fun r h2 => ∃ (vv : Int) (tt ee : Int → Int), (vv, tt, ee) = sp_tell x s er ∧ r = some (.int (Int32.ofInt vv)) ∧ mh_FX h2 ∧ mh_fr [82, 85, 86, 87] h h2 ∧ h2 82 = tt ∧ h2 85 = ee) := by
  refine mh_M_of RX12 rfl (by decide +kernel) [some (.ref 81), some (.int (Int32.ofInt (x)))] rfl (Nat.le_of_ble_eq_true rfl) (fun f F Z hn0 hR => ?_)
  have hib := sp_inv_b hi
  have hm := hi.1
  have hq0 := hi.2.1
  have hws := hi.2.2.2.2.2
  obtain ⟨hH, hC⟩ := hi.2.2.2.1
  have hs1 := hi.2.2.1
  refine mh_aload0 (pc := 0) F dX12_tell_0 ?_
  refine mh_getr (b := 82) (pc := 1) F sh_81 (by decide) fw_RX12_9_12 dX12_tell_1 rfl (fx_81_0 hF) ?_
  refine mh_iconst (pc := 4) F dX12_tell_4 ?_
  refine mh_ialoadr (pc := 5) F sh_82 (by decide) (by omega) dX12_tell_5 r82 ?_
  refine mh_bipush (pc := 6) F dX12_tell_6 rfl ?_
  refine mh_icmp_ne (pc := 8) (tgt := 17) F dX12_tell_8 rfl (by omega) (by omega) (fun c_8 => ?_) (fun c_8 => ?_)
  · refine mh_aload0 (pc := 17) F dX12_tell_17 ?_
    refine mh_getr (b := 82) (pc := 18) F sh_81 (by decide) fw_RX12_9_12 dX12_tell_18 rfl (fx_81_0 hF) ?_
    refine mh_sipush (pc := 21) F dX12_tell_21 rfl ?_
    refine mh_aload0 (pc := 24) F dX12_tell_24 ?_
    refine mh_getr (b := 82) (pc := 25) F sh_81 (by decide) fw_RX12_9_12 dX12_tell_25 rfl (fx_81_0 hF) ?_
    refine mh_iconst (pc := 28) F dX12_tell_28 ?_
    refine mh_ialoadr (pc := 29) F sh_82 (by decide) (by omega) dX12_tell_29 r82 ?_
    refine mh_iadd (pc := 30) F dX12_tell_30 ?_
    refine mh_iload1 (pc := 31) F dX12_tell_31 ?_
    refine mh_iastore (pc := 32) F sh_82 (by decide) (by omega) dX12_tell_32 ?_
    refine mh_nmh (fun h1 e1 => ?_)
    have F1 : mh_FX h1 := by rw [e1]; exact hF.upa rfl
    have r82_1 : h1 82 = mh_ur s (247 + (s 5)) x := by rw [e1, mh_up_rs, r82]
    obtain ⟨s1, es1⟩ : ∃ z : Int → Int, z = mh_ur s (247 + (s 5)) x := ⟨_, rfl⟩
    rw [← es1] at r82_1
    have r85_1 : h1 85 = er := by rw [e1, mh_up_row (by decide)]; exact r85
    have fr1 : mh_fr [82] h h1 := mh_fr.up mh_fr.rf e1
    have s15 : s1 5 = s 5 := by rw [es1]; exact mh_ur_ne (by omega)
    refine mh_aload0 (pc := 33) F dX12_tell_33 ?_
    refine mh_getr (b := 82) (pc := 34) F sh_81 (by decide) fw_RX12_9_12 dX12_tell_34 rfl (fx_81_0 F1) ?_
    refine mh_iconst (pc := 37) F dX12_tell_37 ?_
    refine mh_dup2 (pc := 38) F dX12_tell_38 rfl rfl ?_
    refine mh_ialoadr (pc := 39) F sh_82 (by decide) (by omega) dX12_tell_39 r82_1 ?_
    refine mh_iconst (pc := 40) F dX12_tell_40 ?_
    refine mh_iadd (pc := 41) F dX12_tell_41 ?_
    refine mh_iastore (pc := 42) F sh_82 (by decide) (by omega) dX12_tell_42 ?_
    refine mh_nmh (fun h2 e2 => ?_)
    have F2 : mh_FX h2 := by rw [e2]; exact F1.upa rfl
    have r82_2 : h2 82 = mh_ur s1 5 ((s1 5) + 1) := by rw [e2, mh_up_rs, r82_1]
    obtain ⟨s2, es2⟩ : ∃ z : Int → Int, z = mh_ur s1 5 ((s1 5) + 1) := ⟨_, rfl⟩
    rw [← es2] at r82_2
    have r85_2 : h2 85 = er := by rw [e2, mh_up_row (by decide)]; exact r85_1
    have fr2 : mh_fr [82] h h2 := mh_fr.upi fr1 e2 (by simp)
    have s25 : s2 5 = s 5 + 1 := by rw [es2, mh_ur_eq rfl, s15]
    refine mh_aload0 (pc := 43) F dX12_tell_43 ?_
    refine mh_getr (b := 82) (pc := 44) F sh_81 (by decide) fw_RX12_9_12 dX12_tell_44 rfl (fx_81_0 F2) ?_
    refine mh_iconst (pc := 47) F dX12_tell_47 ?_
    refine mh_ialoadr (pc := 48) F sh_82 (by decide) (by omega) dX12_tell_48 r82_2 ?_
    exact mh_ireturn F Z dX12_tell_49 ⟨_, _, _, (by unfold sp_tell; (repeat' split) <;> first | rfl | (exfalso; omega) | (rw [s25, es2, s15, es1])), rfl, F2, (fr2.mono (by simp)), r82_2, r85_2⟩
  · refine mh_aload0 (pc := 11) F dX12_tell_11 ?_
    refine mh_iconst (pc := 12) F dX12_tell_12 ?_
    refine mh_callV0 (pc := 13) (As := [.int (Int32.ofInt (4))]) (st := []) F (by omega) (k_error (by omega) hF r85 (by omega)) wv_RX12_114_yX12_error dX12_tell_13 sh_81 rfl (by decide) rfl rfl (Nat.le_of_ble_eq_true rfl) ⟨Nat.zero_le _, Nat.zero_le _⟩ (fun r3 h3 q3 => ?_)
    obtain ⟨rfl, F3, fr3, q3_0⟩ := q3
    have r82_4 : h3 82 = s := (fr3 _ (by decide)).trans r82
    have fr4 : mh_fr [85] h h3 := (mh_fr.tr mh_fr.rf fr3).mono (by simp)
    exact mh_ireturn F Z dX12_tell_16 ⟨_, _, _, (by unfold sp_tell; (repeat' split) <;> first | rfl | (exfalso; omega)), rfl, F3, (fr4.mono (by simp)), r82_4, q3_0⟩

set_option maxRecDepth 100000 in
set_option maxHeartbeats 4000000 in
theorem p_seed {g : mh_G} {d : Nat} (hd : 9 ≤ d) {h : Nat → Int → Int} (hF : mh_FX h) {s : Int → Int} (r82 : h 82 = s) {er : Int → Int} (r85 : h 85 = er) {x : Int} (hx : -2147483648 ≤ x ∧ x < 2147483648) (hi : sp_inv s) : mh_M g d yX12_seed cX12_seed 3 (some .int) 96 0 0 [.ref 81, .int (Int32.ofInt (x))] h (fun r h2 => ∃ (vv : Int) (tt ee : Int → Int), (vv, tt, ee) = sp_seed x s er ∧ r = some (.int (Int32.ofInt vv)) ∧ mh_FX h2 ∧ mh_fr [82, 85, 86, 87] h h2 ∧ h2 82 = tt ∧ h2 85 = ee) := by
  refine mh_M_of RX12 rfl (by decide +kernel) [some (.ref 81), some (.int (Int32.ofInt (x))), none] rfl (Nat.le_of_ble_eq_true rfl) (fun f F Z hn0 hR => ?_)
  have hib := sp_inv_b hi
  have hm := hi.1
  have hq0 := hi.2.1
  have hws := hi.2.2.2.2.2
  obtain ⟨hH, hC⟩ := hi.2.2.2.1
  have hs1 := hi.2.2.1
  refine mh_aload0 (pc := 0) F dX12_seed_0 ?_
  refine mh_getr (b := 82) (pc := 1) F sh_81 (by decide) fw_RX12_9_12 dX12_seed_1 rfl (fx_81_0 hF) ?_
  refine mh_iconst (pc := 4) F dX12_seed_4 ?_
  refine mh_ialoadr (pc := 5) F sh_82 (by decide) (by omega) dX12_seed_5 r82 ?_
  refine mh_istore2 (pc := 6) F dX12_seed_6 rfl (by decide) ?_
  refine mh_aload0 (pc := 7) F dX12_seed_7 ?_
  refine mh_getr (b := 82) (pc := 8) F sh_81 (by decide) fw_RX12_9_12 dX12_seed_8 rfl (fx_81_0 hF) ?_
  refine mh_iconst (pc := 11) F dX12_seed_11 ?_
  refine mh_iload1 (pc := 12) F dX12_seed_12 ?_
  refine mh_iastore (pc := 13) F sh_82 (by decide) (by omega) dX12_seed_13 ?_
  refine mh_nmh (fun h1 e1 => ?_)
  have F1 : mh_FX h1 := by rw [e1]; exact hF.upa rfl
  have r82_1 : h1 82 = mh_ur s 2 x := by rw [e1, mh_up_rs, r82]
  have r85_1 : h1 85 = er := by rw [e1, mh_up_row (by decide)]; exact r85
  have fr1 : mh_fr [82] h h1 := mh_fr.up mh_fr.rf e1
  refine mh_iload2 (pc := 14) F dX12_seed_14 ?_
  exact mh_ireturn F Z dX12_seed_15 ⟨_, _, _, (by unfold sp_seed; (repeat' split) <;> first | rfl | (exfalso; omega)), rfl, F1, (fr1.mono (by simp)), r82_1, r85_1⟩

set_option maxRecDepth 100000 in
set_option maxHeartbeats 4000000 in
theorem k_allSour {g : mh_G} {d : Nat} (hd : 2 ≤ d) {h : Nat → Int → Int} (hF : mh_FX h) {s : Int → Int} (r82 : h 82 = s)  (hm : 0 ≤ s 3 ∧ s 3 ≤ 6) : mh_MP g d yX12_allSour cX12_allSour 3 (some .int) 96 [.ref 81] h (some (.int (Int32.ofInt (sp_all s)))) := by
  refine mh_M_of RX12 rfl (by decide +kernel) [some (.ref 81), none, none] rfl (Nat.le_of_ble_eq_true rfl) (fun f F Z hn0 hR => ?_)
  refine mh_iconst (pc := 0) F dX12_allSour_0 ?_
  refine mh_istore1 (pc := 1) F dX12_allSour_1 rfl (by decide) ?_
  refine mh_iconst (pc := 2) F dX12_allSour_2 ?_
  refine mh_istore2 (pc := 3) F dX12_allSour_3 rfl (by decide) ?_
  have L4 : ∀ (m : Nat) (q : Int) (k : Int), (0 ≤ k ∧ k ≤ s 3) → (q = sp_sum s k.toNat) → (s 3 - k).toNat = m → mh_V g f 3 96 0 0 4 [some (.ref 81), some (.int (Int32.ofInt (q))), some (.int (Int32.ofInt (k)))] [] h := by
    intro m
    induction m using Nat.strongRecOn with
    | _ m ihL4 =>
    intro q k hk hn hmz
    refine mh_iload2 (pc := 4) F dX12_allSour_4 ?_
    refine mh_aload0 (pc := 5) F dX12_allSour_5 ?_
    refine mh_getr (b := 82) (pc := 6) F sh_81 (by decide) fw_RX12_9_12 dX12_allSour_6 rfl (fx_81_0 hF) ?_
    refine mh_iconst (pc := 9) F dX12_allSour_9 ?_
    refine mh_ialoadr (pc := 10) F sh_82 (by decide) (by omega) dX12_allSour_10 r82 ?_
    refine mh_icmp_ge (pc := 11) (tgt := 29) F dX12_allSour_11 rfl (by omega) (by omega) (fun c_11 => ?_) (fun c_11 => ?_)
    · refine mh_iload1 (pc := 29) F dX12_allSour_29 ?_
      exact mh_ireturnp F Z dX12_allSour_30 (by unfold sp_all; rw [hn, show k = s 3 by omega]) rfl
    · refine mh_iload1 (pc := 14) F dX12_allSour_14 ?_
      refine mh_aload0 (pc := 15) F dX12_allSour_15 ?_
      refine mh_iload2 (pc := 16) F dX12_allSour_16 ?_
      refine mh_iconst (pc := 17) F dX12_allSour_17 ?_
      refine mh_callVp (pc := 18) (As := [.int (Int32.ofInt (k)), .int (Int32.ofInt (5))]) (st := [.int (Int32.ofInt (q))]) F (by omega) (k_its (by omega) hF r82 (by omega) (by omega)) wv_RX12_79_yX12_its dX12_allSour_18 sh_81 rfl (by decide) rfl rfl (Nat.le_of_ble_eq_true rfl) ⟨Nat.zero_le _, Nat.zero_le _⟩ ?_
      refine mh_iadd (pc := 21) F dX12_allSour_21 ?_
      refine mh_istore1 (pc := 22) F dX12_allSour_22 rfl (by decide) ?_
      refine mh_iinc2 (pc := 23) F dX12_allSour_23 rfl (by decide) ?_
      refine mh_goto (pc := 26) (tgt := 4) F dX12_allSour_26 rfl ?_
      exact ihL4 _ (by omega) (q + (s (41 + 9 * k + 5))) (k + 1) (by omega) (by rw [sp_sum_at _ hk.1, ← hn]) rfl
  exact L4 _ 0 0 (by omega) rfl rfl

set_option maxRecDepth 100000 in
set_option maxHeartbeats 4000000 in
theorem k_howMany {g : mh_G} {d : Nat} (hd : 2 ≤ d) {h : Nat → Int → Int} (hF : mh_FX h) {s : Int → Int} (r82 : h 82 = s) {x : Int} (hm : 0 ≤ s 3 ∧ s 3 ≤ 6) (hcc : ∀ k, 0 ≤ k → k < 6 → sp_cok (sp_row s k)) (hx : -2147483648 ≤ x ∧ x < 2147483648) : mh_MP g d yX12_howMany cX12_howMany 4 (some .int) 96 [.ref 81, .int (Int32.ofInt (x))] h (some (.int (Int32.ofInt (sp_hows s x)))) := by
  refine mh_M_of RX12 rfl (by decide +kernel) [some (.ref 81), some (.int (Int32.ofInt (x))), none, none] rfl (Nat.le_of_ble_eq_true rfl) (fun f F Z hn0 hR => ?_)
  refine mh_iconst (pc := 0) F dX12_howMany_0 ?_
  refine mh_istore2 (pc := 1) F dX12_howMany_1 rfl (by decide) ?_
  refine mh_iconst (pc := 2) F dX12_howMany_2 ?_
  refine mh_istore3 (pc := 3) F dX12_howMany_3 rfl (by decide) ?_
  have L4 : ∀ (m : Nat) (q : Int) (k : Int), (0 ≤ k ∧ k ≤ s 3) → (q = sp_cnt (fun j => decide (s (41 + 9 * j + 3) = x)) k.toNat) → (s 3 - k).toNat = m → mh_V g f 4 96 0 0 4 [some (.ref 81), some (.int (Int32.ofInt (x))), some (.int (Int32.ofInt (q))), some (.int (Int32.ofInt (k)))] [] h := by
    intro m
    induction m using Nat.strongRecOn with
    | _ m ihL4 =>
    intro q k hk hn hmz
    refine mh_iload3 (pc := 4) F dX12_howMany_4 ?_
    refine mh_aload0 (pc := 5) F dX12_howMany_5 ?_
    refine mh_getr (b := 82) (pc := 6) F sh_81 (by decide) fw_RX12_9_12 dX12_howMany_6 rfl (fx_81_0 hF) ?_
    refine mh_iconst (pc := 9) F dX12_howMany_9 ?_
    refine mh_ialoadr (pc := 10) F sh_82 (by decide) (by omega) dX12_howMany_10 r82 ?_
    refine mh_icmp_ge (pc := 11) (tgt := 38) F dX12_howMany_11 rfl (by omega) (by omega) (fun c_11 => ?_) (fun c_11 => ?_)
    · refine mh_iload2 (pc := 38) F dX12_howMany_38 ?_
      exact mh_ireturnp F Z dX12_howMany_39 (by unfold sp_hows; rw [hn, show k = s 3 by omega]) rfl
    · have zHC := hcc k (by omega) (by omega)
      have zHC2 := zHC
      obtain ⟨c0, c1, c2, c3, c4, c5, c6, c7, c8, c9, c10, c11, c12, c13⟩ := zHC2
      unfold sp_row at c0 c1 c2 c3 c4 c5 c6 c7 c8 c9 c10 c11 c12 c13
      have hcn := sp_cnt_rg (fun j => decide (s (41 + 9 * j + 3) = x)) k.toNat
      refine mh_iload2 (pc := 14) F dX12_howMany_14 ?_
      refine mh_aload0 (pc := 15) F dX12_howMany_15 ?_
      refine mh_iload3 (pc := 16) F dX12_howMany_16 ?_
      refine mh_iconst (pc := 17) F dX12_howMany_17 ?_
      refine mh_callVp (pc := 18) (As := [.int (Int32.ofInt (k)), .int (Int32.ofInt (3))]) (st := [.int (Int32.ofInt (q))]) F (by omega) (k_its (by omega) hF r82 (by omega) (by omega)) wv_RX12_79_yX12_its dX12_howMany_18 sh_81 rfl (by decide) rfl rfl (Nat.le_of_ble_eq_true rfl) ⟨Nat.zero_le _, Nat.zero_le _⟩ ?_
      refine mh_iload1 (pc := 21) F dX12_howMany_21 ?_
      refine mh_icmp_ne (pc := 22) (tgt := 29) F dX12_howMany_22 rfl (by omega) (by omega) (fun c_22 => ?_) (fun c_22 => ?_)
      · refine mh_iconst (pc := 29) F dX12_howMany_29 ?_
        refine mh_iadd (pc := 30) F dX12_howMany_30 ?_
        refine mh_istore2 (pc := 31) F dX12_howMany_31 rfl (by decide) ?_
        refine mh_iinc3 (pc := 32) F dX12_howMany_32 rfl (by decide) ?_
        refine mh_goto (pc := 35) (tgt := 4) F dX12_howMany_35 rfl ?_
        exact ihL4 _ (by omega) (q + 0) (k + 1) (by omega) (by rw [sp_cnt_at _ hk.1, hn]; grind) rfl
      · refine mh_iconst (pc := 25) F dX12_howMany_25 ?_
        refine mh_goto (pc := 26) (tgt := 30) F dX12_howMany_26 rfl ?_
        refine mh_iadd (pc := 30) F dX12_howMany_30 ?_
        refine mh_istore2 (pc := 31) F dX12_howMany_31 rfl (by decide) ?_
        refine mh_iinc3 (pc := 32) F dX12_howMany_32 rfl (by decide) ?_
        refine mh_goto (pc := 35) (tgt := 4) F dX12_howMany_35 rfl ?_
        exact ihL4 _ (by omega) (q + 1) (k + 1) (by omega) (by rw [sp_cnt_at _ hk.1, hn]; grind) rfl
  exact L4 _ 0 0 (by omega) rfl rfl

set_option maxRecDepth 100000 in
set_option maxHeartbeats 4000000 in
theorem k_sweet {g : mh_G} {d : Nat} (hd : 4 ≤ d) {h : Nat → Int → Int} (hF : mh_FX h) {s : Int → Int} (r82 : h 82 = s)  (hm : 0 ≤ s 3 ∧ s 3 ≤ 6) (hcc : ∀ k, 0 ≤ k → k < 6 → sp_cok (sp_row s k)) : mh_MP g d yX12_sweet cX12_sweet 3 (some .int) 96 [.ref 81] h (some (.int (Int32.ofInt (sp_sweets s)))) := by
  refine mh_M_of RX12 rfl (by decide +kernel) [some (.ref 81), none, none] rfl (Nat.le_of_ble_eq_true rfl) (fun f F Z hn0 hR => ?_)
  refine mh_iconst (pc := 0) F dX12_sweet_0 ?_
  refine mh_istore1 (pc := 1) F dX12_sweet_1 rfl (by decide) ?_
  refine mh_iconst (pc := 2) F dX12_sweet_2 ?_
  refine mh_istore2 (pc := 3) F dX12_sweet_3 rfl (by decide) ?_
  have L4 : ∀ (m : Nat) (q : Int) (k : Int), (0 ≤ k ∧ k ≤ s 3) → (q = sp_cnt (fun j => decide (sp_stm s j = 0)) k.toNat) → (s 3 - k).toNat = m → mh_V g f 3 96 0 0 4 [some (.ref 81), some (.int (Int32.ofInt (q))), some (.int (Int32.ofInt (k)))] [] h := by
    intro m
    induction m using Nat.strongRecOn with
    | _ m ihL4 =>
    intro q k hk hn hmz
    refine mh_iload2 (pc := 4) F dX12_sweet_4 ?_
    refine mh_aload0 (pc := 5) F dX12_sweet_5 ?_
    refine mh_getr (b := 82) (pc := 6) F sh_81 (by decide) fw_RX12_9_12 dX12_sweet_6 rfl (fx_81_0 hF) ?_
    refine mh_iconst (pc := 9) F dX12_sweet_9 ?_
    refine mh_ialoadr (pc := 10) F sh_82 (by decide) (by omega) dX12_sweet_10 r82 ?_
    refine mh_icmp_ge (pc := 11) (tgt := 36) F dX12_sweet_11 rfl (by omega) (by omega) (fun c_11 => ?_) (fun c_11 => ?_)
    · refine mh_iload1 (pc := 36) F dX12_sweet_36 ?_
      exact mh_ireturnp F Z dX12_sweet_37 (by unfold sp_sweets; rw [hn, show k = s 3 by omega]) rfl
    · have zHC := hcc k (by omega) (by omega)
      have zHC2 := zHC
      obtain ⟨c0, c1, c2, c3, c4, c5, c6, c7, c8, c9, c10, c11, c12, c13⟩ := zHC2
      unfold sp_row at c0 c1 c2 c3 c4 c5 c6 c7 c8 c9 c10 c11 c12 c13
      have hcn := sp_cnt_rg (fun j => decide (sp_stm s j = 0)) k.toNat
      have hst := sp_stm_rg s k
      refine mh_iload1 (pc := 14) F dX12_sweet_14 ?_
      refine mh_aload0 (pc := 15) F dX12_sweet_15 ?_
      refine mh_iload2 (pc := 16) F dX12_sweet_16 ?_
      refine mh_callVp (pc := 17) (As := [.int (Int32.ofInt (k))]) (st := [.int (Int32.ofInt (q))]) F (by omega) (k_stateOf (by omega) hF r82 (by omega) (by omega) (by omega) (by omega) (by omega) (by omega)) wv_RX12_154_yX12_stateOf dX12_sweet_17 sh_81 rfl (by decide) rfl rfl (Nat.le_of_ble_eq_true rfl) ⟨Nat.zero_le _, Nat.zero_le _⟩ ?_
      refine mh_if_ne (pc := 20) (tgt := 27) F dX12_sweet_20 rfl (by omega) (fun c_20 => ?_) (fun c_20 => ?_)
      · refine mh_iconst (pc := 27) F dX12_sweet_27 ?_
        refine mh_iadd (pc := 28) F dX12_sweet_28 ?_
        refine mh_istore1 (pc := 29) F dX12_sweet_29 rfl (by decide) ?_
        refine mh_iinc2 (pc := 30) F dX12_sweet_30 rfl (by decide) ?_
        refine mh_goto (pc := 33) (tgt := 4) F dX12_sweet_33 rfl ?_
        exact ihL4 _ (by omega) (q + 0) (k + 1) (by omega) (by rw [sp_cnt_at _ hk.1, hn]; grind) rfl
      · refine mh_iconst (pc := 23) F dX12_sweet_23 ?_
        refine mh_goto (pc := 24) (tgt := 28) F dX12_sweet_24 rfl ?_
        refine mh_iadd (pc := 28) F dX12_sweet_28 ?_
        refine mh_istore1 (pc := 29) F dX12_sweet_29 rfl (by decide) ?_
        refine mh_iinc2 (pc := 30) F dX12_sweet_30 rfl (by decide) ?_
        refine mh_goto (pc := 33) (tgt := 4) F dX12_sweet_33 rfl ?_
        exact ihL4 _ (by omega) (q + 1) (k + 1) (by omega) (by rw [sp_cnt_at _ hk.1, hn]; grind) rfl
  exact L4 _ 0 0 (by omega) rfl rfl

