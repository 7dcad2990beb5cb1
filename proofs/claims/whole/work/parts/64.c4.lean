/-! the class's world, as the model's row has it -/
def sc_df (u k : Int) : Int := if u = 0 then (if k = 0 then -1 else if k = 1 then 4 else -147) else (if k = 0 then -1 else if k = 1 then 0 else if k = 2 then -161 else if k = 3 then 50 else if k = 4 then -142 else if k = 5 then -1 else if k = 6 then 1 else if k = 7 then -161 else if k = 8 then 30 else if k = 9 then -142 else -143)
def sc_T (tx cd s : Int → Int) (u : Int) : Prop := tx 1 = (if u = 0 then 40 else 999) ∧ sp_wf (sc_dc cd) (tx 3) ∧ 0 < tx 3 ∧ sc_cv cd (tx 3) ∧ ((0 < s (95 + u) ∧ tx 3 = s (95 + u) ∧ ∀ k, 0 ≤ k → k < tx 3 → sc_de (cd k) = s (97 + 50 * u + k)) ∨ (s (95 + u) ≤ 0 ∧ tx 3 = (if u = 0 then 3 else 11) ∧ ∀ k, 0 ≤ k → k < tx 3 → sc_de (cd k) = sc_df u k))
theorem sc_run_c {nm : Int → Int} {c1 c2 : Nat → Int} {p : Int × (Int → Int)} (n : Nat) (h : ∀ k, k < n → c1 k = c2 k) : sp_run nm c1 n p = sp_run nm c2 n p := by
  induction n with
  | zero => rfl
  | succ n ih => unfold sp_run; rw [ih (fun k hk => h k (by omega)), h n (by omega)]
theorem sc_val0 (a b c : Int) : sp_val (fun k => sc_df 0 (k : Int)) 3 a b c = sp_wr (a.tdiv 4) := rfl
theorem sc_val1 (a b c : Int) : sp_val (fun k => sc_df 1 (k : Int)) 11 a b c = sp_wr (sp_wr (mh_B (a = 0) * 50) + sp_wr (mh_B (a = 1) * 30)) := rfl
theorem sc_T_law {tx cd s : Int → Int} {u a b c : Int} (h : sc_T tx cd s u) (hu : u = 0 ∨ u = 1) (ha : -2147483648 ≤ a ∧ a < 2147483648) : sp_held (sp_val (sc_dc cd) (tx 3) a b c) 0 (tx 1) = sp_law s u a b c := by
  obtain ⟨h1, h2, h3, h4, h5⟩ := h
  rcases h5 with ⟨g1, g2, g3⟩ | ⟨g1, g2, g3⟩
  · have e : sp_val (sc_dc cd) (tx 3) a b c = sp_val (sp_code s u) (s (95 + u)) a b c := by
      unfold sp_val
      rw [← g2, sc_run_c (c1 := sc_dc cd) (c2 := sp_code s u) (tx 3).toNat (fun k hk => g3 (k : Int) (by omega) (by omega))]
    rw [e, h1]
    unfold sp_law
    rcases hu with z | z
    · subst z; rw [show (95 : Int) + 0 = 95 from rfl] at g1 ⊢; rw [if_pos rfl, if_pos rfl, if_pos g1]
    · subst z; rw [show (95 : Int) + 1 = 96 from rfl] at g1 ⊢; rw [if_neg (by decide), if_neg (by decide), if_pos g1]
  · have e : sp_val (sc_dc cd) (tx 3) a b c = sp_val (fun k => sc_df u (k : Int)) (if u = 0 then 3 else 11) a b c := by
      unfold sp_val
      rw [← g2, sc_run_c (c1 := sc_dc cd) (c2 := fun k => sc_df u (k : Int)) (tx 3).toNat (fun k hk => g3 (k : Int) (by omega) (by omega))]
    rw [e, h1]
    unfold sp_law
    rcases hu with z | z
    · subst z
      rw [show (95 : Int) + 0 = 95 from rfl] at g1
      have hq := mh_td4 ha
      rw [if_pos rfl, if_pos rfl, if_pos rfl, if_neg (by omega), sc_val0, sp_wr_id (by omega)]
    · subst z
      rw [show (95 : Int) + 1 = 96 from rfl] at g1
      rw [if_neg (by decide), if_neg (by decide), if_neg (by decide), if_neg (by omega), sc_val1]
      congr 1
      by_cases z0 : a = 0
      · subst z0; decide +kernel
      · by_cases z1 : a = 1
        · subst z1; decide +kernel
        · rw [mh_B0 z0, mh_B0 z1, if_neg z0, if_neg z1]; decide +kernel
theorem sc_T_mo {tx cd s : Int → Int} {u : Int} (h : sc_T tx cd s u) : 0 ≤ tx 1 ∧ tx 1 ≤ 999 := by
  rw [h.1]; split <;> decide
/-- the hills, the carriers, the texts of the world at w -/
def sc_L (h : Nat → Int → Int) (w : Nat) (s : Int → Int) : Prop := (∀ k, 0 ≤ k → k < 9 → h (w + 1) k = s (6 + 3 * k + 0) ∧ h (w + 2) k = s (6 + 3 * k + 1) ∧ h (w + 3) k = s (6 + 3 * k + 2)) ∧ (∀ c, 0 ≤ c → c < 4 → h (w + 4) c = s (33 + 2 * c) ∧ h (w + 5) c = s (33 + 2 * c + 1)) ∧ sc_T (h (w + 8)) (h (w + 9)) s 0 ∧ sc_T (h (w + 13)) (h (w + 14)) s 1
theorem sc_L.of {h h2 : Nat → Int → Int} {w : Nat} {s : Int → Int} (H : sc_L h w s) (e : ∀ x, (w + 1 ≤ x ∧ x ≤ w + 5) ∨ x = w + 8 ∨ x = w + 9 ∨ x = w + 13 ∨ x = w + 14 → h2 x = h x) : sc_L h2 w s := by
  unfold sc_L at *
  rw [e (w + 1) (by omega), e (w + 2) (by omega), e (w + 3) (by omega), e (w + 4) (by omega), e (w + 5) (by omega), e (w + 8) (by omega), e (w + 9) (by omega), e (w + 13) (by omega), e (w + 14) (by omega)]
  exact H
/-- a churn's fields, as the model has them -/
def sc_is (c r : Int → Int) (j : Int) : Prop := c 0 = j ∧ c 1 = r 0 + 3 ∧ c 2 = r 1 ∧ c 3 = r 2 ∧ c 4 = r 3 ∧ c 5 = r 4 ∧ c 6 = (if r 3 = 2 then r 7 else -1) ∧ c 7 = r 5 ∧ c 8 = r 6 ∧ c 9 = r 8
def sc_C (h : Nat → Int → Int) (w : Nat) (s : Int → Int) : Prop := ∀ j, 0 ≤ j → j < 6 → sc_is (h (w + 19 + j.toNat)) (sp_row s j) j
def sc_N (h : Nat → Int → Int) (w : Nat) (s : Int → Int) : Prop := h w 6 = s 3 ∧ h w 7 = s 0 ∧ h w 8 = s 1 ∧ h w 10 = s 4 ∧ h w 14 = s 5 ∧ h w 15 = s 2
theorem sc_is.ok {c r : Int → Int} {j : Int} (h : sc_is c r j) (hr : sp_cok r) : sc_ok c := by
  obtain ⟨a0, a1, a2, a3, a4, a5, a6, a7, a8, a9⟩ := h
  obtain ⟨b0, b1, b2, b3, b4, b5, b6, b7, b8, b9, b10, b11, b12, b13⟩ := hr
  unfold sc_ok
  rw [a1, a2, a3, a4, a5, a6, a7, a8, a9]
  split <;> omega
theorem sc_is.st {c s : Int → Int} {j i : Int} (h : sc_is c (sp_row s j) i) : sc_st c = sp_stm s j := by
  obtain ⟨a0, a1, a2, a3, a4, a5, a6, a7, a8, a9⟩ := h
  unfold sp_row at *
  unfold sc_st sp_stm
  rw [a9, a1, a2, a7, a8, show s (41 + 9 * j + 0) + 3 - 3 = s (41 + 9 * j + 0) by omega]
theorem sc_Aj {j : Int} (h : 0 ≤ j ∧ j < 6) : sc_A (44 + j.toNat) := Or.inl (by omega)
theorem sc_Ak {j : Int} (h : 0 ≤ j ∧ j < 6) : sc_A (75 + j.toNat) := Or.inr (Or.inr (by omega))
theorem fx_31 {h : Nat → Int → Int} (H : mh_FX h) {j : Int} (hj : 0 ≤ j ∧ j < 6) : h 31 j = ((44 + j.toNat : Nat) : Int) + 1 := by
  rcases (show j = 0 ∨ j = 1 ∨ j = 2 ∨ j = 3 ∨ j = 4 ∨ j = 5 by omega) with z | z | z | z | z | z
  · subst z; exact fx_31_0 H
  · subst z; exact fx_31_1 H
  · subst z; exact fx_31_2 H
  · subst z; exact fx_31_3 H
  · subst z; exact fx_31_4 H
  · subst z; exact fx_31_5 H
theorem fx_9 {h : Nat → Int → Int} (H : mh_FX h) {j : Int} (hj : 0 ≤ j ∧ j < 6) : h 9 j = ((75 + j.toNat : Nat) : Int) + 1 := by
  rcases (show j = 0 ∨ j = 1 ∨ j = 2 ∨ j = 3 ∨ j = 4 ∨ j = 5 by omega) with z | z | z | z | z | z
  · subst z; exact fx_9_0 H
  · subst z; exact fx_9_1 H
  · subst z; exact fx_9_2 H
  · subst z; exact fx_9_3 H
  · subst z; exact fx_9_4 H
  · subst z; exact fx_9_5 H
theorem fx_1 {h : Nat → Int → Int} (H : mh_FX h) {j : Int} (hj : 0 ≤ j ∧ j ≤ 6) : h 1 j = ((2 + j.toNat : Nat) : Int) + 1 := by
  rcases (show j = 0 ∨ j = 1 ∨ j = 2 ∨ j = 3 ∨ j = 4 ∨ j = 5 ∨ j = 6 by omega) with z | z | z | z | z | z | z
  · subst z; exact fx_1_0 H
  · subst z; exact fx_1_1 H
  · subst z; exact fx_1_2 H
  · subst z; exact fx_1_3 H
  · subst z; exact fx_1_4 H
  · subst z; exact fx_1_5 H
  · subst z; exact fx_1_6 H
set_option maxRecDepth 100000 in
set_option maxHeartbeats 1500000 in
theorem k4_lawOf0 {g : mh_G} {d : Nat} (hd : 1 ≤ d) {h : Nat → Int → Int} (hF : mh_FX h)   : mh_M g d yX10_lawOf cX10_lawOf 2 (some (.object "MilkHills$Text")) 96 0 0 [.ref 25, .int (Int32.ofInt (0))] h (fun r h2 => r = some (.ref 33) ∧ h2 = h) := by
  refine mh_M_of RX10 rfl (by decide +kernel) [some (.ref 25), some (.int (Int32.ofInt (0)))] rfl (Nat.le_of_ble_eq_true rfl) (fun f F Z hn0 hR => ?_)
  refine mh_iload1 (pc := 0) F dX10_lawOf_0 ?_
  refine mh_if_ne (pc := 1) (tgt := 11) F dX10_lawOf_1 rfl (by omega) (fun c_1 => ?_) (fun c_1 => ?_)
  · exact absurd c_1 (by decide)
  · refine mh_aload0 (pc := 4) F dX10_lawOf_4 ?_
    refine mh_getr (b := 33) (pc := 5) F sh_25 (by decide) fw_RX10_46_10 dX10_lawOf_5 rfl (fx_25_11 hF) ?_
    refine mh_goto (pc := 8) (tgt := 15) F dX10_lawOf_8 rfl ?_
    exact mh_areturn F Z dX10_lawOf_15 (Or.inl ⟨_, rfl⟩) ⟨rfl, rfl⟩

set_option maxRecDepth 100000 in
set_option maxHeartbeats 1500000 in
theorem k4_lawOf1 {g : mh_G} {d : Nat} (hd : 1 ≤ d) {h : Nat → Int → Int} (hF : mh_FX h)   : mh_M g d yX10_lawOf cX10_lawOf 2 (some (.object "MilkHills$Text")) 96 0 0 [.ref 25, .int (Int32.ofInt (1))] h (fun r h2 => r = some (.ref 38) ∧ h2 = h) := by
  refine mh_M_of RX10 rfl (by decide +kernel) [some (.ref 25), some (.int (Int32.ofInt (1)))] rfl (Nat.le_of_ble_eq_true rfl) (fun f F Z hn0 hR => ?_)
  refine mh_iload1 (pc := 0) F dX10_lawOf_0 ?_
  refine mh_if_ne (pc := 1) (tgt := 11) F dX10_lawOf_1 rfl (by omega) (fun c_1 => ?_) (fun c_1 => ?_)
  · refine mh_aload0 (pc := 11) F dX10_lawOf_11 ?_
    refine mh_getr (b := 38) (pc := 12) F sh_25 (by decide) fw_RX10_54_10 dX10_lawOf_12 rfl (fx_25_12 hF) ?_
    exact mh_areturn F Z dX10_lawOf_15 (Or.inl ⟨_, rfl⟩) ⟨rfl, rfl⟩
  · exact absurd c_1 (by decide)

set_option maxRecDepth 100000 in
set_option maxHeartbeats 1500000 in
theorem k4_room {g : mh_G} {d : Nat} (hd : 2 ≤ d) {h : Nat → Int → Int} (hF : mh_FX h) {s : Int → Int} {x : Int} (hL : sc_L h 25 s) (hx : -2147483648 ≤ x ∧ x < 2147483648) : mh_MP g d yX10_room cX10_room 2 (some .int) 96 [.ref 25, .int (Int32.ofInt (x))] h (some (.int (Int32.ofInt (if 0 ≤ x ∧ x ≤ 8 then s (6 + 3 * x + 1) else 0)))) := by
  refine mh_M_of RX10 rfl (by decide +kernel) [some (.ref 25), some (.int (Int32.ofInt (x)))] rfl (Nat.le_of_ble_eq_true rfl) (fun f F Z hn0 hR => ?_)
  refine mh_iload1 (pc := 0) F dX10_room_0 ?_
  refine mh_iconst (pc := 1) F dX10_room_1 ?_
  refine mh_bipush (pc := 2) F dX10_room_2 rfl ?_
  refine mh_callNp (pc := 4) (As := [.int (Int32.ofInt (x)), .int (Int32.ofInt (0)), .int (Int32.ofInt (8))]) (st := []) F (by omega) (k4_within (by omega) (by omega) (by omega) (by omega)) wn_RX10_101 dX10_room_4 rfl rfl (Nat.le_of_ble_eq_true rfl) ⟨Nat.zero_le _, Nat.zero_le _⟩ ?_
  refine mh_ifb_eq (pc := 7) (tgt := 19) F dX10_room_7 rfl (fun c_7 => ?_) (fun c_7 => ?_)
  · refine mh_iconst (pc := 19) F dX10_room_19 ?_
    exact mh_ireturnp F Z dX10_room_20 (by first | (rw [if_pos (by omega)]; exact hLx.2.1) | (rw [if_neg (by omega)])) rfl
  · have hLx : h 26 (x) = s (6 + 3 * (x) + 0) ∧ h 27 (x) = s (6 + 3 * (x) + 1) ∧ h 28 (x) = s (6 + 3 * (x) + 2) := hL.1 (x) (by omega) (by omega)
    refine mh_aload0 (pc := 10) F dX10_room_10 ?_
    refine mh_getr (b := 27) (pc := 11) F sh_25 (by decide) fw_RX10_15_10 dX10_room_11 rfl (fx_25_1 hF) ?_
    refine mh_iload1 (pc := 14) F dX10_room_14 ?_
    refine mh_iaload (pc := 15) F sh_27 (by decide) (by omega) dX10_room_15 ?_
    refine mh_goto (pc := 16) (tgt := 20) F dX10_room_16 rfl ?_
    exact mh_ireturnp F Z dX10_room_20 (by first | (rw [if_pos (by omega)]; exact hLx.2.1) | (rw [if_neg (by omega)])) rfl

set_option maxRecDepth 100000 in
set_option maxHeartbeats 1500000 in
theorem k4_warm {g : mh_G} {d : Nat} (hd : 7 ≤ d) {h : Nat → Int → Int} (hF : mh_FX h) {s : Int → Int} {x q : Int} (hL : sc_L h 25 s) (hx : -2147483648 ≤ x ∧ x < 2147483648) (hq : 0 ≤ q ∧ q ≤ 100000) (hh : sp_hok s) : mh_M g d yX10_warm cX10_warm 3 (some .int) 96 0 0 [.ref 25, .int (Int32.ofInt (x)), .int (Int32.ofInt (q))] h (fun r h2 => r = some (.int (Int32.ofInt ((if 0 ≤ x ∧ x ≤ 8 then sp_warm s x q else 0)))) ∧ mh_FX h2 ∧ mh_fr [36] h h2) := by
  refine mh_M_of RX10 rfl (by decide +kernel) [some (.ref 25), some (.int (Int32.ofInt (x))), some (.int (Int32.ofInt (q)))] rfl (Nat.le_of_ble_eq_true rfl) (fun f F Z hn0 hR => ?_)
  have hqm := mh_tmod96 hq.1
  refine mh_iload1 (pc := 0) F dX10_warm_0 ?_
  refine mh_iconst (pc := 1) F dX10_warm_1 ?_
  refine mh_bipush (pc := 2) F dX10_warm_2 rfl ?_
  refine mh_callNp (pc := 4) (As := [.int (Int32.ofInt (x)), .int (Int32.ofInt (0)), .int (Int32.ofInt (8))]) (st := []) F (by omega) (k4_within (by omega) (by omega) (by omega) (by omega)) wn_RX10_101 dX10_warm_4 rfl rfl (Nat.le_of_ble_eq_true rfl) ⟨Nat.zero_le _, Nat.zero_le _⟩ ?_
  refine mh_ifb_eq (pc := 7) (tgt := 31) F dX10_warm_7 rfl (fun c_7 => ?_) (fun c_7 => ?_)
  · refine mh_iconst (pc := 31) F dX10_warm_31 ?_
    exact mh_ireturn F Z dX10_warm_32 ⟨(mh_sv (by first | (rw [if_pos (by omega)]; unfold sp_warm; rw [hLx.1]; done) | (rw [if_neg (by omega)]; done))), hF, (mh_fr.rf.mono (by simp))⟩
  · have hLx : h 26 (x) = s (6 + 3 * (x) + 0) ∧ h 27 (x) = s (6 + 3 * (x) + 1) ∧ h 28 (x) = s (6 + 3 * (x) + 2) := hL.1 (x) (by omega) (by omega)
    have hhx := (hh.1 x (by omega) (by omega)).1
    refine mh_aload0 (pc := 10) F dX10_warm_10 ?_
    refine mh_getr (b := 33) (pc := 11) F sh_25 (by decide) fw_RX10_46_10 dX10_warm_11 rfl (fx_25_11 hF) ?_
    refine mh_aload0 (pc := 14) F dX10_warm_14 ?_
    refine mh_getr (b := 26) (pc := 15) F sh_25 (by decide) fw_RX10_9_10 dX10_warm_15 rfl (fx_25_0 hF) ?_
    refine mh_iload1 (pc := 18) F dX10_warm_18 ?_
    refine mh_iaload (pc := 19) F sh_26 (by decide) (by omega) dX10_warm_19 ?_
    refine mh_iload2 (pc := 20) F dX10_warm_20 ?_
    refine mh_bipush (pc := 21) F dX10_warm_21 rfl ?_
    refine mh_irem (pc := 23) F dX10_warm_23 (by omega) (by omega) (by omega) ?_
    refine mh_iconst (pc := 24) F dX10_warm_24 ?_
    refine mh_callV0 (pc := 25) (As := [.int (Int32.ofInt (h 26 x)), .int (Int32.ofInt (q.tmod 96)), .int (Int32.ofInt (0))]) (st := []) F (by omega) (k3_value_33 (by omega) hF rfl rfl rfl (by omega) (by omega) (by omega) hL.2.2.1.2.1 hL.2.2.1.2.2.1 hL.2.2.1.2.2.2.1 (sc_T_mo hL.2.2.1)) wv_RX10_105_yX9_value dX10_warm_25 sh_33 rfl (by decide) rfl rfl (Nat.le_of_ble_eq_true rfl) ⟨Nat.zero_le _, Nat.zero_le _⟩ (fun r1 h1 q1 => ?_)
    obtain ⟨rfl, F1, fr1⟩ := q1
    have fr2 : mh_fr [36] h h1 := (mh_fr.tr mh_fr.rf fr1).mono (by simp)
    refine mh_top (y := sp_law s 0 (h 26 x) (q.tmod 96) 0) (mh_eqI (sc_T_law hL.2.2.1 (by decide) (by omega))) ?_
    refine mh_goto (pc := 28) (tgt := 32) F dX10_warm_28 rfl ?_
    exact mh_ireturn F Z dX10_warm_32 ⟨(mh_sv (by first | (rw [if_pos (by omega)]; unfold sp_warm; rw [hLx.1]; done) | (rw [if_neg (by omega)]; done))), F1, (fr2.mono (by simp))⟩

set_option maxRecDepth 100000 in
set_option maxHeartbeats 1500000 in
theorem k4_worth {g : mh_G} {d : Nat} (hd : 8 ≤ d) {h : Nat → Int → Int} (hF : mh_FX h) {A : Nat} {s : Int → Int} {c : Int → Int} (rA : h A = c) (zA : sc_A A) (hc : sc_ok c) (hL : sc_L h 25 s) : mh_M g d yX10_worth cX10_worth 2 (some .int) 96 0 0 [.ref 25, .ref A] h (fun r h2 => r = some (.int (Int32.ofInt ((sp_law s 1 (sc_st c) (c 7) (c 2))))) ∧ mh_FX h2 ∧ mh_fr [41] h h2) := by
  refine mh_M_of RX10 rfl (by decide +kernel) [some (.ref 25), some (.ref A)] rfl (Nat.le_of_ble_eq_true rfl) (fun f F Z hn0 hR => ?_)
  have hA1 := zA.rg
  obtain ⟨c1, c2, c3, c4, c5, c6, c7, c8, c9⟩ := id hc
  have hsr := sc_st_rg c
  refine mh_aload0 (pc := 0) F dX10_worth_0 ?_
  refine mh_getr (b := 38) (pc := 1) F sh_25 (by decide) fw_RX10_54_10 dX10_worth_1 rfl (fx_25_12 hF) ?_
  refine mh_aload1 (pc := 4) F dX10_worth_4 ?_
  refine mh_callVp (pc := 5) (As := []) (st := [.ref 38]) F (by omega) (k0_state (by omega) hF rA zA hc) wv_RX10_109_yX0_state dX10_worth_5 zA.sh rfl zA.lt rfl rfl (Nat.le_of_ble_eq_true rfl) ⟨Nat.zero_le _, Nat.zero_le _⟩ ?_
  refine mh_aload1 (pc := 8) F dX10_worth_8 ?_
  refine mh_getir (pc := 9) F zA.sh zA.lt fw_RX10_113_0 dX10_worth_9 rfl rA ?_
  refine mh_aload1 (pc := 12) F dX10_worth_12 ?_
  refine mh_getir (pc := 13) F zA.sh zA.lt fw_RX10_116_0 dX10_worth_13 rfl rA ?_
  refine mh_callV0 (pc := 16) (As := [.int (Int32.ofInt (sc_st c)), .int (Int32.ofInt (c 7)), .int (Int32.ofInt (c 2))]) (st := []) F (by omega) (k3_value_38 (by omega) hF rfl rfl rfl (by omega) (by omega) (by omega) hL.2.2.2.2.1 hL.2.2.2.2.2.1 hL.2.2.2.2.2.2.1 (sc_T_mo hL.2.2.2)) wv_RX10_105_yX9_value dX10_worth_16 sh_38 rfl (by decide) rfl rfl (Nat.le_of_ble_eq_true rfl) ⟨Nat.zero_le _, Nat.zero_le _⟩ (fun r1 h1 q1 => ?_)
  obtain ⟨rfl, F1, fr1⟩ := q1
  have rA_2 : h1 A = c := (fr1 _ (by simp; omega)).trans rA
  have fr2 : mh_fr [41] h h1 := (mh_fr.tr mh_fr.rf fr1).mono (by simp)
  refine mh_top (y := sp_law s 1 (sc_st c) (c 7) (c 2)) (mh_eqI (sc_T_law hL.2.2.2 (by decide) (by omega))) ?_
  exact mh_ireturn F Z dX10_worth_19 ⟨rfl, F1, (fr2.mono (by simp))⟩

set_option maxRecDepth 100000 in
set_option maxHeartbeats 1500000 in
theorem k4_cheese {g : mh_G} {d : Nat} (hd : 3 ≤ d) {h : Nat → Int → Int} (hF : mh_FX h) {A : Nat} {s : Int → Int} {c : Int → Int} (rA : h A = c) (zA : sc_A A) (hc : sc_ok c) (hL : sc_L h 25 s) (hh : sp_hok s) : mh_MP g d yX10_cheesePrice cX10_cheesePrice 2 (some .int) 96 [.ref 25, .ref A] h (some (.int (Int32.ofInt (if 0 ≤ c 3 ∧ c 3 ≤ 8 then sp_cheese s (c 3) (c 7) else 0)))) := by
  refine mh_M_of RX10 rfl (by decide +kernel) [some (.ref 25), some (.ref A)] rfl (Nat.le_of_ble_eq_true rfl) (fun f F Z hn0 hR => ?_)
  have hA1 := zA.rg
  obtain ⟨c1, c2, c3, c4, c5, c6, c7, c8, c9⟩ := id hc
  refine mh_aload1 (pc := 0) F dX10_cheesePrice_0 ?_
  refine mh_getir (pc := 1) F zA.sh zA.lt fw_RX10_119_0 dX10_cheesePrice_1 rfl rA ?_
  refine mh_iconst (pc := 4) F dX10_cheesePrice_4 ?_
  refine mh_bipush (pc := 5) F dX10_cheesePrice_5 rfl ?_
  refine mh_callNp (pc := 7) (As := [.int (Int32.ofInt (c 3)), .int (Int32.ofInt (0)), .int (Int32.ofInt (8))]) (st := []) F (by omega) (k4_within (by omega) (by omega) (by omega) (by omega)) wn_RX10_101 dX10_cheesePrice_7 rfl rfl (Nat.le_of_ble_eq_true rfl) ⟨Nat.zero_le _, Nat.zero_le _⟩ ?_
  refine mh_ifb_eq (pc := 10) (tgt := 40) F dX10_cheesePrice_10 rfl (fun c_10 => ?_) (fun c_10 => ?_)
  · refine mh_iconst (pc := 40) F dX10_cheesePrice_40 ?_
    exact mh_ireturnp F Z dX10_cheesePrice_41 (by first | (rw [if_pos (by omega)]; unfold sp_cheese; rw [← hLx]; done) | (rw [if_neg (by omega)]; done)) rfl
  · have hLy : h 26 (c 3) = s (6 + 3 * (c 3) + 0) ∧ h 27 (c 3) = s (6 + 3 * (c 3) + 1) ∧ h 28 (c 3) = s (6 + 3 * (c 3) + 2) := hL.1 (c 3) (by omega) (by omega)
    have hLx := hLy.2.2
    have hhx := (hh.1 (c 3) (by omega) (by omega)).2.2
    have hmd := mh_muld (x := c 7) hhx (by omega)
    rw [← hLx] at hmd
    refine mh_aload0 (pc := 13) F dX10_cheesePrice_13 ?_
    refine mh_getr (b := 28) (pc := 14) F sh_25 (by decide) fw_RX10_18_10 dX10_cheesePrice_14 rfl (fx_25_2 hF) ?_
    refine mh_aload1 (pc := 17) F dX10_cheesePrice_17 ?_
    refine mh_getir (pc := 18) F zA.sh zA.lt fw_RX10_119_0 dX10_cheesePrice_18 rfl rA ?_
    refine mh_iaload (pc := 21) F sh_28 (by decide) (by omega) dX10_cheesePrice_21 ?_
    refine mh_iconst (pc := 22) F dX10_cheesePrice_22 ?_
    refine mh_bipush (pc := 23) F dX10_cheesePrice_23 rfl ?_
    refine mh_aload1 (pc := 25) F dX10_cheesePrice_25 ?_
    refine mh_getir (pc := 26) F zA.sh zA.lt fw_RX10_113_0 dX10_cheesePrice_26 rfl rA ?_
    refine mh_isub (pc := 29) F dX10_cheesePrice_29 ?_
    refine mh_callSp (pc := 30) (As := [.int (Int32.ofInt (0)), .int (Int32.ofInt (100 - (c 7)))]) (st := [.int (Int32.ofInt (h 28 (c 3)))]) F (by omega) (k_max (by omega) (by omega) (by omega)) ws_RX10_122 dX10_cheesePrice_30 rfl rfl (Nat.le_of_ble_eq_true rfl) ⟨Nat.zero_le _, Nat.zero_le _⟩ ?_
    refine mh_imul (pc := 33) F dX10_cheesePrice_33 ?_
    refine mh_bipush (pc := 34) F dX10_cheesePrice_34 rfl ?_
    refine mh_idiv (pc := 36) F dX10_cheesePrice_36 (by omega) (by omega) (by omega) ?_
    refine mh_goto (pc := 37) (tgt := 41) F dX10_cheesePrice_37 rfl ?_
    exact mh_ireturnp F Z dX10_cheesePrice_41 (by first | (rw [if_pos (by omega)]; unfold sp_cheese; rw [← hLx]; done) | (rw [if_neg (by omega)]; done)) rfl

set_option maxRecDepth 100000 in
set_option maxHeartbeats 1500000 in
theorem k4_takeIn {g : mh_G} {d : Nat} (hd : 3 ≤ d) {h : Nat → Int → Int} (hF : mh_FX h) {W : Int → Int} (r25 : h 25 = W) {v : Int} (hv : -100000 ≤ v ∧ v ≤ 100000) (h8 : -99999 ≤ W 8 ∧ W 8 ≤ 99999) : mh_M g d yX10_takeIn cX10_takeIn 2 none 96 0 0 [.ref 25, .int (Int32.ofInt (v))] h (fun r h2 => r = none ∧ mh_FX h2 ∧ mh_fr [25] h h2 ∧ h2 25 = mh_ur W 8 (sp_held (W 8 + v) (-99999) 99999)) := by
  refine mh_M_of RX10 rfl (by decide +kernel) [some (.ref 25), some (.int (Int32.ofInt (v)))] rfl (Nat.le_of_ble_eq_true rfl) (fun f F Z hn0 hR => ?_)
  refine mh_aload0 (pc := 0) F dX10_takeIn_0 ?_
  refine mh_ldc (x := -99999) (pc := 1) F dX10_takeIn_1 (by rw [show Int32.ofInt (-99999) = (-99999 : Int32) from by decide +kernel]; exact tw_3_188) ?_
  refine mh_ldc (x := 99999) (pc := 3) F dX10_takeIn_3 tw_3_189 ?_
  refine mh_aload0 (pc := 5) F dX10_takeIn_5 ?_
  refine mh_getir (pc := 6) F sh_25 (by decide) fw_RX10_89_10 dX10_takeIn_6 rfl r25 ?_
  refine mh_iload1 (pc := 9) F dX10_takeIn_9 ?_
  refine mh_iadd (pc := 10) F dX10_takeIn_10 ?_
  refine mh_callSp (pc := 11) (As := [.int (Int32.ofInt (99999)), .int (Int32.ofInt ((W 8) + v))]) (st := [.int (Int32.ofInt (-99999)), .ref 25]) F (by omega) (k_min (by omega) (by omega) (by omega)) ws_RX10_130 dX10_takeIn_11 rfl rfl (Nat.le_of_ble_eq_true rfl) ⟨Nat.zero_le _, Nat.zero_le _⟩ ?_
  refine mh_callSp (pc := 14) (As := [.int (Int32.ofInt (-99999)), .int (Int32.ofInt (min (99999) ((W 8) + v)))]) (st := [.ref 25]) F (by omega) (k_max (by omega) (by omega) (by omega)) ws_RX10_122 dX10_takeIn_14 rfl rfl (Nat.le_of_ble_eq_true rfl) ⟨Nat.zero_le _, Nat.zero_le _⟩ ?_
  refine mh_puti (pc := 17) F sh_25 (by decide) pw_RX10_89_10 dX10_takeIn_17 ?_
  refine mh_nmh (fun h1 e1 => ?_)
  have F1 : mh_FX h1 := by rw [e1]; exact hF.upz rfl
  have r25_1 : h1 25 = mh_ur W 8 (max (-99999) (min (99999) ((W 8) + v))) := by rw [e1, mh_up_rs, r25]
  have fr1 : mh_fr [25] h h1 := mh_fr.up mh_fr.rf e1
  exact mh_return F Z dX10_takeIn_20 ⟨rfl, F1, (fr1.mono (by simp)), r25_1⟩

set_option maxRecDepth 100000 in
set_option maxHeartbeats 1500000 in
theorem k4_draw {g : mh_G} {d : Nat} (hd : 1 ≤ d) {h : Nat → Int → Int} (hF : mh_FX h) {W : Int → Int} (r25 : h 25 = W)   : mh_M g d yX10_draw cX10_draw 1 (some .int) 96 0 0 [.ref 25] h (fun r h2 => r = some (.int (Int32.ofInt (mh_ushr (sp_wr (W 15 * 1103515245 + 12345)) 8))) ∧ mh_FX h2 ∧ mh_fr [25] h h2 ∧ h2 25 = mh_ur W 15 (sp_wr (W 15 * 1103515245 + 12345))) := by
  refine mh_M_of RX10 rfl (by decide +kernel) [some (.ref 25)] rfl (Nat.le_of_ble_eq_true rfl) (fun f F Z hn0 hR => ?_)
  refine mh_aload0 (pc := 0) F dX10_draw_0 ?_
  refine mh_aload0 (pc := 1) F dX10_draw_1 ?_
  refine mh_getir (pc := 2) F sh_25 (by decide) fw_RX10_60_10 dX10_draw_2 rfl r25 ?_
  refine mh_ldc (x := 1103515245) (pc := 5) F dX10_draw_5 tw_4_58 ?_
  refine mh_imul (pc := 7) F dX10_draw_7 ?_
  refine mh_sipush (pc := 8) F dX10_draw_8 rfl ?_
  refine mh_iadd (pc := 11) F dX10_draw_11 ?_
  refine mh_top (y := sp_wr (((W 15) * 1103515245) + 12345)) (sp_wrI _).symm ?_
  refine mh_puti (pc := 12) F sh_25 (by decide) pw_RX10_60_10 dX10_draw_12 ?_
  refine mh_nmh (fun h1 e1 => ?_)
  have F1 : mh_FX h1 := by rw [e1]; exact hF.upz rfl
  have r25_1 : h1 25 = mh_ur W 15 (sp_wr (((W 15) * 1103515245) + 12345)) := by rw [e1, mh_up_rs, r25]
  have fr1 : mh_fr [25] h h1 := mh_fr.up mh_fr.rf e1
  refine mh_aload0 (pc := 15) F dX10_draw_15 ?_
  refine mh_getir (pc := 16) F sh_25 (by decide) fw_RX10_60_10 dX10_draw_16 rfl r25_1 ?_
  refine mh_bipush (pc := 19) F dX10_draw_19 rfl ?_
  refine mh_iushr (pc := 21) F dX10_draw_21 ?_
  exact mh_ireturn F Z dX10_draw_22 ⟨(mh_sv (by rw [mh_ur_eq rfl])), F1, (fr1.mono (by simp)), r25_1⟩

set_option maxRecDepth 100000 in
set_option maxHeartbeats 1500000 in
theorem k4_inBrook {g : mh_G} {d : Nat} (hd : 7 ≤ d) {h : Nat → Int → Int} (hF : mh_FX h) {s : Int → Int} {x : Int} (hC : sc_C h 25 s) (hN : sc_N h 25 s) (hm : 0 ≤ s 3 ∧ s 3 ≤ 6) (hcc : ∀ k, 0 ≤ k → k < 6 → sp_cok (sp_row s k)) (hx : -2147483648 ≤ x ∧ x < 2147483648) : mh_MP g d yX10_inBrook cX10_inBrook 4 (some .int) 96 [.ref 25, .int (Int32.ofInt (x))] h (some (.int (Int32.ofInt (sp_inB s x)))) := by
  refine mh_M_of RX10 rfl (by decide +kernel) [some (.ref 25), some (.int (Int32.ofInt (x))), none, none] rfl (Nat.le_of_ble_eq_true rfl) (fun f F Z hn0 hR => ?_)
  have hN1 := hN.1
  refine mh_iconst (pc := 0) F dX10_inBrook_0 ?_
  refine mh_istore2 (pc := 1) F dX10_inBrook_1 rfl (by decide) ?_
  refine mh_iconst (pc := 2) F dX10_inBrook_2 ?_
  refine mh_istore3 (pc := 3) F dX10_inBrook_3 rfl (by decide) ?_
  have L4 : ∀ (m : Nat) (n : Int) (k : Int), (0 ≤ k ∧ k ≤ s 3) → (n = sp_cnt (fun j => decide (s (41 + 9 * j + 3) = 1 ∧ s (41 + 9 * j + 2) = x)) k.toNat) → (s 3 - k).toNat = m → mh_V g f 4 96 0 0 4 [some (.ref 25), some (.int (Int32.ofInt (x))), some (.int (Int32.ofInt (n))), some (.int (Int32.ofInt (k)))] [] h := by
    intro m
    induction m using Nat.strongRecOn with
    | _ m ihL4 =>
    intro n k hk hn hmz
    refine mh_iload3 (pc := 4) F dX10_inBrook_4 ?_
    refine mh_aload0 (pc := 5) F dX10_inBrook_5 ?_
    refine mh_geti (pc := 6) F sh_25 (by decide) fw_RX10_83_10 dX10_inBrook_6 rfl ?_
    refine mh_icmp_ge (pc := 9) (tgt := 47) F dX10_inBrook_9 rfl (by omega) (by omega) (fun c_9 => ?_) (fun c_9 => ?_)
    · refine mh_iload2 (pc := 47) F dX10_inBrook_47 ?_
      exact mh_ireturnp F Z dX10_inBrook_48 (by first | (rw [hn, show k = s 3 by omega]; rfl) | (rw [hn, show k = s 3 by omega])) rfl
    · have hkk : 0 ≤ k ∧ k < 6 := by omega
      have hck := hC k hkk.1 hkk.2
      have hcn := sp_cnt_rg (fun j => decide (s (41 + 9 * j + 3) = 1 ∧ s (41 + 9 * j + 2) = x)) k.toNat
      have hcr := hcc k hkk.1 hkk.2
      have hco := hck.ok hcr
      have zAk := sc_Aj hkk
      obtain ⟨d0, d1, d2, d3, d4, d5, d6, d7, d8, d9⟩ := id hck
      unfold sp_row at d1 d2 d3 d4 d5 d7 d8 d9
      obtain ⟨z1, z2, z3, z4, z5, z6, z7, z8, z9⟩ := hco
      change h (44 + k.toNat) 3 = _ at d3
      change h (44 + k.toNat) 4 = _ at d4
      change h (44 + k.toNat) 1 = _ at d1
      change h (44 + k.toNat) 9 = _ at d9
      change 0 ≤ h (44 + k.toNat) 3 ∧ h (44 + k.toNat) 3 ≤ _ at z3
      change 0 ≤ h (44 + k.toNat) 4 ∧ h (44 + k.toNat) 4 ≤ _ at z4
      refine mh_aload0 (pc := 12) F dX10_inBrook_12 ?_
      refine mh_getr (b := 31) (pc := 13) F sh_25 (by decide) fw_RX10_29_10 dX10_inBrook_13 rfl (fx_25_5 hF) ?_
      refine mh_iload3 (pc := 16) F dX10_inBrook_16 ?_
      refine mh_aaload (b := 44 + (k).toNat) (pc := 17) F sh_31 (by decide) (by decide) (by omega) dX10_inBrook_17 (fx_31 hF (by omega)) ?_
      refine mh_geti (pc := 18) F zAk.sh zAk.lt fw_RX10_133_0 dX10_inBrook_18 rfl ?_
      refine mh_iconst (pc := 21) F dX10_inBrook_21 ?_
      refine mh_icmp_ne (pc := 22) (tgt := 41) F dX10_inBrook_22 rfl (by omega) (by omega) (fun c_22 => ?_) (fun c_22 => ?_)
      · refine mh_iinc3 (pc := 41) F dX10_inBrook_41 rfl (by decide) ?_
        refine mh_goto (pc := 44) (tgt := 4) F dX10_inBrook_44 rfl ?_
        exact ihL4 _ (by omega) n (k + 1) (by omega) (by rw [sp_cnt_at _ hk.1, hn]; first | (rw [if_pos (decide_eq_true (by omega))]; done) | (rw [if_neg (fun z => absurd (of_decide_eq_true z) (by omega)), Int.add_zero]; done)) rfl
      · refine mh_aload0 (pc := 25) F dX10_inBrook_25 ?_
        refine mh_getr (b := 31) (pc := 26) F sh_25 (by decide) fw_RX10_29_10 dX10_inBrook_26 rfl (fx_25_5 hF) ?_
        refine mh_iload3 (pc := 29) F dX10_inBrook_29 ?_
        refine mh_aaload (b := 44 + (k).toNat) (pc := 30) F sh_31 (by decide) (by decide) (by omega) dX10_inBrook_30 (fx_31 hF (by omega)) ?_
        refine mh_geti (pc := 31) F zAk.sh zAk.lt fw_RX10_119_0 dX10_inBrook_31 rfl ?_
        refine mh_iload1 (pc := 34) F dX10_inBrook_34 ?_
        refine mh_icmp_ne (pc := 35) (tgt := 41) F dX10_inBrook_35 rfl (by omega) (by omega) (fun c_35 => ?_) (fun c_35 => ?_)
        · refine mh_iinc3 (pc := 41) F dX10_inBrook_41 rfl (by decide) ?_
          refine mh_goto (pc := 44) (tgt := 4) F dX10_inBrook_44 rfl ?_
          exact ihL4 _ (by omega) n (k + 1) (by omega) (by rw [sp_cnt_at _ hk.1, hn]; first | (rw [if_pos (decide_eq_true (by omega))]; done) | (rw [if_neg (fun z => absurd (of_decide_eq_true z) (by omega)), Int.add_zero]; done)) rfl
        · refine mh_iinc2 (pc := 38) F dX10_inBrook_38 rfl (by decide) ?_
          refine mh_iinc3 (pc := 41) F dX10_inBrook_41 rfl (by decide) ?_
          refine mh_goto (pc := 44) (tgt := 4) F dX10_inBrook_44 rfl ?_
          exact ihL4 _ (by omega) (n + 1) (k + 1) (by omega) (by rw [sp_cnt_at _ hk.1, hn]; first | (rw [if_pos (decide_eq_true (by omega))]; done) | (rw [if_neg (fun z => absurd (of_decide_eq_true z) (by omega)), Int.add_zero]; done)) rfl
  exact L4 _ 0 0 (by omega) rfl rfl

set_option maxRecDepth 100000 in
set_option maxHeartbeats 1500000 in
theorem k4_howMany {g : mh_G} {d : Nat} (hd : 7 ≤ d) {h : Nat → Int → Int} (hF : mh_FX h) {s : Int → Int} {x : Int} (hC : sc_C h 25 s) (hN : sc_N h 25 s) (hm : 0 ≤ s 3 ∧ s 3 ≤ 6) (hcc : ∀ k, 0 ≤ k → k < 6 → sp_cok (sp_row s k)) (hx : -2147483648 ≤ x ∧ x < 2147483648) : mh_MP g d yX10_howMany cX10_howMany 4 (some .int) 96 [.ref 25, .int (Int32.ofInt (x))] h (some (.int (Int32.ofInt (sp_hows s x)))) := by
  refine mh_M_of RX10 rfl (by decide +kernel) [some (.ref 25), some (.int (Int32.ofInt (x))), none, none] rfl (Nat.le_of_ble_eq_true rfl) (fun f F Z hn0 hR => ?_)
  have hN1 := hN.1
  refine mh_iconst (pc := 0) F dX10_howMany_0 ?_
  refine mh_istore2 (pc := 1) F dX10_howMany_1 rfl (by decide) ?_
  refine mh_iconst (pc := 2) F dX10_howMany_2 ?_
  refine mh_istore3 (pc := 3) F dX10_howMany_3 rfl (by decide) ?_
  have L4 : ∀ (m : Nat) (n : Int) (k : Int), (0 ≤ k ∧ k ≤ s 3) → (n = sp_cnt (fun j => decide (s (41 + 9 * j + 3) = x)) k.toNat) → (s 3 - k).toNat = m → mh_V g f 4 96 0 0 4 [some (.ref 25), some (.int (Int32.ofInt (x))), some (.int (Int32.ofInt (n))), some (.int (Int32.ofInt (k)))] [] h := by
    intro m
    induction m using Nat.strongRecOn with
    | _ m ihL4 =>
    intro n k hk hn hmz
    refine mh_iload3 (pc := 4) F dX10_howMany_4 ?_
    refine mh_aload0 (pc := 5) F dX10_howMany_5 ?_
    refine mh_geti (pc := 6) F sh_25 (by decide) fw_RX10_83_10 dX10_howMany_6 rfl ?_
    refine mh_icmp_ge (pc := 9) (tgt := 34) F dX10_howMany_9 rfl (by omega) (by omega) (fun c_9 => ?_) (fun c_9 => ?_)
    · refine mh_iload2 (pc := 34) F dX10_howMany_34 ?_
      exact mh_ireturnp F Z dX10_howMany_35 (by first | (rw [hn, show k = s 3 by omega]; rfl) | (rw [hn, show k = s 3 by omega])) rfl
    · have hkk : 0 ≤ k ∧ k < 6 := by omega
      have hck := hC k hkk.1 hkk.2
      have hcn := sp_cnt_rg (fun j => decide (s (41 + 9 * j + 3) = x)) k.toNat
      have hcr := hcc k hkk.1 hkk.2
      have hco := hck.ok hcr
      have zAk := sc_Aj hkk
      obtain ⟨d0, d1, d2, d3, d4, d5, d6, d7, d8, d9⟩ := id hck
      unfold sp_row at d1 d2 d3 d4 d5 d7 d8 d9
      obtain ⟨z1, z2, z3, z4, z5, z6, z7, z8, z9⟩ := hco
      change h (44 + k.toNat) 3 = _ at d3
      change h (44 + k.toNat) 4 = _ at d4
      change h (44 + k.toNat) 1 = _ at d1
      change h (44 + k.toNat) 9 = _ at d9
      change 0 ≤ h (44 + k.toNat) 3 ∧ h (44 + k.toNat) 3 ≤ _ at z3
      change 0 ≤ h (44 + k.toNat) 4 ∧ h (44 + k.toNat) 4 ≤ _ at z4
      refine mh_aload0 (pc := 12) F dX10_howMany_12 ?_
      refine mh_getr (b := 31) (pc := 13) F sh_25 (by decide) fw_RX10_29_10 dX10_howMany_13 rfl (fx_25_5 hF) ?_
      refine mh_iload3 (pc := 16) F dX10_howMany_16 ?_
      refine mh_aaload (b := 44 + (k).toNat) (pc := 17) F sh_31 (by decide) (by decide) (by omega) dX10_howMany_17 (fx_31 hF (by omega)) ?_
      refine mh_geti (pc := 18) F zAk.sh zAk.lt fw_RX10_133_0 dX10_howMany_18 rfl ?_
      refine mh_iload1 (pc := 21) F dX10_howMany_21 ?_
      refine mh_icmp_ne (pc := 22) (tgt := 28) F dX10_howMany_22 rfl (by omega) (by omega) (fun c_22 => ?_) (fun c_22 => ?_)
      · refine mh_iinc3 (pc := 28) F dX10_howMany_28 rfl (by decide) ?_
        refine mh_goto (pc := 31) (tgt := 4) F dX10_howMany_31 rfl ?_
        exact ihL4 _ (by omega) n (k + 1) (by omega) (by rw [sp_cnt_at _ hk.1, hn]; first | (rw [if_pos (decide_eq_true (by omega))]; done) | (rw [if_neg (fun z => absurd (of_decide_eq_true z) (by omega)), Int.add_zero]; done)) rfl
      · refine mh_iinc2 (pc := 25) F dX10_howMany_25 rfl (by decide) ?_
        refine mh_iinc3 (pc := 28) F dX10_howMany_28 rfl (by decide) ?_
        refine mh_goto (pc := 31) (tgt := 4) F dX10_howMany_31 rfl ?_
        exact ihL4 _ (by omega) (n + 1) (k + 1) (by omega) (by rw [sp_cnt_at _ hk.1, hn]; first | (rw [if_pos (decide_eq_true (by omega))]; done) | (rw [if_neg (fun z => absurd (of_decide_eq_true z) (by omega)), Int.add_zero]; done)) rfl
  exact L4 _ 0 0 (by omega) rfl rfl

set_option maxRecDepth 100000 in
set_option maxHeartbeats 1500000 in
theorem k4_sweetOnes {g : mh_G} {d : Nat} (hd : 7 ≤ d) {h : Nat → Int → Int} (hF : mh_FX h) {s : Int → Int} (hC : sc_C h 25 s) (hN : sc_N h 25 s) (hm : 0 ≤ s 3 ∧ s 3 ≤ 6) (hcc : ∀ k, 0 ≤ k → k < 6 → sp_cok (sp_row s k)) : mh_MP g d yX10_sweetOnes cX10_sweetOnes 3 (some .int) 96 [.ref 25] h (some (.int (Int32.ofInt (sp_sweets s)))) := by
  refine mh_M_of RX10 rfl (by decide +kernel) [some (.ref 25), none, none] rfl (Nat.le_of_ble_eq_true rfl) (fun f F Z hn0 hR => ?_)
  have hN1 := hN.1
  refine mh_iconst (pc := 0) F dX10_sweetOnes_0 ?_
  refine mh_istore1 (pc := 1) F dX10_sweetOnes_1 rfl (by decide) ?_
  refine mh_iconst (pc := 2) F dX10_sweetOnes_2 ?_
  refine mh_istore2 (pc := 3) F dX10_sweetOnes_3 rfl (by decide) ?_
  have L4 : ∀ (m : Nat) (n : Int) (k : Int), (0 ≤ k ∧ k ≤ s 3) → (n = sp_cnt (fun j => decide (sp_stm s j = 0)) k.toNat) → (s 3 - k).toNat = m → mh_V g f 3 96 0 0 4 [some (.ref 25), some (.int (Int32.ofInt (n))), some (.int (Int32.ofInt (k)))] [] h := by
    intro m
    induction m using Nat.strongRecOn with
    | _ m ihL4 =>
    intro n k hk hn hmz
    refine mh_iload2 (pc := 4) F dX10_sweetOnes_4 ?_
    refine mh_aload0 (pc := 5) F dX10_sweetOnes_5 ?_
    refine mh_geti (pc := 6) F sh_25 (by decide) fw_RX10_83_10 dX10_sweetOnes_6 rfl ?_
    refine mh_icmp_ge (pc := 9) (tgt := 33) F dX10_sweetOnes_9 rfl (by omega) (by omega) (fun c_9 => ?_) (fun c_9 => ?_)
    · refine mh_iload1 (pc := 33) F dX10_sweetOnes_33 ?_
      exact mh_ireturnp F Z dX10_sweetOnes_34 (by first | (rw [hn, show k = s 3 by omega]; rfl) | (rw [hn, show k = s 3 by omega])) rfl
    · have hkk : 0 ≤ k ∧ k < 6 := by omega
      have hck := hC k hkk.1 hkk.2
      have hcn := sp_cnt_rg (fun j => decide (sp_stm s j = 0)) k.toNat
      have hcr := hcc k hkk.1 hkk.2
      have hco := hck.ok hcr
      have zAk := sc_Aj hkk
      have hst : sc_st (h (44 + k.toNat)) = sp_stm s k := hck.st
      have hsr := sp_stm_rg s k
      refine mh_aload0 (pc := 12) F dX10_sweetOnes_12 ?_
      refine mh_getr (b := 31) (pc := 13) F sh_25 (by decide) fw_RX10_29_10 dX10_sweetOnes_13 rfl (fx_25_5 hF) ?_
      refine mh_iload2 (pc := 16) F dX10_sweetOnes_16 ?_
      refine mh_aaload (b := 44 + (k).toNat) (pc := 17) F sh_31 (by decide) (by decide) (by omega) dX10_sweetOnes_17 (fx_31 hF (by omega)) ?_
      refine mh_callVp (pc := 18) (As := []) (st := []) F (by omega) (k0_state (by omega) hF rfl zAk hco) wv_RX10_109_yX0_state dX10_sweetOnes_18 zAk.sh rfl zAk.lt rfl rfl (Nat.le_of_ble_eq_true rfl) ⟨Nat.zero_le _, Nat.zero_le _⟩ ?_
      refine mh_if_ne (pc := 21) (tgt := 27) F dX10_sweetOnes_21 rfl (by omega) (fun c_21 => ?_) (fun c_21 => ?_)
      · refine mh_iinc2 (pc := 27) F dX10_sweetOnes_27 rfl (by decide) ?_
        refine mh_goto (pc := 30) (tgt := 4) F dX10_sweetOnes_30 rfl ?_
        exact ihL4 _ (by omega) n (k + 1) (by omega) (by rw [sp_cnt_at _ hk.1, hn]; first | (rw [if_pos (decide_eq_true (by omega))]; done) | (rw [if_neg (fun z => absurd (of_decide_eq_true z) (by omega)), Int.add_zero]; done)) rfl
      · refine mh_iinc1 (pc := 24) F dX10_sweetOnes_24 rfl (by decide) ?_
        refine mh_iinc2 (pc := 27) F dX10_sweetOnes_27 rfl (by decide) ?_
        refine mh_goto (pc := 30) (tgt := 4) F dX10_sweetOnes_30 rfl ?_
        exact ihL4 _ (by omega) (n + 1) (k + 1) (by omega) (by rw [sp_cnt_at _ hk.1, hn]; first | (rw [if_pos (decide_eq_true (by omega))]; done) | (rw [if_neg (fun z => absurd (of_decide_eq_true z) (by omega)), Int.add_zero]; done)) rfl
  exact L4 _ 0 0 (by omega) rfl rfl

