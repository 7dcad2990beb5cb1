/-! the model's row: what is always so of it -/
def sp_cok (c : Int → Int) : Prop := (0 ≤ c 0 ∧ c 0 ≤ 6) ∧ (0 ≤ c 1 ∧ c 1 ≤ 9) ∧ (0 ≤ c 2 ∧ c 2 ≤ 9) ∧ (0 ≤ c 3 ∧ c 3 ≤ 3) ∧ (0 ≤ c 4 ∧ c 4 ≤ 9) ∧ (0 ≤ c 5 ∧ c 5 ≤ 9999) ∧ (0 ≤ c 6 ∧ c 6 ≤ 9999) ∧ (0 ≤ c 7 ∧ c 7 ≤ 3) ∧ (0 ≤ c 8 ∧ c 8 ≤ 1) ∧ (c 3 ≤ 2 → c 2 ≤ 8) ∧ (c 3 = 2 → 1 ≤ c 4 ∧ c 8 = 0) ∧ (c 3 ≠ 2 → c 4 = 0) ∧ (c 8 = 1 → c 3 = 0) ∧ (c 3 = 3 → c 2 = 9)
def sp_row (s : Int → Int) (k : Int) : Int → Int := fun x => s (41 + 9 * k + x)
def sp_hok (s : Int → Int) : Prop := (∀ k, 0 ≤ k → k < 9 → (0 ≤ s (6 + 3 * k + 0) ∧ s (6 + 3 * k + 0) ≤ 40) ∧ (0 ≤ s (6 + 3 * k + 1) ∧ s (6 + 3 * k + 1) ≤ 3) ∧ (0 ≤ s (6 + 3 * k + 2) ∧ s (6 + 3 * k + 2) ≤ 99)) ∧ (∀ k, 0 ≤ k → k < 4 → (1 ≤ s (33 + 2 * k) ∧ s (33 + 2 * k) ≤ 9) ∧ (0 ≤ s (33 + 2 * k + 1) ∧ s (33 + 2 * k + 1) ≤ 20))
def sp_inv (s : Int → Int) : Prop := (0 ≤ s 3 ∧ s 3 ≤ 6) ∧ (0 ≤ s 0 ∧ s 0 ≤ 20000) ∧ (-99999 ≤ s 1 ∧ s 1 ≤ 99999) ∧ sp_hok s ∧ (∀ k, 0 ≤ k → k < 6 → sp_cok (sp_row s k)) ∧ sp_wfs s
def sp_sours (s : Int → Int) (k v : Int) : Int → Int := mh_ur s (41 + 9 * k + 5) (sp_held (s (41 + 9 * k + 5) + v) 0 9999)
def sp_takes (s : Int → Int) (v : Int) : Int → Int := mh_ur s 1 (sp_held (s 1 + v) (-99999) 99999)
def sp_worth (s : Int → Int) (k x y : Int) : Int := sp_law s 1 (sp_st (s (41 + 9 * k + 0)) (s (41 + 9 * k + 1)) x y) x (s (41 + 9 * k + 1))
def sp_warm (s : Int → Int) (hill q : Int) : Int := sp_law s 0 (s (6 + 3 * hill + 0)) (q.tmod 96) 0
def sp_cheese (s : Int → Int) (hill x : Int) : Int := (s (6 + 3 * hill + 2) * max 0 (100 - x)).tdiv 10
theorem sp_held_rg {v a b : Int} (h : a ≤ b) : a ≤ sp_held v a b ∧ sp_held v a b ≤ b := by unfold sp_held; omega
theorem mh_tmod96 {q : Int} (h : 0 ≤ q) : 0 ≤ q.tmod 96 ∧ q.tmod 96 < 96 := ⟨Int.tmod_nonneg _ h, by have := Int.tmod_lt_of_pos q (show (0:Int) < 96 by decide); omega⟩
set_option maxRecDepth 100000 in
set_option maxHeartbeats 4000000 in
theorem k_warm {g : mh_G} {d : Nat} (hd : 4 ≤ d) {h : Nat → Int → Int} (hF : mh_FX h) {s : Int → Int} (r82 : h 82 = s) {k q : Int} (hk : 0 ≤ k ∧ k < 9) (hq : 0 ≤ q ∧ q ≤ 100000) (hh : 0 ≤ s (6 + 3 * k + 0) ∧ s (6 + 3 * k + 0) ≤ 40) (hws : sp_wfs s) : mh_M g d yX12_warm cX12_warm 3 (some .int) 96 0 0 [.ref 81, .int (Int32.ofInt (k)), .int (Int32.ofInt (q))] h (fun r h2 => r = some (.int (Int32.ofInt (sp_warm s k q))) ∧ mh_FX h2 ∧ mh_fr [86, 87] h h2) := by
  refine mh_M_of RX12 rfl (by decide +kernel) [some (.ref 81), some (.int (Int32.ofInt (k))), some (.int (Int32.ofInt (q)))] rfl (Nat.le_of_ble_eq_true rfl) (fun f F Z hn0 hR => ?_)
  have hqm := mh_tmod96 hq.1
  refine mh_aload0 (pc := 0) F dX12_warm_0 ?_
  refine mh_iconst (pc := 1) F dX12_warm_1 ?_
  refine mh_aload0 (pc := 2) F dX12_warm_2 ?_
  refine mh_iload1 (pc := 3) F dX12_warm_3 ?_
  refine mh_iconst (pc := 4) F dX12_warm_4 ?_
  refine mh_callVp (pc := 5) (As := [.int (Int32.ofInt (k)), .int (Int32.ofInt (0))]) (st := [.int (Int32.ofInt (0)), .ref 81]) F (by omega) (k_ofHillNow (by omega) hF r82 (by omega) (by omega)) wv_RX12_98_yX12_ofHillNow dX12_warm_5 sh_81 rfl (by decide) rfl rfl (Nat.le_of_ble_eq_true rfl) ⟨Nat.zero_le _, Nat.zero_le _⟩ ?_
  refine mh_iload2 (pc := 8) F dX12_warm_8 ?_
  refine mh_bipush (pc := 9) F dX12_warm_9 rfl ?_
  refine mh_irem (pc := 11) F dX12_warm_11 (by omega) (by omega) (by omega) ?_
  refine mh_iconst (pc := 12) F dX12_warm_12 ?_
  refine mh_callV0 (pc := 13) (As := [.int (Int32.ofInt (0)), .int (Int32.ofInt (s (6 + 3 * k + 0))), .int (Int32.ofInt (q.tmod 96)), .int (Int32.ofInt (0))]) (st := []) F (by omega) (k_lawBy0 (by omega) hF r82 rfl rfl hws (by omega) (by omega) (by omega)) wv_RX12_101_yX12_lawBy dX12_warm_13 sh_81 rfl (by decide) rfl rfl (Nat.le_of_ble_eq_true rfl) ⟨Nat.zero_le _, Nat.zero_le _⟩ (fun r1 h1 q1 => ?_)
  obtain ⟨rfl, F1, fr1⟩ := q1
  have r82_2 : h1 82 = s := (fr1 _ (by decide)).trans r82
  have fr2 : mh_fr [86, 87] h h1 := (mh_fr.tr mh_fr.rf fr1).mono (by simp)
  exact mh_ireturn F Z dX12_warm_16 ⟨rfl, F1, (fr2.mono (by simp))⟩

set_option maxRecDepth 100000 in
set_option maxHeartbeats 4000000 in
theorem k_worth {g : mh_G} {d : Nat} (hd : 4 ≤ d) {h : Nat → Int → Int} (hF : mh_FX h) {s : Int → Int} (r82 : h 82 = s) {k x y : Int} (hk : 0 ≤ k ∧ k < 6) (h0 : 0 ≤ s (41 + 9 * k + 0) ∧ s (41 + 9 * k + 0) ≤ 6) (h1 : 0 ≤ s (41 + 9 * k + 1) ∧ s (41 + 9 * k + 1) ≤ 9) (hx : 0 ≤ x ∧ x ≤ 9999) (hy : 0 ≤ y ∧ y ≤ 9999) (hws : sp_wfs s) : mh_M g d yX12_worth cX12_worth 4 (some .int) 96 0 0 [.ref 81, .int (Int32.ofInt (k)), .int (Int32.ofInt (x)), .int (Int32.ofInt (y))] h (fun r h2 => r = some (.int (Int32.ofInt (sp_worth s k x y))) ∧ mh_FX h2 ∧ mh_fr [86, 87] h h2) := by
  refine mh_M_of RX12 rfl (by decide +kernel) [some (.ref 81), some (.int (Int32.ofInt (k))), some (.int (Int32.ofInt (x))), some (.int (Int32.ofInt (y)))] rfl (Nat.le_of_ble_eq_true rfl) (fun f F Z hn0 hR => ?_)
  have hstr : 0 ≤ sp_st (s (41 + 9 * k + 0)) (s (41 + 9 * k + 1)) x y ∧ sp_st (s (41 + 9 * k + 0)) (s (41 + 9 * k + 1)) x y ≤ 2 := by unfold sp_st; repeat' split <;> omega
  refine mh_aload0 (pc := 0) F dX12_worth_0 ?_
  refine mh_iconst (pc := 1) F dX12_worth_1 ?_
  refine mh_aload0 (pc := 2) F dX12_worth_2 ?_
  refine mh_iload1 (pc := 3) F dX12_worth_3 ?_
  refine mh_iload2 (pc := 4) F dX12_worth_4 ?_
  refine mh_iload3 (pc := 5) F dX12_worth_5 ?_
  refine mh_callVp (pc := 6) (As := [.int (Int32.ofInt (k)), .int (Int32.ofInt (x)), .int (Int32.ofInt (y))]) (st := [.int (Int32.ofInt (1)), .ref 81]) F (by omega) (k_stateBy (by omega) hF r82 (by omega) (by omega) (by omega) (by omega) (by omega)) wv_RX12_85_yX12_stateBy dX12_worth_6 sh_81 rfl (by decide) rfl rfl (Nat.le_of_ble_eq_true rfl) ⟨Nat.zero_le _, Nat.zero_le _⟩ ?_
  refine mh_iload2 (pc := 9) F dX12_worth_9 ?_
  refine mh_aload0 (pc := 10) F dX12_worth_10 ?_
  refine mh_iload1 (pc := 11) F dX12_worth_11 ?_
  refine mh_iconst (pc := 12) F dX12_worth_12 ?_
  refine mh_callVp (pc := 13) (As := [.int (Int32.ofInt (k)), .int (Int32.ofInt (1))]) (st := [.int (Int32.ofInt (x)), .int (Int32.ofInt (sp_st (s (41 + 9 * k + 0)) (s (41 + 9 * k + 1)) x y)), .int (Int32.ofInt (1)), .ref 81]) F (by omega) (k_its (by omega) hF r82 (by omega) (by omega)) wv_RX12_79_yX12_its dX12_worth_13 sh_81 rfl (by decide) rfl rfl (Nat.le_of_ble_eq_true rfl) ⟨Nat.zero_le _, Nat.zero_le _⟩ ?_
  refine mh_callV0 (pc := 16) (As := [.int (Int32.ofInt (1)), .int (Int32.ofInt (sp_st (s (41 + 9 * k + 0)) (s (41 + 9 * k + 1)) x y)), .int (Int32.ofInt (x)), .int (Int32.ofInt (s (41 + 9 * k + 1)))]) (st := []) F (by omega) (k_lawBy1 (by omega) hF r82 rfl rfl hws (by omega) (by omega) (by omega)) wv_RX12_101_yX12_lawBy dX12_worth_16 sh_81 rfl (by decide) rfl rfl (Nat.le_of_ble_eq_true rfl) ⟨Nat.zero_le _, Nat.zero_le _⟩ (fun r1 h1 q1 => ?_)
  obtain ⟨rfl, F1, fr1⟩ := q1
  have r82_2 : h1 82 = s := (fr1 _ (by decide)).trans r82
  have fr2 : mh_fr [86, 87] h h1 := (mh_fr.tr mh_fr.rf fr1).mono (by simp)
  exact mh_ireturn F Z dX12_worth_19 ⟨rfl, F1, (fr2.mono (by simp))⟩

theorem mh_muld {p x : Int} (hp : 0 ≤ p ∧ p ≤ 99) (hx : 0 ≤ x ∧ x ≤ 10000) : 0 ≤ p * max 0 (100 - x) ∧ p * max 0 (100 - x) ≤ 9900 := by
  have h : 0 ≤ max 0 (100 - x) ∧ max 0 (100 - x) ≤ 100 := by omega
  constructor
  · exact Int.mul_nonneg hp.1 h.1
  · calc p * max 0 (100 - x) ≤ 99 * 100 := Int.mul_le_mul hp.2 h.2 h.1 (by decide)
      _ = 9900 := by decide
set_option maxRecDepth 100000 in
set_option maxHeartbeats 4000000 in
theorem k_cheese {g : mh_G} {d : Nat} (hd : 2 ≤ d) {h : Nat → Int → Int} (hF : mh_FX h) {s : Int → Int} (r82 : h 82 = s) {k x : Int} (hk : 0 ≤ k ∧ k < 9) (hx : 0 ≤ x ∧ x ≤ 9999) (hp : 0 ≤ s (6 + 3 * k + 2) ∧ s (6 + 3 * k + 2) ≤ 99) : mh_MP g d yX12_cheese cX12_cheese 3 (some .int) 96 [.ref 81, .int (Int32.ofInt (k)), .int (Int32.ofInt (x))] h (some (.int (Int32.ofInt (sp_cheese s k x)))) := by
  refine mh_M_of RX12 rfl (by decide +kernel) [some (.ref 81), some (.int (Int32.ofInt (k))), some (.int (Int32.ofInt (x)))] rfl (Nat.le_of_ble_eq_true rfl) (fun f F Z hn0 hR => ?_)
  have hmd := mh_muld (x := x) hp (by omega)
  refine mh_aload0 (pc := 0) F dX12_cheese_0 ?_
  refine mh_iload1 (pc := 1) F dX12_cheese_1 ?_
  refine mh_iconst (pc := 2) F dX12_cheese_2 ?_
  refine mh_callVp (pc := 3) (As := [.int (Int32.ofInt (k)), .int (Int32.ofInt (2))]) (st := []) F (by omega) (k_ofHillNow (by omega) hF r82 (by omega) (by omega)) wv_RX12_98_yX12_ofHillNow dX12_cheese_3 sh_81 rfl (by decide) rfl rfl (Nat.le_of_ble_eq_true rfl) ⟨Nat.zero_le _, Nat.zero_le _⟩ ?_
  refine mh_iconst (pc := 6) F dX12_cheese_6 ?_
  refine mh_bipush (pc := 7) F dX12_cheese_7 rfl ?_
  refine mh_iload2 (pc := 9) F dX12_cheese_9 ?_
  refine mh_isub (pc := 10) F dX12_cheese_10 ?_
  refine mh_callSp (pc := 11) (As := [.int (Int32.ofInt (0)), .int (Int32.ofInt (100 - x))]) (st := [.int (Int32.ofInt (s (6 + 3 * k + 2)))]) F (by omega) (k_max (by omega) (by omega) (by omega)) ws_RX12_60 dX12_cheese_11 rfl rfl (Nat.le_of_ble_eq_true rfl) ⟨Nat.zero_le _, Nat.zero_le _⟩ ?_
  refine mh_imul (pc := 14) F dX12_cheese_14 ?_
  refine mh_bipush (pc := 15) F dX12_cheese_15 rfl ?_
  refine mh_idiv (pc := 17) F dX12_cheese_17 (by omega) (by omega) (by omega) ?_
  exact mh_ireturnp F Z dX12_cheese_18 rfl rfl

set_option maxRecDepth 100000 in
set_option maxHeartbeats 4000000 in
theorem k_takes {g : mh_G} {d : Nat} (hd : 3 ≤ d) {h : Nat → Int → Int} (hF : mh_FX h) {s : Int → Int} (r82 : h 82 = s) {v : Int} (hv : -100000 ≤ v ∧ v ≤ 100000) (h1 : -99999 ≤ s 1 ∧ s 1 ≤ 99999) : mh_M g d yX12_takes cX12_takes 2 none 96 0 0 [.ref 81, .int (Int32.ofInt (v))] h (fun r h2 => r = none ∧ mh_FX h2 ∧ mh_fr [82] h h2 ∧ h2 82 = sp_takes s v) := by
  refine mh_M_of RX12 rfl (by decide +kernel) [some (.ref 81), some (.int (Int32.ofInt (v)))] rfl (Nat.le_of_ble_eq_true rfl) (fun f F Z hn0 hR => ?_)
  refine mh_aload0 (pc := 0) F dX12_takes_0 ?_
  refine mh_getr (b := 82) (pc := 1) F sh_81 (by decide) fw_RX12_9_12 dX12_takes_1 rfl (fx_81_0 hF) ?_
  refine mh_iconst (pc := 4) F dX12_takes_4 ?_
  refine mh_aload0 (pc := 5) F dX12_takes_5 ?_
  refine mh_getr (b := 82) (pc := 6) F sh_81 (by decide) fw_RX12_9_12 dX12_takes_6 rfl (fx_81_0 hF) ?_
  refine mh_iconst (pc := 9) F dX12_takes_9 ?_
  refine mh_ialoadr (pc := 10) F sh_82 (by decide) (by omega) dX12_takes_10 r82 ?_
  refine mh_iload1 (pc := 11) F dX12_takes_11 ?_
  refine mh_iadd (pc := 12) F dX12_takes_12 ?_
  refine mh_ldc (x := -99999) (pc := 13) F dX12_takes_13 (by rw [show Int32.ofInt (-99999) = (-99999 : Int32) from by decide +kernel]; exact tw_6_132) ?_
  refine mh_ldc (x := 99999) (pc := 15) F dX12_takes_15 tw_6_133 ?_
  refine mh_callSp (pc := 17) (As := [.int (Int32.ofInt ((s 1) + v)), .int (Int32.ofInt (-99999)), .int (Int32.ofInt (99999))]) (st := [.int (Int32.ofInt (1)), .ref 82]) F (by omega) (k_held (by omega) (by omega) (by omega) (by omega)) ws_RX12_95 dX12_takes_17 rfl rfl (Nat.le_of_ble_eq_true rfl) ⟨Nat.zero_le _, Nat.zero_le _⟩ ?_
  refine mh_iastore (pc := 20) F sh_82 (by decide) (by omega) dX12_takes_20 ?_
  refine mh_nmh (fun h1 e1 => ?_)
  have F1 : mh_FX h1 := by rw [e1]; exact hF.upa rfl
  have r82_1 : h1 82 = mh_ur s 1 (sp_held ((s 1) + v) (-99999) (99999)) := by rw [e1, mh_up_rs, r82]
  have fr1 : mh_fr [82] h h1 := mh_fr.up mh_fr.rf e1
  exact mh_return F Z dX12_takes_21 ⟨rfl, F1, (fr1.mono (by simp)), r82_1⟩

set_option maxRecDepth 100000 in
set_option maxHeartbeats 4000000 in
theorem k_sours {g : mh_G} {d : Nat} (hd : 3 ≤ d) {h : Nat → Int → Int} (hF : mh_FX h) {s : Int → Int} (r82 : h 82 = s) {k v : Int} (hk : 0 ≤ k ∧ k < 6) (hv : 0 ≤ v ∧ v ≤ 100000) (h5 : 0 ≤ s (41 + 9 * k + 5) ∧ s (41 + 9 * k + 5) ≤ 9999) : mh_M g d yX12_sours cX12_sours 3 none 96 0 0 [.ref 81, .int (Int32.ofInt (k)), .int (Int32.ofInt (v))] h (fun r h2 => r = none ∧ mh_FX h2 ∧ mh_fr [82] h h2 ∧ h2 82 = sp_sours s k v) := by
  refine mh_M_of RX12 rfl (by decide +kernel) [some (.ref 81), some (.int (Int32.ofInt (k))), some (.int (Int32.ofInt (v)))] rfl (Nat.le_of_ble_eq_true rfl) (fun f F Z hn0 hR => ?_)
  refine mh_aload0 (pc := 0) F dX12_sours_0 ?_
  refine mh_iload1 (pc := 1) F dX12_sours_1 ?_
  refine mh_iconst (pc := 2) F dX12_sours_2 ?_
  refine mh_aload0 (pc := 3) F dX12_sours_3 ?_
  refine mh_iload1 (pc := 4) F dX12_sours_4 ?_
  refine mh_iconst (pc := 5) F dX12_sours_5 ?_
  refine mh_callVp (pc := 6) (As := [.int (Int32.ofInt (k)), .int (Int32.ofInt (5))]) (st := [.int (Int32.ofInt (5)), .int (Int32.ofInt (k)), .ref 81]) F (by omega) (k_its (by omega) hF r82 (by omega) (by omega)) wv_RX12_79_yX12_its dX12_sours_6 sh_81 rfl (by decide) rfl rfl (Nat.le_of_ble_eq_true rfl) ⟨Nat.zero_le _, Nat.zero_le _⟩ ?_
  refine mh_iload2 (pc := 9) F dX12_sours_9 ?_
  refine mh_iadd (pc := 10) F dX12_sours_10 ?_
  refine mh_iconst (pc := 11) F dX12_sours_11 ?_
  refine mh_sipush (pc := 12) F dX12_sours_12 rfl ?_
  refine mh_callSp (pc := 15) (As := [.int (Int32.ofInt ((s (41 + 9 * k + 5)) + v)), .int (Int32.ofInt (0)), .int (Int32.ofInt (9999))]) (st := [.int (Int32.ofInt (5)), .int (Int32.ofInt (k)), .ref 81]) F (by omega) (k_held (by omega) (by omega) (by omega) (by omega)) ws_RX12_95 dX12_sours_15 rfl rfl (Nat.le_of_ble_eq_true rfl) ⟨Nat.zero_le _, Nat.zero_le _⟩ ?_
  refine mh_callV0 (pc := 18) (As := [.int (Int32.ofInt (k)), .int (Int32.ofInt (5)), .int (Int32.ofInt (sp_held ((s (41 + 9 * k + 5)) + v) (0) (9999)))]) (st := []) F (by omega) (k_sets (by omega) hF r82 (by omega) (by omega)) wv_RX12_140_yX12_sets dX12_sours_18 sh_81 rfl (by decide) rfl rfl (Nat.le_of_ble_eq_true rfl) ⟨Nat.zero_le _, Nat.zero_le _⟩ (fun r1 h1 q1 => ?_)
  obtain ⟨rfl, F1, fr1, q1_0⟩ := q1
  have fr2 : mh_fr [82] h h1 := (mh_fr.tr mh_fr.rf fr1).mono (by simp)
  exact mh_return F Z dX12_sours_21 ⟨rfl, F1, (fr2.mono (by simp)), q1_0⟩

