theorem mh_tdivb {v k : Int} (h : 0 ≤ v) (hk : 0 < k) : v.tdiv k = v / k ∧ 0 ≤ v / k ∧ v / k ≤ v := by
  refine ⟨Int.tdiv_eq_ediv_of_nonneg h, Int.ediv_nonneg h (by omega), Int.ediv_le_self _ h⟩
theorem mh_cmp_rg {x y : Int} : -2147483648 ≤ mh_cmp x y ∧ mh_cmp x y < 2147483648 := by unfold mh_cmp; split; decide; split <;> decide
theorem mh_cmp_lt0 {x y : Int} : mh_cmp x y < 0 ↔ x < y := by unfold mh_cmp; split; omega; split <;> omega
theorem mh_cmp_gt0 {x y : Int} : 0 < mh_cmp x y ↔ y < x := by unfold mh_cmp; split; omega; split <;> omega
theorem mh_cmp_eq0 {x y : Int} : mh_cmp x y = 0 ↔ x = y := by unfold mh_cmp; split; omega; split <;> omega
theorem mh_Bx {p : Prop} [Decidable p] : (mh_B p = 1 ∧ p) ∨ (mh_B p = 0 ∧ ¬ p) := by
  by_cases q : p
  · exact Or.inl ⟨mh_B1 q, q⟩
  · exact Or.inr ⟨mh_B0 q, q⟩
theorem mh_lkd {ps : List (Int × Int)} {dflt x : Int} (h : ∀ q ∈ ps, x ≠ q.1) : Op.lookupswitch.offset ps dflt x = dflt := by
  induction ps with
  | nil => rfl
  | cons q r ih =>
    obtain ⟨k, o⟩ := q
    have h1 := h (k, o) List.mem_cons_self
    unfold Op.lookupswitch.offset
    rw [if_neg (by first | exact h1 | exact fun z => h1 z.symm | simpa using h1 | simpa using (Ne.symm h1))]
    exact ih (fun q hq => h q (List.mem_cons_of_mem _ hq))
set_option maxRecDepth 100000 in
set_option maxHeartbeats 4000000 in
theorem k_max {g : mh_G} {d : Nat} (hd : 1 ≤ d) {h : Nat → Int → Int} {x y : Int} (hx : -2147483648 ≤ x ∧ x < 2147483648) (hy : -2147483648 ≤ y ∧ y < 2147483648) : mh_MP g d yJ9_max_7cf53 cJ9_max_7cf53 2 (some .int) 96 [.int (Int32.ofInt (x)), .int (Int32.ofInt (y))] h (some (.int (Int32.ofInt (max x y)))) := by
  refine mh_M_ofJ RJ9 rfl (by decide +kernel) [some (.int (Int32.ofInt (x))), some (.int (Int32.ofInt (y)))] rfl (Nat.le_of_ble_eq_true rfl) (fun f F Z hn0 hR => ?_)
  refine mh_iload0 (pc := 0) F dJ9_max_7cf53_0 ?_
  refine mh_iload1 (pc := 1) F dJ9_max_7cf53_1 ?_
  refine mh_icmp_lt (pc := 2) (tgt := 9) F dJ9_max_7cf53_2 rfl (by omega) (by omega) (fun c_2 => ?_) (fun c_2 => ?_)
  · refine mh_iload1 (pc := 9) F dJ9_max_7cf53_9 ?_
    exact mh_ireturnp F Z dJ9_max_7cf53_10 (by omega) rfl
  · refine mh_iload0 (pc := 5) F dJ9_max_7cf53_5 ?_
    refine mh_goto (pc := 6) (tgt := 10) F dJ9_max_7cf53_6 rfl ?_
    exact mh_ireturnp F Z dJ9_max_7cf53_10 (by omega) rfl

set_option maxRecDepth 100000 in
set_option maxHeartbeats 4000000 in
theorem k_min {g : mh_G} {d : Nat} (hd : 1 ≤ d) {h : Nat → Int → Int} {x y : Int} (hx : -2147483648 ≤ x ∧ x < 2147483648) (hy : -2147483648 ≤ y ∧ y < 2147483648) : mh_MP g d yJ9_min_7cf53 cJ9_min_7cf53 2 (some .int) 96 [.int (Int32.ofInt (x)), .int (Int32.ofInt (y))] h (some (.int (Int32.ofInt (min x y)))) := by
  refine mh_M_ofJ RJ9 rfl (by decide +kernel) [some (.int (Int32.ofInt (x))), some (.int (Int32.ofInt (y)))] rfl (Nat.le_of_ble_eq_true rfl) (fun f F Z hn0 hR => ?_)
  refine mh_iload0 (pc := 0) F dJ9_min_7cf53_0 ?_
  refine mh_iload1 (pc := 1) F dJ9_min_7cf53_1 ?_
  refine mh_icmp_gt (pc := 2) (tgt := 9) F dJ9_min_7cf53_2 rfl (by omega) (by omega) (fun c_2 => ?_) (fun c_2 => ?_)
  · refine mh_iload1 (pc := 9) F dJ9_min_7cf53_9 ?_
    exact mh_ireturnp F Z dJ9_min_7cf53_10 (by omega) rfl
  · refine mh_iload0 (pc := 5) F dJ9_min_7cf53_5 ?_
    refine mh_goto (pc := 6) (tgt := 10) F dJ9_min_7cf53_6 rfl ?_
    exact mh_ireturnp F Z dJ9_min_7cf53_10 (by omega) rfl

set_option maxRecDepth 100000 in
set_option maxHeartbeats 4000000 in
theorem k_in {g : mh_G} {d : Nat} (hd : 1 ≤ d) {h : Nat → Int → Int} {x y z : Int} (hx : -2147483648 ≤ x ∧ x < 2147483648) (hy : -2147483648 ≤ y ∧ y < 2147483648) (hz : -2147483648 ≤ z ∧ z < 2147483648) : mh_MP g d yX12_in cX12_in 6 (some .boolean) 96 [.long (Int64.ofInt (x)), .long (Int64.ofInt (y)), .long (Int64.ofInt (z))] h (some (.int (Int32.ofInt (mh_B (y ≤ x ∧ x ≤ z))))) := by
  refine mh_M_of RX12 rfl (by decide +kernel) [some (.long (Int64.ofInt (x))), none, some (.long (Int64.ofInt (y))), none, some (.long (Int64.ofInt (z))), none] rfl (Nat.le_of_ble_eq_true rfl) (fun f F Z hn0 hR => ?_)
  refine mh_lload0 (pc := 0) F dX12_in_0 ?_
  refine mh_lload2 (pc := 1) F dX12_in_1 ?_
  refine mh_lcmp (pc := 2) F dX12_in_2 (by omega) (by omega) ?_
  refine mh_if_lt (pc := 3) (tgt := 17) F dX12_in_3 rfl mh_cmp_rg (fun c_3 => ?_) (fun c_3 => ?_)
  · refine mh_iconst (pc := 17) F dX12_in_17 ?_
    exact mh_zreturnp F Z dX12_in_18 (Or.inr ⟨rfl, (by simp only [mh_cmp_lt0, mh_cmp_gt0] at *; omega)⟩) rfl
  · refine mh_lload0 (pc := 6) F dX12_in_6 ?_
    refine mh_lload4 (pc := 7) F dX12_in_7 ?_
    refine mh_lcmp (pc := 9) F dX12_in_9 (by omega) (by omega) ?_
    refine mh_if_gt (pc := 10) (tgt := 17) F dX12_in_10 rfl mh_cmp_rg (fun c_10 => ?_) (fun c_10 => ?_)
    · refine mh_iconst (pc := 17) F dX12_in_17 ?_
      exact mh_zreturnp F Z dX12_in_18 (Or.inr ⟨rfl, (by simp only [mh_cmp_lt0, mh_cmp_gt0] at *; omega)⟩) rfl
    · refine mh_iconst (pc := 13) F dX12_in_13 ?_
      refine mh_goto (pc := 14) (tgt := 18) F dX12_in_14 rfl ?_
      exact mh_zreturnp F Z dX12_in_18 (Or.inl ⟨rfl, (by simp only [mh_cmp_lt0, mh_cmp_gt0] at *; omega)⟩) rfl

set_option maxRecDepth 100000 in
set_option maxHeartbeats 4000000 in
theorem k_isHill {g : mh_G} {d : Nat} (hd : 2 ≤ d) {h : Nat → Int → Int} {x : Int} (hx : -2147483648 ≤ x ∧ x < 2147483648) : mh_MP g d yX12_isHill cX12_isHill 1 (some .boolean) 96 [.int (Int32.ofInt (x))] h (some (.int (Int32.ofInt (mh_B (0 ≤ x ∧ x ≤ 8))))) := by
  refine mh_M_of RX12 rfl (by decide +kernel) [some (.int (Int32.ofInt (x)))] rfl (Nat.le_of_ble_eq_true rfl) (fun f F Z hn0 hR => ?_)
  refine mh_iload0 (pc := 0) F dX12_isHill_0 ?_
  refine mh_i2l (pc := 1) F dX12_isHill_1 (by omega) ?_
  refine mh_lconst (x := 0) (pc := 2) F dX12_isHill_2 rfl ?_
  refine mh_ldc2 (x := 8) (pc := 3) F dX12_isHill_3 tw_5_222 ?_
  refine mh_callSp (pc := 6) (As := [.long (Int64.ofInt (x)), .long (Int64.ofInt (0)), .long (Int64.ofInt (8))]) (st := []) F (by omega) (k_in (by omega) (by omega) (by omega) (by omega)) ws_RX12_69 dX12_isHill_6 rfl rfl (Nat.le_of_ble_eq_true rfl) ⟨Nat.zero_le _, Nat.zero_le _⟩ ?_
  exact mh_zreturnp F Z dX12_isHill_9 mh_Bx rfl

set_option maxRecDepth 100000 in
set_option maxHeartbeats 4000000 in
theorem k_isCarrier {g : mh_G} {d : Nat} (hd : 2 ≤ d) {h : Nat → Int → Int} {x : Int} (hx : -2147483648 ≤ x ∧ x < 2147483648) : mh_MP g d yX12_isCarrier cX12_isCarrier 1 (some .boolean) 96 [.int (Int32.ofInt (x))] h (some (.int (Int32.ofInt (mh_B (0 ≤ x ∧ x ≤ 3))))) := by
  refine mh_M_of RX12 rfl (by decide +kernel) [some (.int (Int32.ofInt (x)))] rfl (Nat.le_of_ble_eq_true rfl) (fun f F Z hn0 hR => ?_)
  refine mh_iload0 (pc := 0) F dX12_isCarrier_0 ?_
  refine mh_i2l (pc := 1) F dX12_isCarrier_1 (by omega) ?_
  refine mh_lconst (x := 0) (pc := 2) F dX12_isCarrier_2 rfl ?_
  refine mh_ldc2 (x := 3) (pc := 3) F dX12_isCarrier_3 tw_6_39 ?_
  refine mh_callSp (pc := 6) (As := [.long (Int64.ofInt (x)), .long (Int64.ofInt (0)), .long (Int64.ofInt (3))]) (st := []) F (by omega) (k_in (by omega) (by omega) (by omega) (by omega)) ws_RX12_69 dX12_isCarrier_6 rfl rfl (Nat.le_of_ble_eq_true rfl) ⟨Nat.zero_le _, Nat.zero_le _⟩ ?_
  exact mh_zreturnp F Z dX12_isCarrier_9 mh_Bx rfl

set_option maxRecDepth 100000 in
set_option maxHeartbeats 4000000 in
theorem k_isKind {g : mh_G} {d : Nat} (hd : 2 ≤ d) {h : Nat → Int → Int} {x : Int} (hx : -2147483648 ≤ x ∧ x < 2147483648) : mh_MP g d yX12_isKind cX12_isKind 1 (some .boolean) 96 [.int (Int32.ofInt (x))] h (some (.int (Int32.ofInt (mh_B (0 ≤ x ∧ x ≤ 69))))) := by
  refine mh_M_of RX12 rfl (by decide +kernel) [some (.int (Int32.ofInt (x)))] rfl (Nat.le_of_ble_eq_true rfl) (fun f F Z hn0 hR => ?_)
  refine mh_iload0 (pc := 0) F dX12_isKind_0 ?_
  refine mh_i2l (pc := 1) F dX12_isKind_1 (by omega) ?_
  refine mh_lconst (x := 0) (pc := 2) F dX12_isKind_2 rfl ?_
  refine mh_ldc2 (x := 69) (pc := 3) F dX12_isKind_3 tw_6_53 ?_
  refine mh_callSp (pc := 6) (As := [.long (Int64.ofInt (x)), .long (Int64.ofInt (0)), .long (Int64.ofInt (69))]) (st := []) F (by omega) (k_in (by omega) (by omega) (by omega) (by omega)) ws_RX12_69 dX12_isKind_6 rfl rfl (Nat.le_of_ble_eq_true rfl) ⟨Nat.zero_le _, Nat.zero_le _⟩ ?_
  exact mh_zreturnp F Z dX12_isKind_9 mh_Bx rfl

set_option maxRecDepth 100000 in
set_option maxHeartbeats 4000000 in
theorem k_isSheet {g : mh_G} {d : Nat} (hd : 2 ≤ d) {h : Nat → Int → Int} {x : Int} (hx : -2147483648 ≤ x ∧ x < 2147483648) : mh_MP g d yX12_isSheet cX12_isSheet 1 (some .boolean) 96 [.int (Int32.ofInt (x))] h (some (.int (Int32.ofInt (mh_B (0 ≤ x ∧ x ≤ 3))))) := by
  refine mh_M_of RX12 rfl (by decide +kernel) [some (.int (Int32.ofInt (x)))] rfl (Nat.le_of_ble_eq_true rfl) (fun f F Z hn0 hR => ?_)
  refine mh_iload0 (pc := 0) F dX12_isSheet_0 ?_
  refine mh_i2l (pc := 1) F dX12_isSheet_1 (by omega) ?_
  refine mh_lconst (x := 0) (pc := 2) F dX12_isSheet_2 rfl ?_
  refine mh_ldc2 (x := 3) (pc := 3) F dX12_isSheet_3 tw_6_39 ?_
  refine mh_callSp (pc := 6) (As := [.long (Int64.ofInt (x)), .long (Int64.ofInt (0)), .long (Int64.ofInt (3))]) (st := []) F (by omega) (k_in (by omega) (by omega) (by omega) (by omega)) ws_RX12_69 dX12_isSheet_6 rfl rfl (Nat.le_of_ble_eq_true rfl) ⟨Nat.zero_le _, Nat.zero_le _⟩ ?_
  exact mh_zreturnp F Z dX12_isSheet_9 mh_Bx rfl

set_option maxRecDepth 100000 in
set_option maxHeartbeats 4000000 in
theorem k_isChurn {g : mh_G} {d : Nat} (hd : 2 ≤ d) {h : Nat → Int → Int} (hF : mh_FX h) {s : Int → Int} (r82 : h 82 = s) {x : Int} (hx : -2147483648 ≤ x ∧ x < 2147483648) (hm : 0 ≤ s 3 ∧ s 3 ≤ 6) : mh_MP g d yX12_isChurn cX12_isChurn 2 (some .boolean) 96 [.ref 81, .int (Int32.ofInt (x))] h (some (.int (Int32.ofInt (mh_B (0 ≤ x ∧ x ≤ s 3 - 1))))) := by
  refine mh_M_of RX12 rfl (by decide +kernel) [some (.ref 81), some (.int (Int32.ofInt (x)))] rfl (Nat.le_of_ble_eq_true rfl) (fun f F Z hn0 hR => ?_)
  refine mh_iload1 (pc := 0) F dX12_isChurn_0 ?_
  refine mh_i2l (pc := 1) F dX12_isChurn_1 (by omega) ?_
  refine mh_lconst (x := 0) (pc := 2) F dX12_isChurn_2 rfl ?_
  refine mh_aload0 (pc := 3) F dX12_isChurn_3 ?_
  refine mh_getr (b := 82) (pc := 4) F sh_81 (by decide) fw_RX12_9_12 dX12_isChurn_4 rfl (fx_81_0 hF) ?_
  refine mh_iconst (pc := 7) F dX12_isChurn_7 ?_
  refine mh_ialoadr (pc := 8) F sh_82 (by decide) (by omega) dX12_isChurn_8 r82 ?_
  refine mh_iconst (pc := 9) F dX12_isChurn_9 ?_
  refine mh_isub (pc := 10) F dX12_isChurn_10 ?_
  refine mh_i2l (pc := 11) F dX12_isChurn_11 (by omega) ?_
  refine mh_callSp (pc := 12) (As := [.long (Int64.ofInt (x)), .long (Int64.ofInt (0)), .long (Int64.ofInt ((s 3) - 1))]) (st := []) F (by omega) (k_in (by omega) (by omega) (by omega) (by omega)) ws_RX12_69 dX12_isChurn_12 rfl rfl (Nat.le_of_ble_eq_true rfl) ⟨Nat.zero_le _, Nat.zero_le _⟩ ?_
  exact mh_zreturnp F Z dX12_isChurn_15 mh_Bx rfl

set_option maxRecDepth 100000 in
set_option maxHeartbeats 4000000 in
theorem k_held {g : mh_G} {d : Nat} (hd : 2 ≤ d) {h : Nat → Int → Int} {v a b : Int} (hv : -2147483648 ≤ v ∧ v < 2147483648) (ha : -2147483648 ≤ a ∧ a < 2147483648) (hb : -2147483648 ≤ b ∧ b < 2147483648) : mh_MP g d yX12_held cX12_held 3 (some .int) 96 [.int (Int32.ofInt (v)), .int (Int32.ofInt (a)), .int (Int32.ofInt (b))] h (some (.int (Int32.ofInt (sp_held v a b)))) := by
  refine mh_M_of RX12 rfl (by decide +kernel) [some (.int (Int32.ofInt (v))), some (.int (Int32.ofInt (a))), some (.int (Int32.ofInt (b)))] rfl (Nat.le_of_ble_eq_true rfl) (fun f F Z hn0 hR => ?_)
  refine mh_iload1 (pc := 0) F dX12_held_0 ?_
  refine mh_iload2 (pc := 1) F dX12_held_1 ?_
  refine mh_iload0 (pc := 2) F dX12_held_2 ?_
  refine mh_callSp (pc := 3) (As := [.int (Int32.ofInt (b)), .int (Int32.ofInt (v))]) (st := [.int (Int32.ofInt (a))]) F (by omega) (k_min (by omega) (by omega) (by omega)) ws_RX12_54 dX12_held_3 rfl rfl (Nat.le_of_ble_eq_true rfl) ⟨Nat.zero_le _, Nat.zero_le _⟩ ?_
  refine mh_callSp (pc := 6) (As := [.int (Int32.ofInt (a)), .int (Int32.ofInt (min (b) (v)))]) (st := []) F (by omega) (k_max (by omega) (by omega) (by omega)) ws_RX12_60 dX12_held_6 rfl rfl (Nat.le_of_ble_eq_true rfl) ⟨Nat.zero_le _, Nat.zero_le _⟩ ?_
  exact mh_ireturnp F Z dX12_held_9 rfl rfl

set_option maxRecDepth 100000 in
set_option maxHeartbeats 4000000 in
theorem k_its {g : mh_G} {d : Nat} (hd : 1 ≤ d) {h : Nat → Int → Int} (hF : mh_FX h) {s : Int → Int} (r82 : h 82 = s) {k x : Int} (hk : 0 ≤ k ∧ k < 6) (hx : 0 ≤ x ∧ x < 9) : mh_MP g d yX12_its cX12_its 3 (some .int) 96 [.ref 81, .int (Int32.ofInt (k)), .int (Int32.ofInt (x))] h (some (.int (Int32.ofInt (s (41 + 9 * k + x))))) := by
  refine mh_M_of RX12 rfl (by decide +kernel) [some (.ref 81), some (.int (Int32.ofInt (k))), some (.int (Int32.ofInt (x)))] rfl (Nat.le_of_ble_eq_true rfl) (fun f F Z hn0 hR => ?_)
  refine mh_aload0 (pc := 0) F dX12_its_0 ?_
  refine mh_getr (b := 82) (pc := 1) F sh_81 (by decide) fw_RX12_9_12 dX12_its_1 rfl (fx_81_0 hF) ?_
  refine mh_bipush (pc := 4) F dX12_its_4 rfl ?_
  refine mh_bipush (pc := 6) F dX12_its_6 rfl ?_
  refine mh_iload1 (pc := 8) F dX12_its_8 ?_
  refine mh_imul (pc := 9) F dX12_its_9 ?_
  refine mh_iadd (pc := 10) F dX12_its_10 ?_
  refine mh_iload2 (pc := 11) F dX12_its_11 ?_
  refine mh_iadd (pc := 12) F dX12_its_12 ?_
  refine mh_ialoadr (pc := 13) F sh_82 (by decide) (by omega) dX12_its_13 r82 ?_
  exact mh_ireturnp F Z dX12_its_14 rfl rfl

set_option maxRecDepth 100000 in
set_option maxHeartbeats 4000000 in
theorem k_ofHillNow {g : mh_G} {d : Nat} (hd : 1 ≤ d) {h : Nat → Int → Int} (hF : mh_FX h) {s : Int → Int} (r82 : h 82 = s) {k x : Int} (hk : 0 ≤ k ∧ k < 9) (hx : 0 ≤ x ∧ x < 3) : mh_MP g d yX12_ofHillNow cX12_ofHillNow 3 (some .int) 96 [.ref 81, .int (Int32.ofInt (k)), .int (Int32.ofInt (x))] h (some (.int (Int32.ofInt (s (6 + 3 * k + x))))) := by
  refine mh_M_of RX12 rfl (by decide +kernel) [some (.ref 81), some (.int (Int32.ofInt (k))), some (.int (Int32.ofInt (x)))] rfl (Nat.le_of_ble_eq_true rfl) (fun f F Z hn0 hR => ?_)
  refine mh_aload0 (pc := 0) F dX12_ofHillNow_0 ?_
  refine mh_getr (b := 82) (pc := 1) F sh_81 (by decide) fw_RX12_9_12 dX12_ofHillNow_1 rfl (fx_81_0 hF) ?_
  refine mh_bipush (pc := 4) F dX12_ofHillNow_4 rfl ?_
  refine mh_iconst (pc := 6) F dX12_ofHillNow_6 ?_
  refine mh_iload1 (pc := 7) F dX12_ofHillNow_7 ?_
  refine mh_imul (pc := 8) F dX12_ofHillNow_8 ?_
  refine mh_iadd (pc := 9) F dX12_ofHillNow_9 ?_
  refine mh_iload2 (pc := 10) F dX12_ofHillNow_10 ?_
  refine mh_iadd (pc := 11) F dX12_ofHillNow_11 ?_
  refine mh_ialoadr (pc := 12) F sh_82 (by decide) (by omega) dX12_ofHillNow_12 r82 ?_
  exact mh_ireturnp F Z dX12_ofHillNow_13 rfl rfl

set_option maxRecDepth 100000 in
set_option maxHeartbeats 4000000 in
theorem k_pace {g : mh_G} {d : Nat} (hd : 1 ≤ d) {h : Nat → Int → Int} (hF : mh_FX h) {s : Int → Int} (r82 : h 82 = s) {k : Int} (hk : 0 ≤ k ∧ k < 4) : mh_MP g d yX12_pace cX12_pace 2 (some .int) 96 [.ref 81, .int (Int32.ofInt (k))] h (some (.int (Int32.ofInt (s (33 + 2 * k))))) := by
  refine mh_M_of RX12 rfl (by decide +kernel) [some (.ref 81), some (.int (Int32.ofInt (k)))] rfl (Nat.le_of_ble_eq_true rfl) (fun f F Z hn0 hR => ?_)
  refine mh_aload0 (pc := 0) F dX12_pace_0 ?_
  refine mh_getr (b := 82) (pc := 1) F sh_81 (by decide) fw_RX12_9_12 dX12_pace_1 rfl (fx_81_0 hF) ?_
  refine mh_bipush (pc := 4) F dX12_pace_4 rfl ?_
  refine mh_iconst (pc := 6) F dX12_pace_6 ?_
  refine mh_iload1 (pc := 7) F dX12_pace_7 ?_
  refine mh_imul (pc := 8) F dX12_pace_8 ?_
  refine mh_iadd (pc := 9) F dX12_pace_9 ?_
  refine mh_ialoadr (pc := 10) F sh_82 (by decide) (by omega) dX12_pace_10 r82 ?_
  exact mh_ireturnp F Z dX12_pace_11 rfl rfl

set_option maxRecDepth 100000 in
set_option maxHeartbeats 4000000 in
theorem k_shake {g : mh_G} {d : Nat} (hd : 1 ≤ d) {h : Nat → Int → Int} (hF : mh_FX h) {s : Int → Int} (r82 : h 82 = s) {k : Int} (hk : 0 ≤ k ∧ k < 4) : mh_MP g d yX12_shake cX12_shake 2 (some .int) 96 [.ref 81, .int (Int32.ofInt (k))] h (some (.int (Int32.ofInt (s (33 + 2 * k + 1))))) := by
  refine mh_M_of RX12 rfl (by decide +kernel) [some (.ref 81), some (.int (Int32.ofInt (k)))] rfl (Nat.le_of_ble_eq_true rfl) (fun f F Z hn0 hR => ?_)
  refine mh_aload0 (pc := 0) F dX12_shake_0 ?_
  refine mh_getr (b := 82) (pc := 1) F sh_81 (by decide) fw_RX12_9_12 dX12_shake_1 rfl (fx_81_0 hF) ?_
  refine mh_bipush (pc := 4) F dX12_shake_4 rfl ?_
  refine mh_iconst (pc := 6) F dX12_shake_6 ?_
  refine mh_iload1 (pc := 7) F dX12_shake_7 ?_
  refine mh_imul (pc := 8) F dX12_shake_8 ?_
  refine mh_iadd (pc := 9) F dX12_shake_9 ?_
  refine mh_iconst (pc := 10) F dX12_shake_10 ?_
  refine mh_iadd (pc := 11) F dX12_shake_11 ?_
  refine mh_ialoadr (pc := 12) F sh_82 (by decide) (by omega) dX12_shake_12 r82 ?_
  exact mh_ireturnp F Z dX12_shake_13 rfl rfl

set_option maxRecDepth 100000 in
set_option maxHeartbeats 4000000 in
theorem k_mostOf {g : mh_G} {d : Nat} (hd : 1 ≤ d) {h : Nat → Int → Int} {x : Int} (hx : -2147483648 ≤ x ∧ x < 2147483648) : mh_MP g d yX12_mostOf cX12_mostOf 1 (some .int) 96 [.int (Int32.ofInt (x))] h (some (.int (Int32.ofInt (if x = 0 then 40 else if x = 1 then 3 else 99)))) := by
  refine mh_M_of RX12 rfl (by decide +kernel) [some (.int (Int32.ofInt (x)))] rfl (Nat.le_of_ble_eq_true rfl) (fun f F Z hn0 hR => ?_)
  refine mh_iload0 (pc := 0) F dX12_mostOf_0 ?_
  refine mh_if_ne (pc := 1) (tgt := 9) F dX12_mostOf_1 rfl (by omega) (fun c_1 => ?_) (fun c_1 => ?_)
  · refine mh_iload0 (pc := 9) F dX12_mostOf_9 ?_
    refine mh_iconst (pc := 10) F dX12_mostOf_10 ?_
    refine mh_icmp_ne (pc := 11) (tgt := 18) F dX12_mostOf_11 rfl (by omega) (by omega) (fun c_11 => ?_) (fun c_11 => ?_)
    · refine mh_bipush (pc := 18) F dX12_mostOf_18 rfl ?_
      exact mh_ireturnp F Z dX12_mostOf_20 (by grind) rfl
    · refine mh_iconst (pc := 14) F dX12_mostOf_14 ?_
      refine mh_goto (pc := 15) (tgt := 20) F dX12_mostOf_15 rfl ?_
      exact mh_ireturnp F Z dX12_mostOf_20 (by grind) rfl
  · refine mh_bipush (pc := 4) F dX12_mostOf_4 rfl ?_
    refine mh_goto (pc := 6) (tgt := 20) F dX12_mostOf_6 rfl ?_
    exact mh_ireturnp F Z dX12_mostOf_20 (by grind) rfl

set_option maxRecDepth 100000 in
set_option maxHeartbeats 4000000 in
theorem k_aboveOf {g : mh_G} {d : Nat} (hd : 1 ≤ d) {h : Nat → Int → Int} {k : Int} (hk : 0 ≤ k ∧ k ≤ 6) : mh_MP g d yX12_aboveOf cX12_aboveOf 1 (some .int) 96 [.int (Int32.ofInt (k))] h (some (.int (Int32.ofInt (if k = 4 then 1 else if k = 5 then 2 else if k = 6 then 3 else 0)))) := by
  refine mh_M_of RX12 rfl (by decide +kernel) [some (.int (Int32.ofInt (k)))] rfl (Nat.le_of_ble_eq_true rfl) (fun f F Z hn0 hR => ?_)
  refine mh_iload0 (pc := 0) F dX12_aboveOf_0 ?_
  refine mh_iconst (pc := 1) F dX12_aboveOf_1 ?_
  refine mh_icmp_ne (pc := 2) (tgt := 9) F dX12_aboveOf_2 rfl (by omega) (by omega) (fun c_2 => ?_) (fun c_2 => ?_)
  · refine mh_iload0 (pc := 9) F dX12_aboveOf_9 ?_
    refine mh_iconst (pc := 10) F dX12_aboveOf_10 ?_
    refine mh_icmp_ne (pc := 11) (tgt := 18) F dX12_aboveOf_11 rfl (by omega) (by omega) (fun c_11 => ?_) (fun c_11 => ?_)
    · refine mh_iload0 (pc := 18) F dX12_aboveOf_18 ?_
      refine mh_bipush (pc := 19) F dX12_aboveOf_19 rfl ?_
      refine mh_icmp_ne (pc := 21) (tgt := 28) F dX12_aboveOf_21 rfl (by omega) (by omega) (fun c_21 => ?_) (fun c_21 => ?_)
      · refine mh_iconst (pc := 28) F dX12_aboveOf_28 ?_
        exact mh_ireturnp F Z dX12_aboveOf_29 (by grind) rfl
      · refine mh_iconst (pc := 24) F dX12_aboveOf_24 ?_
        refine mh_goto (pc := 25) (tgt := 29) F dX12_aboveOf_25 rfl ?_
        exact mh_ireturnp F Z dX12_aboveOf_29 (by grind) rfl
    · refine mh_iconst (pc := 14) F dX12_aboveOf_14 ?_
      refine mh_goto (pc := 15) (tgt := 29) F dX12_aboveOf_15 rfl ?_
      exact mh_ireturnp F Z dX12_aboveOf_29 (by grind) rfl
  · refine mh_iconst (pc := 5) F dX12_aboveOf_5 ?_
    refine mh_goto (pc := 6) (tgt := 29) F dX12_aboveOf_6 rfl ?_
    exact mh_ireturnp F Z dX12_aboveOf_29 (by grind) rfl

set_option maxRecDepth 100000 in
set_option maxHeartbeats 4000000 in
theorem k_warms {g : mh_G} {d : Nat} (hd : 2 ≤ d) {h : Nat → Int → Int} {k m v : Int} (hk : 0 ≤ k ∧ k ≤ 6) (hm : 0 ≤ m ∧ m ≤ 9) (hv : 0 ≤ v ∧ v ≤ 100000) : mh_MP g d yX12_warms cX12_warms 3 (some .int) 96 [.int (Int32.ofInt (k)), .int (Int32.ofInt (m)), .int (Int32.ofInt (v))] h (some (.int (Int32.ofInt (sp_warms k m v)))) := by
  refine mh_M_of RX12 rfl (by decide +kernel) [some (.int (Int32.ofInt (k))), some (.int (Int32.ofInt (m))), some (.int (Int32.ofInt (v)))] rfl (Nat.le_of_ble_eq_true rfl) (fun f F Z hn0 hR => ?_)
  have ht1 := mh_tdivb (k := 2) hv.1 (by decide)
  have ht2 := mh_tdivb (k := 3) hm.1 (by decide)
  refine mh_iload0 (pc := 0) F dX12_warms_0 ?_
  by_cases c_1_1 : k = 1
  · refine mh_tabIn (pc := 1) (off := 39) (tgt := 40) F dX12_warms_1 (by omega) (by omega) (by omega) (by rw [c_1_1]; rfl) rfl ?_
    refine mh_iload2 (pc := 40) F dX12_warms_40 ?_
    refine mh_iload1 (pc := 41) F dX12_warms_41 ?_
    refine mh_iconst (pc := 42) F dX12_warms_42 ?_
    refine mh_idiv (pc := 43) F dX12_warms_43 (by omega) (by omega) (by omega) ?_
    refine mh_iadd (pc := 44) F dX12_warms_44 ?_
    exact mh_ireturnp F Z dX12_warms_45 (by unfold sp_warms; grind) rfl
  by_cases c_1_2 : k = 2
  · refine mh_tabIn (pc := 1) (off := 45) (tgt := 46) F dX12_warms_1 (by omega) (by omega) (by omega) (by rw [c_1_2]; rfl) rfl ?_
    refine mh_iload2 (pc := 46) F dX12_warms_46 ?_
    refine mh_iconst (pc := 47) F dX12_warms_47 ?_
    refine mh_idiv (pc := 48) F dX12_warms_48 (by omega) (by omega) (by omega) ?_
    exact mh_ireturnp F Z dX12_warms_49 (by unfold sp_warms; grind) rfl
  by_cases c_1_3 : k = 3
  · refine mh_tabIn (pc := 1) (off := 63) (tgt := 64) F dX12_warms_1 (by omega) (by omega) (by omega) (by rw [c_1_3]; rfl) rfl ?_
    refine mh_iload2 (pc := 64) F dX12_warms_64 ?_
    exact mh_ireturnp F Z dX12_warms_65 (by unfold sp_warms; grind) rfl
  by_cases c_1_4 : k = 4
  · refine mh_tabIn (pc := 1) (off := 39) (tgt := 40) F dX12_warms_1 (by omega) (by omega) (by omega) (by rw [c_1_4]; rfl) rfl ?_
    refine mh_iload2 (pc := 40) F dX12_warms_40 ?_
    refine mh_iload1 (pc := 41) F dX12_warms_41 ?_
    refine mh_iconst (pc := 42) F dX12_warms_42 ?_
    refine mh_idiv (pc := 43) F dX12_warms_43 (by omega) (by omega) (by omega) ?_
    refine mh_iadd (pc := 44) F dX12_warms_44 ?_
    exact mh_ireturnp F Z dX12_warms_45 (by unfold sp_warms; grind) rfl
  by_cases c_1_5 : k = 5
  · refine mh_tabIn (pc := 1) (off := 49) (tgt := 50) F dX12_warms_1 (by omega) (by omega) (by omega) (by rw [c_1_5]; rfl) rfl ?_
    refine mh_iconst (pc := 50) F dX12_warms_50 ?_
    refine mh_iload2 (pc := 51) F dX12_warms_51 ?_
    refine mh_iconst (pc := 52) F dX12_warms_52 ?_
    refine mh_idiv (pc := 53) F dX12_warms_53 (by omega) (by omega) (by omega) ?_
    refine mh_iconst (pc := 54) F dX12_warms_54 ?_
    refine mh_isub (pc := 55) F dX12_warms_55 ?_
    refine mh_callSp (pc := 56) (As := [.int (Int32.ofInt (0)), .int (Int32.ofInt ((v.tdiv 2) - 1))]) (st := []) F (by omega) (k_max (by omega) (by omega) (by omega)) ws_RX12_60 dX12_warms_56 rfl rfl (Nat.le_of_ble_eq_true rfl) ⟨Nat.zero_le _, Nat.zero_le _⟩ ?_
    exact mh_ireturnp F Z dX12_warms_59 (by unfold sp_warms; grind) rfl
  by_cases c_1_6 : k = 6
  · refine mh_tabIn (pc := 1) (off := 59) (tgt := 60) F dX12_warms_1 (by omega) (by omega) (by omega) (by rw [c_1_6]; rfl) rfl ?_
    refine mh_iload2 (pc := 60) F dX12_warms_60 ?_
    refine mh_iconst (pc := 61) F dX12_warms_61 ?_
    refine mh_iadd (pc := 62) F dX12_warms_62 ?_
    exact mh_ireturnp F Z dX12_warms_63 (by unfold sp_warms; grind) rfl
  refine mh_tabOut (pc := 1) (tgt := 64) F dX12_warms_1 (by omega) (by omega) rfl ?_
  refine mh_iload2 (pc := 64) F dX12_warms_64 ?_
  exact mh_ireturnp F Z dX12_warms_65 (by unfold sp_warms; grind) rfl

set_option maxRecDepth 100000 in
set_option maxHeartbeats 4000000 in
theorem k_jolts {g : mh_G} {d : Nat} (hd : 2 ≤ d) {h : Nat → Int → Int} {k m v : Int} (hk : 0 ≤ k ∧ k ≤ 6) (hm : 0 ≤ m ∧ m ≤ 9) (hv : 0 ≤ v ∧ v ≤ 100000) : mh_MP g d yX12_jolts cX12_jolts 3 (some .int) 96 [.int (Int32.ofInt (k)), .int (Int32.ofInt (m)), .int (Int32.ofInt (v))] h (some (.int (Int32.ofInt (sp_jolts k m v)))) := by
  refine mh_M_of RX12 rfl (by decide +kernel) [some (.int (Int32.ofInt (k))), some (.int (Int32.ofInt (m))), some (.int (Int32.ofInt (v)))] rfl (Nat.le_of_ble_eq_true rfl) (fun f F Z hn0 hR => ?_)
  refine mh_iload0 (pc := 0) F dX12_jolts_0 ?_
  by_cases c_1_3 : k = 3
  · refine mh_tabIn (pc := 1) (off := 31) (tgt := 32) F dX12_jolts_1 (by omega) (by omega) (by omega) (by rw [c_1_3]; rfl) rfl ?_
    refine mh_iconst (pc := 32) F dX12_jolts_32 ?_
    refine mh_iload2 (pc := 33) F dX12_jolts_33 ?_
    refine mh_imul (pc := 34) F dX12_jolts_34 ?_
    exact mh_ireturnp F Z dX12_jolts_35 (by unfold sp_jolts; grind) rfl
  by_cases c_1_4 : k = 4
  · refine mh_tabIn (pc := 1) (off := 35) (tgt := 36) F dX12_jolts_1 (by omega) (by omega) (by omega) (by rw [c_1_4]; rfl) rfl ?_
    refine mh_iconst (pc := 36) F dX12_jolts_36 ?_
    refine mh_iload2 (pc := 37) F dX12_jolts_37 ?_
    refine mh_iconst (pc := 38) F dX12_jolts_38 ?_
    refine mh_isub (pc := 39) F dX12_jolts_39 ?_
    refine mh_callSp (pc := 40) (As := [.int (Int32.ofInt (0)), .int (Int32.ofInt (v - 2))]) (st := []) F (by omega) (k_max (by omega) (by omega) (by omega)) ws_RX12_60 dX12_jolts_40 rfl rfl (Nat.le_of_ble_eq_true rfl) ⟨Nat.zero_le _, Nat.zero_le _⟩ ?_
    exact mh_ireturnp F Z dX12_jolts_43 (by unfold sp_jolts; grind) rfl
  by_cases c_1_5 : k = 5
  · refine mh_tabIn (pc := 1) (off := 49) (tgt := 50) F dX12_jolts_1 (by omega) (by omega) (by omega) (by rw [c_1_5]; rfl) rfl ?_
    refine mh_iload2 (pc := 50) F dX12_jolts_50 ?_
    exact mh_ireturnp F Z dX12_jolts_51 (by unfold sp_jolts; grind) rfl
  by_cases c_1_6 : k = 6
  · refine mh_tabIn (pc := 1) (off := 43) (tgt := 44) F dX12_jolts_1 (by omega) (by omega) (by omega) (by rw [c_1_6]; rfl) rfl ?_
    refine mh_iconst (pc := 44) F dX12_jolts_44 ?_
    refine mh_iload2 (pc := 45) F dX12_jolts_45 ?_
    refine mh_imul (pc := 46) F dX12_jolts_46 ?_
    refine mh_iload1 (pc := 47) F dX12_jolts_47 ?_
    refine mh_iadd (pc := 48) F dX12_jolts_48 ?_
    exact mh_ireturnp F Z dX12_jolts_49 (by unfold sp_jolts; grind) rfl
  refine mh_tabOut (pc := 1) (tgt := 50) F dX12_jolts_1 (by omega) (by omega) rfl ?_
  refine mh_iload2 (pc := 50) F dX12_jolts_50 ?_
  exact mh_ireturnp F Z dX12_jolts_51 (by unfold sp_jolts; grind) rfl

set_option maxRecDepth 100000 in
set_option maxHeartbeats 4000000 in
theorem k_turns {g : mh_G} {d : Nat} (hd : 1 ≤ d) {h : Nat → Int → Int} {k m : Int} (hk : 0 ≤ k ∧ k ≤ 6) (hm : 0 ≤ m ∧ m ≤ 9) : mh_MP g d yX12_turns cX12_turns 2 (some .int) 96 [.int (Int32.ofInt (k)), .int (Int32.ofInt (m))] h (some (.int (Int32.ofInt (sp_turns k m)))) := by
  refine mh_M_of RX12 rfl (by decide +kernel) [some (.int (Int32.ofInt (k))), some (.int (Int32.ofInt (m)))] rfl (Nat.le_of_ble_eq_true rfl) (fun f F Z hn0 hR => ?_)
  refine mh_iload0 (pc := 0) F dX12_turns_0 ?_
  refine mh_iconst (pc := 1) F dX12_turns_1 ?_
  refine mh_icmp_ne (pc := 2) (tgt := 10) F dX12_turns_2 rfl (by omega) (by omega) (fun c_2 => ?_) (fun c_2 => ?_)
  · refine mh_iload0 (pc := 10) F dX12_turns_10 ?_
    refine mh_iconst (pc := 11) F dX12_turns_11 ?_
    refine mh_icmp_ne (pc := 12) (tgt := 24) F dX12_turns_12 rfl (by omega) (by omega) (fun c_12 => ?_) (fun c_12 => ?_)
    · refine mh_iload0 (pc := 24) F dX12_turns_24 ?_
      refine mh_iconst (pc := 25) F dX12_turns_25 ?_
      refine mh_icmp_ne (pc := 26) (tgt := 34) F dX12_turns_26 rfl (by omega) (by omega) (fun c_26 => ?_) (fun c_26 => ?_)
      · refine mh_bipush (pc := 34) F dX12_turns_34 rfl ?_
        exact mh_ireturnp F Z dX12_turns_36 (by unfold sp_turns; grind) rfl
      · refine mh_bipush (pc := 29) F dX12_turns_29 rfl ?_
        refine mh_goto (pc := 31) (tgt := 36) F dX12_turns_31 rfl ?_
        exact mh_ireturnp F Z dX12_turns_36 (by unfold sp_turns; grind) rfl
    · refine mh_bipush (pc := 15) F dX12_turns_15 rfl ?_
      refine mh_iconst (pc := 17) F dX12_turns_17 ?_
      refine mh_iload1 (pc := 18) F dX12_turns_18 ?_
      refine mh_imul (pc := 19) F dX12_turns_19 ?_
      refine mh_iadd (pc := 20) F dX12_turns_20 ?_
      refine mh_goto (pc := 21) (tgt := 36) F dX12_turns_21 rfl ?_
      exact mh_ireturnp F Z dX12_turns_36 (by unfold sp_turns; grind) rfl
  · refine mh_bipush (pc := 5) F dX12_turns_5 rfl ?_
    refine mh_goto (pc := 7) (tgt := 36) F dX12_turns_7 rfl ?_
    exact mh_ireturnp F Z dX12_turns_36 (by unfold sp_turns; grind) rfl

