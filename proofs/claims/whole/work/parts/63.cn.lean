/-! a call of a nest mate's static method -/
def mh_cN (own : String) (ix : Nat) (y : MethodName) (host : String) (b : ByteArray) (mL : Nat) (ret : Option FieldType) (np : Nat) : Prop := Cond.methodLinkNest own ix y host ∈ mh_NW ∧ mh_ok [.static y, .initialized y.cls, .code y b mL ret] ∧ mh_np y np ∧ mL ≤ 40
theorem mh_ok3 {a b c : Cond} (h1 : a ∈ mh_WT) (h2 : b ∈ mh_WT) (h3 : c ∈ mh_WT) : mh_ok [a, b, c] := by
  intro w hw
  simp only [List.mem_cons, List.not_mem_nil, or_false] at hw
  rcases hw with rfl | rfl | rfl <;> assumption
section
variable {g : mh_G} {f : mh_F} {own : String} {cc : ByteArray} {nL d n cl sl pc : Nat} {loc : List (Option Value)} {st : List Value} {h : Nat → Int → Int} {ret : Option FieldType} {post : Option Value → (Nat → Int → Int) → Prop}
theorem mh_callN0 (F : mh_Fr g f own cc nL d) (hd1 : 1 ≤ d) {ix np mL : Nat} {y : MethodName} {host : String} {b : ByteArray} {As st0 : List Value} (hM : mh_M g (d - 1) y b mL ret n 0 0 As h post) (hw : mh_cN own ix y host b mL ret np) (hd : decode cc pc = .ok (.invokestatic ix, 3)) (hn : As.length = np) (h0 : st0 = As.reverse ++ st) (h8 : (st.map fun v => v.category).sum ≤ 8) (hc : cl ≤ (mh_R f).cells ∧ sl ≤ (mh_R f).slots)
    (k : ∀ (r : Option Value) (h' : Nat → Int → Int), post r h' → mh_V g f nL n cl sl (pc + 3) loc (r.toList ++ st) h') : mh_V g f nL n cl sl pc loc st0 h := by
  refine mh_run (mc := 0) (ms := 0) (a := (As.map (mh_tr g)).toArray) (fun H locs ls h1 h3 => ?_) k
  exact va_runSN (mh_fix F) hM ⟨va_cnB np F.wt (mh_gin (mh_okT (hw.2.1 _ (by simp)))) rfl rfl rfl (F.kk.2.1 _ hw.1) (F.wt _ (hw.2.1 _ (by simp))) hw.2.2.1 (mh_roomd F hd1 hw.2.2.2), F.wt _ (hw.2.1 _ (by simp)), trivial⟩ (mh_preS F h1 As) rfl (by rw [List.length_map]; exact hn) h3.1 (by rw [h0, List.map_append, List.map_reverse]) (mh_cat8 h8) hd hc
theorem mh_callNp (F : mh_Fr g f own cc nL d) (hd1 : 1 ≤ d) {ix np mL : Nat} {y : MethodName} {host : String} {b : ByteArray} {As st0 : List Value} {v : Option Value} (hM : mh_MP g (d - 1) y b mL ret n As h v) (hw : mh_cN own ix y host b mL ret np) (hd : decode cc pc = .ok (.invokestatic ix, 3)) (hn : As.length = np) (h0 : st0 = As.reverse ++ st) (h8 : (st.map fun v => v.category).sum ≤ 8) (hc : cl ≤ (mh_R f).cells ∧ sl ≤ (mh_R f).slots)
    (k : mh_V g f nL n cl sl (pc + 3) loc (v.toList ++ st) h) : mh_V g f nL n cl sl pc loc st0 h := mh_callN0 F hd1 hM hw hd hn h0 h8 hc (fun r h' q => by rw [q.1, q.2]; exact k)
end
theorem wn_RX10_101 : mh_cN RX10 101 yX11_within "MilkHills" cX11_within 3 (some .boolean) 3 := ⟨List.mem_filter.mpr ⟨List.mem_append_right _ (List.mem_of_getElem? (i := 548) (by decide +kernel)), rfl⟩, mh_ok3 tw_3_46 tw_1_1 tw_3_47, np_yX11_within, by decide⟩
theorem wn_RX10_171 : mh_cN RX10 171 yX11_isCarrier "MilkHills" cX11_isCarrier 1 (some .boolean) 1 := ⟨List.mem_filter.mpr ⟨List.mem_append_right _ (List.mem_of_getElem? (i := 642) (by decide +kernel)), rfl⟩, mh_ok3 tw_3_84 tw_1_1 tw_3_85, np_yX11_isCarrier, by decide⟩
theorem wn_RX6_102 : mh_cN RX6 102 yX11_within "MilkHills" cX11_within 3 (some .boolean) 3 := ⟨List.mem_filter.mpr ⟨List.mem_append_right _ (List.mem_of_getElem? (i := 840) (by decide +kernel)), rfl⟩, mh_ok3 tw_3_46 tw_1_1 tw_3_47, np_yX11_within, by decide⟩
theorem wn_RX6_113 : mh_cN RX6 113 yX11_isCarrier "MilkHills" cX11_isCarrier 1 (some .boolean) 1 := ⟨List.mem_filter.mpr ⟨List.mem_append_right _ (List.mem_of_getElem? (i := 861) (by decide +kernel)), rfl⟩, mh_ok3 tw_3_84 tw_1_1 tw_3_85, np_yX11_isCarrier, by decide⟩
set_option maxRecDepth 100000 in
set_option maxHeartbeats 4000000 in
theorem k4_within {g : mh_G} {d : Nat} (hd : 1 ≤ d) {h : Nat → Int → Int} {x y z : Int} (hx : -2147483648 ≤ x ∧ x < 2147483648) (hy : -2147483648 ≤ y ∧ y < 2147483648) (hz : -2147483648 ≤ z ∧ z < 2147483648) : mh_MP g d yX11_within cX11_within 3 (some .boolean) 96 [.int (Int32.ofInt (x)), .int (Int32.ofInt (y)), .int (Int32.ofInt (z))] h (some (.int (Int32.ofInt (mh_B (y ≤ x ∧ x ≤ z))))) := by
  refine mh_M_of RX11 rfl (by decide +kernel) [some (.int (Int32.ofInt (x))), some (.int (Int32.ofInt (y))), some (.int (Int32.ofInt (z)))] rfl (Nat.le_of_ble_eq_true rfl) (fun f F Z hn0 hR => ?_)
  refine mh_iload0 (pc := 0) F dX11_within_0 ?_
  refine mh_iload1 (pc := 1) F dX11_within_1 ?_
  refine mh_icmp_lt (pc := 2) (tgt := 14) F dX11_within_2 rfl (by omega) (by omega) (fun c_2 => ?_) (fun c_2 => ?_)
  · refine mh_iconst (pc := 14) F dX11_within_14 ?_
    exact mh_zreturnp F Z dX11_within_15 (Or.inr ⟨rfl, (by omega)⟩) rfl
  · refine mh_iload0 (pc := 5) F dX11_within_5 ?_
    refine mh_iload2 (pc := 6) F dX11_within_6 ?_
    refine mh_icmp_gt (pc := 7) (tgt := 14) F dX11_within_7 rfl (by omega) (by omega) (fun c_7 => ?_) (fun c_7 => ?_)
    · refine mh_iconst (pc := 14) F dX11_within_14 ?_
      exact mh_zreturnp F Z dX11_within_15 (Or.inr ⟨rfl, (by omega)⟩) rfl
    · refine mh_iconst (pc := 10) F dX11_within_10 ?_
      refine mh_goto (pc := 11) (tgt := 15) F dX11_within_11 rfl ?_
      exact mh_zreturnp F Z dX11_within_15 (Or.inl ⟨rfl, (by omega)⟩) rfl

set_option maxRecDepth 100000 in
set_option maxHeartbeats 4000000 in
theorem k4_isCarrier {g : mh_G} {d : Nat} (hd : 2 ≤ d) {h : Nat → Int → Int} {x : Int} (hx : -2147483648 ≤ x ∧ x < 2147483648) : mh_MP g d yX11_isCarrier cX11_isCarrier 1 (some .boolean) 96 [.int (Int32.ofInt (x))] h (some (.int (Int32.ofInt (mh_B (0 ≤ x ∧ x ≤ 3))))) := by
  refine mh_M_of RX11 rfl (by decide +kernel) [some (.int (Int32.ofInt (x)))] rfl (Nat.le_of_ble_eq_true rfl) (fun f F Z hn0 hR => ?_)
  refine mh_iload0 (pc := 0) F dX11_isCarrier_0 ?_
  refine mh_iconst (pc := 1) F dX11_isCarrier_1 ?_
  refine mh_iconst (pc := 2) F dX11_isCarrier_2 ?_
  refine mh_callSp (pc := 3) (As := [.int (Int32.ofInt (x)), .int (Int32.ofInt (0)), .int (Int32.ofInt (3))]) (st := []) F (by omega) (k4_within (by omega) (by omega) (by omega) (by omega)) ws_RX11_82 dX11_isCarrier_3 rfl rfl (Nat.le_of_ble_eq_true rfl) ⟨Nat.zero_le _, Nat.zero_le _⟩ ?_
  exact mh_zreturnp F Z dX11_isCarrier_6 mh_Bx rfl

set_option maxRecDepth 100000 in
set_option maxHeartbeats 4000000 in
theorem k4_isSheet {g : mh_G} {d : Nat} (hd : 2 ≤ d) {h : Nat → Int → Int} {x : Int} (hx : -2147483648 ≤ x ∧ x < 2147483648) : mh_MP g d yX11_isSheet cX11_isSheet 1 (some .boolean) 96 [.int (Int32.ofInt (x))] h (some (.int (Int32.ofInt (mh_B (0 ≤ x ∧ x ≤ 3))))) := by
  refine mh_M_of RX11 rfl (by decide +kernel) [some (.int (Int32.ofInt (x)))] rfl (Nat.le_of_ble_eq_true rfl) (fun f F Z hn0 hR => ?_)
  refine mh_iload0 (pc := 0) F dX11_isSheet_0 ?_
  refine mh_iconst (pc := 1) F dX11_isSheet_1 ?_
  refine mh_iconst (pc := 2) F dX11_isSheet_2 ?_
  refine mh_callSp (pc := 3) (As := [.int (Int32.ofInt (x)), .int (Int32.ofInt (0)), .int (Int32.ofInt (3))]) (st := []) F (by omega) (k4_within (by omega) (by omega) (by omega) (by omega)) ws_RX11_82 dX11_isSheet_3 rfl rfl (Nat.le_of_ble_eq_true rfl) ⟨Nat.zero_le _, Nat.zero_le _⟩ ?_
  exact mh_zreturnp F Z dX11_isSheet_6 mh_Bx rfl

