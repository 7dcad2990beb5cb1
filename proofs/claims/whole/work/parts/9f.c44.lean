/-! constructors: their calls, and the small ones -/
theorem mh_fr.zr {S : List Nat} {h h1 h2 : Nat → Int → Int} {n : Nat} (H : mh_fr S h h1) (e : h2 = mh_zr h1 n) : mh_fr (n :: S) h h2 := fun b hb => by
  rw [e, mh_zr_row (fun z => hb (by rw [z]; exact List.mem_cons_self))]
  exact H b (fun z => hb (List.mem_cons_of_mem _ z))
theorem mh_mz_row {h : Nat → Int → Int} {n x : Nat} (q : x < n ∨ n + 4 < x) : mh_mz h n x = h x := by
  funext j; unfold mh_mz; rw [if_neg (by omega), if_neg (by omega)]
theorem mh_mz_0 {h : Nat → Int → Int} {n : Nat} : mh_mz h n n = fun j => if 0 ≤ j ∧ j < 4 then (n : Int) + 1 + j + 1 else 0 := by
  funext j; unfold mh_mz; rw [if_pos rfl]
theorem mh_mz_i {h : Nat → Int → Int} {n x : Nat} (q : n < x ∧ x ≤ n + 4) : mh_mz h n x = fun _ => 0 := by
  funext j; unfold mh_mz; rw [if_neg (by omega), if_pos q]
theorem mh_fr.mz {S : List Nat} {h h1 h2 : Nat → Int → Int} {n : Nat} (H : mh_fr S h h1) (e : h2 = mh_mz h1 n) : mh_fr (n :: (n + 1) :: (n + 2) :: (n + 3) :: (n + 4) :: S) h h2 := fun b hb => by
  simp only [List.mem_cons, not_or] at hb
  rw [e, mh_mz_row (by omega)]
  exact H b hb.2.2.2.2.2
section
variable {g : mh_G} {f : mh_F} {own : String} {cc : ByteArray} {nL d n cl sl pc : Nat} {loc : List (Option Value)} {st : List Value} {h : Nat → Int → Int} {ret : Option FieldType} {post : Option Value → (Nat → Int → Int) → Prop}
theorem mh_callIx (F : mh_Fr g f own cc nL d) (hd1 : 1 ≤ d) {mc ms ix a np mL n1 cl1 sl1 : Nat} {y : MethodName} {b : ByteArray} {As st0 : List Value} (hM : mh_M g (d - 1) y b mL none n mc ms (.ref a :: As) h post) (e : n + mc = n1 ∧ cl + mc = cl1 ∧ sl + ms = sl1) (hw : mh_cI own ix y b mL np) (hd : decode cc pc = .ok (.invokespecial ix, 3)) (hn : As.length = np) (h0 : st0 = As.reverse ++ .ref a :: st) (h8 : (st.map fun v => v.category).sum ≤ 8) (hc : cl1 ≤ (mh_R f).cells ∧ sl1 ≤ (mh_R f).slots)
    (k : ∀ (r : Option Value) (h' : Nat → Int → Int), post r h' → mh_V g f nL n1 cl1 sl1 (pc + 3) loc (r.toList ++ st) h') : mh_V g f nL n cl sl pc loc st0 h := by
  obtain ⟨rfl, rfl, rfl⟩ := e
  exact mh_callI F hd1 hM hw hd hn h0 h8 hc k
theorem mh_callI0 (F : mh_Fr g f own cc nL d) (hd1 : 1 ≤ d) {ix a np mL : Nat} {y : MethodName} {b : ByteArray} {As st0 : List Value} (hM : mh_M g (d - 1) y b mL none n 0 0 (.ref a :: As) h post) (hw : mh_cI own ix y b mL np) (hd : decode cc pc = .ok (.invokespecial ix, 3)) (hn : As.length = np) (h0 : st0 = As.reverse ++ .ref a :: st) (h8 : (st.map fun v => v.category).sum ≤ 8) (hc : cl ≤ (mh_R f).cells ∧ sl ≤ (mh_R f).slots)
    (k : ∀ (r : Option Value) (h' : Nat → Int → Int), post r h' → mh_V g f nL n cl sl (pc + 3) loc (r.toList ++ st) h') : mh_V g f nL n cl sl pc loc st0 h := mh_callI F hd1 hM hw hd hn h0 h8 hc k
def mh_cIN (own : String) (ix : Nat) (y : MethodName) (host : String) (b : ByteArray) (mL : Nat) (np : Nat) : Prop := Cond.methodLinkNest own ix y host ∈ mh_NW ∧ mh_ok [.instanceMethod y, .initialized y.cls, .code y b mL none] ∧ mh_np y np ∧ mL ≤ 40 ∧ y.name = "<init>"
theorem mh_callINx (F : mh_Fr g f own cc nL d) (hd1 : 1 ≤ d) {mc ms ix a np mL n1 cl1 sl1 : Nat} {y : MethodName} {host : String} {b : ByteArray} {As st0 : List Value} (hM : mh_M g (d - 1) y b mL none n mc ms (.ref a :: As) h post) (e : n + mc = n1 ∧ cl + mc = cl1 ∧ sl + ms = sl1) (hw : mh_cIN own ix y host b mL np) (hd : decode cc pc = .ok (.invokespecial ix, 3)) (hn : As.length = np) (h0 : st0 = As.reverse ++ .ref a :: st) (h8 : (st.map fun v => v.category).sum ≤ 8) (hc : cl1 ≤ (mh_R f).cells ∧ sl1 ≤ (mh_R f).slots)
    (k : ∀ (r : Option Value) (h' : Nat → Int → Int), post r h' → mh_V g f nL n1 cl1 sl1 (pc + 3) loc (r.toList ++ st) h') : mh_V g f nL n cl sl pc loc st0 h := by
  obtain ⟨rfl, rfl, rfl⟩ := e
  refine mh_run (a := (Value.ref (mh_ad g a) :: As.map (mh_tr g)).toArray) (fun H locs ls h1 h3 => ?_) k
  exact va_runIN (mh_fix F) hM ⟨va_cnB np F.wt (mh_gin (mh_okT (hw.2.1 _ (by simp)))) rfl rfl rfl (F.kk.2.1 _ hw.1) (F.wt _ (hw.2.1 _ (by simp))) hw.2.2.1 (mh_roomd F hd1 hw.2.2.2.1), hw.2.2.2.2, F.wt _ (hw.2.1 _ (by simp))⟩ (mh_preS F h1 (.ref a :: As)) rfl (by rw [List.length_map]; exact hn) h3.1 (by rw [h0, List.map_append, List.map_cons, List.map_reverse]; rfl) (mh_cat8 h8) hd hc
end

theorem kst_1 : Cond.castable (mh_C 1) "MilkHills$Kind" ∈ mh_NW := (List.mem_filter.mpr ⟨List.mem_append_right _ (List.mem_of_getElem? (i := 1671) (by decide +kernel)), rfl⟩)
theorem kst_2 : Cond.castable (mh_C 2) "MilkHills$Kind" ∈ mh_NW := (List.mem_filter.mpr ⟨List.mem_append_right _ (List.mem_of_getElem? (i := 1669) (by decide +kernel)), rfl⟩)
theorem kst_4 : Cond.castable (mh_C 4) "MilkHills$Kind" ∈ mh_NW := (List.mem_filter.mpr ⟨List.mem_append_right _ (List.mem_of_getElem? (i := 1670) (by decide +kernel)), rfl⟩)
theorem kst_5 : Cond.castable (mh_C 5) "MilkHills$Kind" ∈ mh_NW := (List.mem_filter.mpr ⟨List.mem_append_right _ (List.mem_of_getElem? (i := 1674) (by decide +kernel)), rfl⟩)
theorem kst_7 : Cond.castable (mh_C 7) "MilkHills$Kind" ∈ mh_NW := (List.mem_filter.mpr ⟨List.mem_append_right _ (List.mem_of_getElem? (i := 1672) (by decide +kernel)), rfl⟩)
theorem kst_8 : Cond.castable (mh_C 8) "MilkHills$Kind" ∈ mh_NW := (List.mem_filter.mpr ⟨List.mem_append_right _ (List.mem_of_getElem? (i := 1673) (by decide +kernel)), rfl⟩)
theorem wn_RX11_44 : mh_cIN RX11 44 yX6_init "MilkHills" cX6_init 1 0 := ⟨List.mem_filter.mpr ⟨List.mem_append_right _ (List.mem_of_getElem? (i := 95) (by decide +kernel)), rfl⟩, mh_ok3 tw_1_96 tw_1_9 tw_1_97, by exact ⟨by decide +kernel, by decide +kernel, by decide +kernel⟩, by decide, rfl⟩
set_option maxRecDepth 100000 in
set_option maxHeartbeats 2000000 in
theorem q44_kind_2_3 {g : mh_G} {d : Nat} (hd : 2 ≤ d) {h : Nat → Int → Int} {v : Int} {n : Nat} (hn : 2 < n) : mh_M g d yX3_init cX3_init 2 none n 0 0 [.ref 2, .int (Int32.ofInt (v))] h (fun r h2 => r = none ∧ mh_fr [2] h h2 ∧ h2 2 = mh_ur (h 2) 0 v) := by
  refine mh_M_of RX3 rfl (by decide +kernel) [some (.ref 2), some (.int (Int32.ofInt (v)))] rfl (Nat.le_of_ble_eq_true rfl) (fun f F Z hn0 hR => ?_)
  refine mh_aload0 (pc := 0) F dX3_init_0 ?_
  refine mh_objI (pc := 1) F (by omega) tw_1_36 (Nat.le_of_ble_eq_true rfl) dX3_init_1 ?_
  refine mh_aload0 (pc := 4) F dX3_init_4 ?_
  refine mh_iload1 (pc := 5) F dX3_init_5 ?_
  refine mh_putFi (pc := 6) F hn0 sh_2 hn qw_RX3_9_3 dX3_init_6 ?_
  refine mh_nmh (fun h1 e1 => ?_)
  have fr1 : mh_fr [2] h h1 := mh_fr.up mh_fr.rf e1
  exact mh_return F Z dX3_init_9 ⟨rfl, (fr1.mono (by simp)), by rw [e1, mh_up_rs]⟩

set_option maxRecDepth 100000 in
set_option maxHeartbeats 2000000 in
theorem q44_kind_3_3 {g : mh_G} {d : Nat} (hd : 2 ≤ d) {h : Nat → Int → Int} {v : Int} {n : Nat} (hn : 3 < n) : mh_M g d yX3_init cX3_init 2 none n 0 0 [.ref 3, .int (Int32.ofInt (v))] h (fun r h2 => r = none ∧ mh_fr [3] h h2 ∧ h2 3 = mh_ur (h 3) 0 v) := by
  refine mh_M_of RX3 rfl (by decide +kernel) [some (.ref 3), some (.int (Int32.ofInt (v)))] rfl (Nat.le_of_ble_eq_true rfl) (fun f F Z hn0 hR => ?_)
  refine mh_aload0 (pc := 0) F dX3_init_0 ?_
  refine mh_objI (pc := 1) F (by omega) tw_1_36 (Nat.le_of_ble_eq_true rfl) dX3_init_1 ?_
  refine mh_aload0 (pc := 4) F dX3_init_4 ?_
  refine mh_iload1 (pc := 5) F dX3_init_5 ?_
  refine mh_putFi (pc := 6) F hn0 sh_3 hn qw_RX3_9_2 dX3_init_6 ?_
  refine mh_nmh (fun h1 e1 => ?_)
  have fr1 : mh_fr [3] h h1 := mh_fr.up mh_fr.rf e1
  exact mh_return F Z dX3_init_9 ⟨rfl, (fr1.mono (by simp)), by rw [e1, mh_up_rs]⟩

set_option maxRecDepth 100000 in
set_option maxHeartbeats 2000000 in
theorem q44_kind_3_2 {g : mh_G} {d : Nat} (hd : 3 ≤ d) {h : Nat → Int → Int} {v : Int} {n : Nat} (hn : 3 < n) : mh_M g d yX2_init cX2_init 2 none n 0 0 [.ref 3, .int (Int32.ofInt (v))] h (fun r h2 => r = none ∧ mh_fr [3] h h2 ∧ h2 3 = mh_ur (h 3) 0 v) := by
  refine mh_M_of RX2 rfl (by decide +kernel) [some (.ref 3), some (.int (Int32.ofInt (v)))] rfl (Nat.le_of_ble_eq_true rfl) (fun f F Z hn0 hR => ?_)
  refine mh_aload0 (pc := 0) F dX2_init_0 ?_
  refine mh_iload1 (pc := 1) F dX2_init_1 ?_
  refine mh_callI0 (pc := 2) (As := [.int (Int32.ofInt (v))]) (st := []) F (by omega) (q44_kind_3_3 (by omega) hn) wi_RX2_1 dX2_init_2 rfl rfl (Nat.le_of_ble_eq_true rfl) ⟨Nat.zero_le _, Nat.zero_le _⟩ (fun r1 h1 q1 => ?_)
  obtain ⟨rfl, fr1, hk1⟩ := q1
  have fr2 : mh_fr [3] h h1 := (mh_fr.tr mh_fr.rf fr1).mono (by simp)
  exact mh_return F Z dX2_init_5 ⟨rfl, (fr2.mono (by simp)), hk1⟩

set_option maxRecDepth 100000 in
set_option maxHeartbeats 2000000 in
theorem q44_kind_4_3 {g : mh_G} {d : Nat} (hd : 2 ≤ d) {h : Nat → Int → Int} {v : Int} {n : Nat} (hn : 4 < n) : mh_M g d yX3_init cX3_init 2 none n 0 0 [.ref 4, .int (Int32.ofInt (v))] h (fun r h2 => r = none ∧ mh_fr [4] h h2 ∧ h2 4 = mh_ur (h 4) 0 v) := by
  refine mh_M_of RX3 rfl (by decide +kernel) [some (.ref 4), some (.int (Int32.ofInt (v)))] rfl (Nat.le_of_ble_eq_true rfl) (fun f F Z hn0 hR => ?_)
  refine mh_aload0 (pc := 0) F dX3_init_0 ?_
  refine mh_objI (pc := 1) F (by omega) tw_1_36 (Nat.le_of_ble_eq_true rfl) dX3_init_1 ?_
  refine mh_aload0 (pc := 4) F dX3_init_4 ?_
  refine mh_iload1 (pc := 5) F dX3_init_5 ?_
  refine mh_putFi (pc := 6) F hn0 sh_4 hn qw_RX3_9_4 dX3_init_6 ?_
  refine mh_nmh (fun h1 e1 => ?_)
  have fr1 : mh_fr [4] h h1 := mh_fr.up mh_fr.rf e1
  exact mh_return F Z dX3_init_9 ⟨rfl, (fr1.mono (by simp)), by rw [e1, mh_up_rs]⟩

set_option maxRecDepth 100000 in
set_option maxHeartbeats 2000000 in
theorem q44_kind_4_4 {g : mh_G} {d : Nat} (hd : 3 ≤ d) {h : Nat → Int → Int} {v : Int} {n : Nat} (hn : 4 < n) : mh_M g d yX4_init cX4_init 2 none n 0 0 [.ref 4, .int (Int32.ofInt (v))] h (fun r h2 => r = none ∧ mh_fr [4] h h2 ∧ h2 4 = mh_ur (h 4) 0 v) := by
  refine mh_M_of RX4 rfl (by decide +kernel) [some (.ref 4), some (.int (Int32.ofInt (v)))] rfl (Nat.le_of_ble_eq_true rfl) (fun f F Z hn0 hR => ?_)
  refine mh_aload0 (pc := 0) F dX4_init_0 ?_
  refine mh_iload1 (pc := 1) F dX4_init_1 ?_
  refine mh_callI0 (pc := 2) (As := [.int (Int32.ofInt (v))]) (st := []) F (by omega) (q44_kind_4_3 (by omega) hn) wi_RX4_1 dX4_init_2 rfl rfl (Nat.le_of_ble_eq_true rfl) ⟨Nat.zero_le _, Nat.zero_le _⟩ (fun r1 h1 q1 => ?_)
  obtain ⟨rfl, fr1, hk1⟩ := q1
  have fr2 : mh_fr [4] h h1 := (mh_fr.tr mh_fr.rf fr1).mono (by simp)
  exact mh_return F Z dX4_init_5 ⟨rfl, (fr2.mono (by simp)), hk1⟩

set_option maxRecDepth 100000 in
set_option maxHeartbeats 2000000 in
theorem q44_kind_5_3 {g : mh_G} {d : Nat} (hd : 2 ≤ d) {h : Nat → Int → Int} {v : Int} {n : Nat} (hn : 5 < n) : mh_M g d yX3_init cX3_init 2 none n 0 0 [.ref 5, .int (Int32.ofInt (v))] h (fun r h2 => r = none ∧ mh_fr [5] h h2 ∧ h2 5 = mh_ur (h 5) 0 v) := by
  refine mh_M_of RX3 rfl (by decide +kernel) [some (.ref 5), some (.int (Int32.ofInt (v)))] rfl (Nat.le_of_ble_eq_true rfl) (fun f F Z hn0 hR => ?_)
  refine mh_aload0 (pc := 0) F dX3_init_0 ?_
  refine mh_objI (pc := 1) F (by omega) tw_1_36 (Nat.le_of_ble_eq_true rfl) dX3_init_1 ?_
  refine mh_aload0 (pc := 4) F dX3_init_4 ?_
  refine mh_iload1 (pc := 5) F dX3_init_5 ?_
  refine mh_putFi (pc := 6) F hn0 sh_5 hn qw_RX3_9_1 dX3_init_6 ?_
  refine mh_nmh (fun h1 e1 => ?_)
  have fr1 : mh_fr [5] h h1 := mh_fr.up mh_fr.rf e1
  exact mh_return F Z dX3_init_9 ⟨rfl, (fr1.mono (by simp)), by rw [e1, mh_up_rs]⟩

set_option maxRecDepth 100000 in
set_option maxHeartbeats 2000000 in
theorem q44_kind_5_1 {g : mh_G} {d : Nat} (hd : 3 ≤ d) {h : Nat → Int → Int} {v : Int} {n : Nat} (hn : 5 < n) : mh_M g d yX1_init cX1_init 2 none n 0 0 [.ref 5, .int (Int32.ofInt (v))] h (fun r h2 => r = none ∧ mh_fr [5] h h2 ∧ h2 5 = mh_ur (h 5) 0 v) := by
  refine mh_M_of RX1 rfl (by decide +kernel) [some (.ref 5), some (.int (Int32.ofInt (v)))] rfl (Nat.le_of_ble_eq_true rfl) (fun f F Z hn0 hR => ?_)
  refine mh_aload0 (pc := 0) F dX1_init_0 ?_
  refine mh_iload1 (pc := 1) F dX1_init_1 ?_
  refine mh_callI0 (pc := 2) (As := [.int (Int32.ofInt (v))]) (st := []) F (by omega) (q44_kind_5_3 (by omega) hn) wi_RX1_1 dX1_init_2 rfl rfl (Nat.le_of_ble_eq_true rfl) ⟨Nat.zero_le _, Nat.zero_le _⟩ (fun r1 h1 q1 => ?_)
  obtain ⟨rfl, fr1, hk1⟩ := q1
  have fr2 : mh_fr [5] h h1 := (mh_fr.tr mh_fr.rf fr1).mono (by simp)
  exact mh_return F Z dX1_init_5 ⟨rfl, (fr2.mono (by simp)), hk1⟩

set_option maxRecDepth 100000 in
set_option maxHeartbeats 2000000 in
theorem q44_kind_6_3 {g : mh_G} {d : Nat} (hd : 2 ≤ d) {h : Nat → Int → Int} {v : Int} {n : Nat} (hn : 6 < n) : mh_M g d yX3_init cX3_init 2 none n 0 0 [.ref 6, .int (Int32.ofInt (v))] h (fun r h2 => r = none ∧ mh_fr [6] h h2 ∧ h2 6 = mh_ur (h 6) 0 v) := by
  refine mh_M_of RX3 rfl (by decide +kernel) [some (.ref 6), some (.int (Int32.ofInt (v)))] rfl (Nat.le_of_ble_eq_true rfl) (fun f F Z hn0 hR => ?_)
  refine mh_aload0 (pc := 0) F dX3_init_0 ?_
  refine mh_objI (pc := 1) F (by omega) tw_1_36 (Nat.le_of_ble_eq_true rfl) dX3_init_1 ?_
  refine mh_aload0 (pc := 4) F dX3_init_4 ?_
  refine mh_iload1 (pc := 5) F dX3_init_5 ?_
  refine mh_putFi (pc := 6) F hn0 sh_6 hn qw_RX3_9_7 dX3_init_6 ?_
  refine mh_nmh (fun h1 e1 => ?_)
  have fr1 : mh_fr [6] h h1 := mh_fr.up mh_fr.rf e1
  exact mh_return F Z dX3_init_9 ⟨rfl, (fr1.mono (by simp)), by rw [e1, mh_up_rs]⟩

set_option maxRecDepth 100000 in
set_option maxHeartbeats 2000000 in
theorem q44_kind_6_2 {g : mh_G} {d : Nat} (hd : 3 ≤ d) {h : Nat → Int → Int} {v : Int} {n : Nat} (hn : 6 < n) : mh_M g d yX2_init cX2_init 2 none n 0 0 [.ref 6, .int (Int32.ofInt (v))] h (fun r h2 => r = none ∧ mh_fr [6] h h2 ∧ h2 6 = mh_ur (h 6) 0 v) := by
  refine mh_M_of RX2 rfl (by decide +kernel) [some (.ref 6), some (.int (Int32.ofInt (v)))] rfl (Nat.le_of_ble_eq_true rfl) (fun f F Z hn0 hR => ?_)
  refine mh_aload0 (pc := 0) F dX2_init_0 ?_
  refine mh_iload1 (pc := 1) F dX2_init_1 ?_
  refine mh_callI0 (pc := 2) (As := [.int (Int32.ofInt (v))]) (st := []) F (by omega) (q44_kind_6_3 (by omega) hn) wi_RX2_1 dX2_init_2 rfl rfl (Nat.le_of_ble_eq_true rfl) ⟨Nat.zero_le _, Nat.zero_le _⟩ (fun r1 h1 q1 => ?_)
  obtain ⟨rfl, fr1, hk1⟩ := q1
  have fr2 : mh_fr [6] h h1 := (mh_fr.tr mh_fr.rf fr1).mono (by simp)
  exact mh_return F Z dX2_init_5 ⟨rfl, (fr2.mono (by simp)), hk1⟩

set_option maxRecDepth 100000 in
set_option maxHeartbeats 2000000 in
theorem q44_kind_6_7 {g : mh_G} {d : Nat} (hd : 4 ≤ d) {h : Nat → Int → Int} {v : Int} {n : Nat} (hn : 6 < n) : mh_M g d yX7_init cX7_init 2 none n 0 0 [.ref 6, .int (Int32.ofInt (v))] h (fun r h2 => r = none ∧ mh_fr [6] h h2 ∧ h2 6 = mh_ur (h 6) 0 v) := by
  refine mh_M_of RX7 rfl (by decide +kernel) [some (.ref 6), some (.int (Int32.ofInt (v)))] rfl (Nat.le_of_ble_eq_true rfl) (fun f F Z hn0 hR => ?_)
  refine mh_aload0 (pc := 0) F dX7_init_0 ?_
  refine mh_iload1 (pc := 1) F dX7_init_1 ?_
  refine mh_callI0 (pc := 2) (As := [.int (Int32.ofInt (v))]) (st := []) F (by omega) (q44_kind_6_2 (by omega) hn) wi_RX7_1 dX7_init_2 rfl rfl (Nat.le_of_ble_eq_true rfl) ⟨Nat.zero_le _, Nat.zero_le _⟩ (fun r1 h1 q1 => ?_)
  obtain ⟨rfl, fr1, hk1⟩ := q1
  have fr2 : mh_fr [6] h h1 := (mh_fr.tr mh_fr.rf fr1).mono (by simp)
  exact mh_return F Z dX7_init_5 ⟨rfl, (fr2.mono (by simp)), hk1⟩

set_option maxRecDepth 100000 in
set_option maxHeartbeats 2000000 in
theorem q44_kind_7_3 {g : mh_G} {d : Nat} (hd : 2 ≤ d) {h : Nat → Int → Int} {v : Int} {n : Nat} (hn : 7 < n) : mh_M g d yX3_init cX3_init 2 none n 0 0 [.ref 7, .int (Int32.ofInt (v))] h (fun r h2 => r = none ∧ mh_fr [7] h h2 ∧ h2 7 = mh_ur (h 7) 0 v) := by
  refine mh_M_of RX3 rfl (by decide +kernel) [some (.ref 7), some (.int (Int32.ofInt (v)))] rfl (Nat.le_of_ble_eq_true rfl) (fun f F Z hn0 hR => ?_)
  refine mh_aload0 (pc := 0) F dX3_init_0 ?_
  refine mh_objI (pc := 1) F (by omega) tw_1_36 (Nat.le_of_ble_eq_true rfl) dX3_init_1 ?_
  refine mh_aload0 (pc := 4) F dX3_init_4 ?_
  refine mh_iload1 (pc := 5) F dX3_init_5 ?_
  refine mh_putFi (pc := 6) F hn0 sh_7 hn qw_RX3_9_8 dX3_init_6 ?_
  refine mh_nmh (fun h1 e1 => ?_)
  have fr1 : mh_fr [7] h h1 := mh_fr.up mh_fr.rf e1
  exact mh_return F Z dX3_init_9 ⟨rfl, (fr1.mono (by simp)), by rw [e1, mh_up_rs]⟩

set_option maxRecDepth 100000 in
set_option maxHeartbeats 2000000 in
theorem q44_kind_7_4 {g : mh_G} {d : Nat} (hd : 3 ≤ d) {h : Nat → Int → Int} {v : Int} {n : Nat} (hn : 7 < n) : mh_M g d yX4_init cX4_init 2 none n 0 0 [.ref 7, .int (Int32.ofInt (v))] h (fun r h2 => r = none ∧ mh_fr [7] h h2 ∧ h2 7 = mh_ur (h 7) 0 v) := by
  refine mh_M_of RX4 rfl (by decide +kernel) [some (.ref 7), some (.int (Int32.ofInt (v)))] rfl (Nat.le_of_ble_eq_true rfl) (fun f F Z hn0 hR => ?_)
  refine mh_aload0 (pc := 0) F dX4_init_0 ?_
  refine mh_iload1 (pc := 1) F dX4_init_1 ?_
  refine mh_callI0 (pc := 2) (As := [.int (Int32.ofInt (v))]) (st := []) F (by omega) (q44_kind_7_3 (by omega) hn) wi_RX4_1 dX4_init_2 rfl rfl (Nat.le_of_ble_eq_true rfl) ⟨Nat.zero_le _, Nat.zero_le _⟩ (fun r1 h1 q1 => ?_)
  obtain ⟨rfl, fr1, hk1⟩ := q1
  have fr2 : mh_fr [7] h h1 := (mh_fr.tr mh_fr.rf fr1).mono (by simp)
  exact mh_return F Z dX4_init_5 ⟨rfl, (fr2.mono (by simp)), hk1⟩

set_option maxRecDepth 100000 in
set_option maxHeartbeats 2000000 in
theorem q44_kind_7_8 {g : mh_G} {d : Nat} (hd : 4 ≤ d) {h : Nat → Int → Int} {v : Int} {n : Nat} (hn : 7 < n) : mh_M g d yX8_init cX8_init 2 none n 0 0 [.ref 7, .int (Int32.ofInt (v))] h (fun r h2 => r = none ∧ mh_fr [7] h h2 ∧ h2 7 = mh_ur (h 7) 0 v) := by
  refine mh_M_of RX8 rfl (by decide +kernel) [some (.ref 7), some (.int (Int32.ofInt (v)))] rfl (Nat.le_of_ble_eq_true rfl) (fun f F Z hn0 hR => ?_)
  refine mh_aload0 (pc := 0) F dX8_init_0 ?_
  refine mh_iload1 (pc := 1) F dX8_init_1 ?_
  refine mh_callI0 (pc := 2) (As := [.int (Int32.ofInt (v))]) (st := []) F (by omega) (q44_kind_7_4 (by omega) hn) wi_RX8_1 dX8_init_2 rfl rfl (Nat.le_of_ble_eq_true rfl) ⟨Nat.zero_le _, Nat.zero_le _⟩ (fun r1 h1 q1 => ?_)
  obtain ⟨rfl, fr1, hk1⟩ := q1
  have fr2 : mh_fr [7] h h1 := (mh_fr.tr mh_fr.rf fr1).mono (by simp)
  exact mh_return F Z dX8_init_5 ⟨rfl, (fr2.mono (by simp)), hk1⟩

set_option maxRecDepth 100000 in
set_option maxHeartbeats 2000000 in
theorem q44_kind_8_3 {g : mh_G} {d : Nat} (hd : 2 ≤ d) {h : Nat → Int → Int} {v : Int} {n : Nat} (hn : 8 < n) : mh_M g d yX3_init cX3_init 2 none n 0 0 [.ref 8, .int (Int32.ofInt (v))] h (fun r h2 => r = none ∧ mh_fr [8] h h2 ∧ h2 8 = mh_ur (h 8) 0 v) := by
  refine mh_M_of RX3 rfl (by decide +kernel) [some (.ref 8), some (.int (Int32.ofInt (v)))] rfl (Nat.le_of_ble_eq_true rfl) (fun f F Z hn0 hR => ?_)
  refine mh_aload0 (pc := 0) F dX3_init_0 ?_
  refine mh_objI (pc := 1) F (by omega) tw_1_36 (Nat.le_of_ble_eq_true rfl) dX3_init_1 ?_
  refine mh_aload0 (pc := 4) F dX3_init_4 ?_
  refine mh_iload1 (pc := 5) F dX3_init_5 ?_
  refine mh_putFi (pc := 6) F hn0 sh_8 hn qw_RX3_9_5 dX3_init_6 ?_
  refine mh_nmh (fun h1 e1 => ?_)
  have fr1 : mh_fr [8] h h1 := mh_fr.up mh_fr.rf e1
  exact mh_return F Z dX3_init_9 ⟨rfl, (fr1.mono (by simp)), by rw [e1, mh_up_rs]⟩

set_option maxRecDepth 100000 in
set_option maxHeartbeats 2000000 in
theorem q44_kind_8_1 {g : mh_G} {d : Nat} (hd : 3 ≤ d) {h : Nat → Int → Int} {v : Int} {n : Nat} (hn : 8 < n) : mh_M g d yX1_init cX1_init 2 none n 0 0 [.ref 8, .int (Int32.ofInt (v))] h (fun r h2 => r = none ∧ mh_fr [8] h h2 ∧ h2 8 = mh_ur (h 8) 0 v) := by
  refine mh_M_of RX1 rfl (by decide +kernel) [some (.ref 8), some (.int (Int32.ofInt (v)))] rfl (Nat.le_of_ble_eq_true rfl) (fun f F Z hn0 hR => ?_)
  refine mh_aload0 (pc := 0) F dX1_init_0 ?_
  refine mh_iload1 (pc := 1) F dX1_init_1 ?_
  refine mh_callI0 (pc := 2) (As := [.int (Int32.ofInt (v))]) (st := []) F (by omega) (q44_kind_8_3 (by omega) hn) wi_RX1_1 dX1_init_2 rfl rfl (Nat.le_of_ble_eq_true rfl) ⟨Nat.zero_le _, Nat.zero_le _⟩ (fun r1 h1 q1 => ?_)
  obtain ⟨rfl, fr1, hk1⟩ := q1
  have fr2 : mh_fr [8] h h1 := (mh_fr.tr mh_fr.rf fr1).mono (by simp)
  exact mh_return F Z dX1_init_5 ⟨rfl, (fr2.mono (by simp)), hk1⟩

set_option maxRecDepth 100000 in
set_option maxHeartbeats 2000000 in
theorem q44_kind_8_5 {g : mh_G} {d : Nat} (hd : 4 ≤ d) {h : Nat → Int → Int} {v : Int} {n : Nat} (hn : 8 < n) : mh_M g d yX5_init cX5_init 2 none n 0 0 [.ref 8, .int (Int32.ofInt (v))] h (fun r h2 => r = none ∧ mh_fr [8] h h2 ∧ h2 8 = mh_ur (h 8) 0 v) := by
  refine mh_M_of RX5 rfl (by decide +kernel) [some (.ref 8), some (.int (Int32.ofInt (v)))] rfl (Nat.le_of_ble_eq_true rfl) (fun f F Z hn0 hR => ?_)
  refine mh_aload0 (pc := 0) F dX5_init_0 ?_
  refine mh_iload1 (pc := 1) F dX5_init_1 ?_
  refine mh_callI0 (pc := 2) (As := [.int (Int32.ofInt (v))]) (st := []) F (by omega) (q44_kind_8_1 (by omega) hn) wi_RX5_1 dX5_init_2 rfl rfl (Nat.le_of_ble_eq_true rfl) ⟨Nat.zero_le _, Nat.zero_le _⟩ (fun r1 h1 q1 => ?_)
  obtain ⟨rfl, fr1, hk1⟩ := q1
  have fr2 : mh_fr [8] h h1 := (mh_fr.tr mh_fr.rf fr1).mono (by simp)
  exact mh_return F Z dX5_init_5 ⟨rfl, (fr2.mono (by simp)), hk1⟩

set_option maxRecDepth 100000 in
set_option maxHeartbeats 2000000 in
theorem q44_churn {g : mh_G} {d : Nat} (hd : 2 ≤ d) {h : Nat → Int → Int} {A b n : Nat} {j : Int} (hsA : mh_sh A = .inl 0) (hA : A < n) : mh_M g d yX0_init cX0_init 3 none n 0 0 [.ref A, .int (Int32.ofInt (j)), .ref b] h (fun r h2 => r = none ∧ mh_fr [A] h h2 ∧ h2 A = mh_ur (mh_ur (mh_ur (h A) 0 j) 1 ((b : Int) + 1)) 6 (-1)) := by
  refine mh_M_of RX0 rfl (by decide +kernel) [some (.ref A), some (.int (Int32.ofInt (j))), some (.ref b)] rfl (Nat.le_of_ble_eq_true rfl) (fun f F Z hn0 hR => ?_)
  refine mh_aload0 (pc := 0) F dX0_init_0 ?_
  refine mh_objI (pc := 1) F (by omega) tw_2_118 (Nat.le_of_ble_eq_true rfl) dX0_init_1 ?_
  refine mh_aload0 (pc := 4) F dX0_init_4 ?_
  refine mh_iload1 (pc := 5) F dX0_init_5 ?_
  refine mh_putFi (pc := 6) F hn0 hsA hA qw_RX0_9_0 dX0_init_6 ?_
  refine mh_nmh (fun h1 e1 => ?_)
  have fr1 : mh_fr [A] h h1 := mh_fr.up mh_fr.rf e1
  refine mh_aload0 (pc := 9) F dX0_init_9 ?_
  refine mh_aload2 (pc := 10) F dX0_init_10 ?_
  refine mh_putr (pc := 11) F hsA hA pw_RX0_15_0 dX0_init_11 rfl ?_
  refine mh_nmh (fun h2 e2 => ?_)
  have fr2 : mh_fr [A] h h2 := mh_fr.upi fr1 e2 (by simp)
  refine mh_aload0 (pc := 14) F dX0_init_14 ?_
  refine mh_iconst (pc := 15) F dX0_init_15 ?_
  refine mh_puti (pc := 16) F hsA hA pw_RX0_19_0 dX0_init_16 ?_
  refine mh_nmh (fun h3 e3 => ?_)
  have fr3 : mh_fr [A] h h3 := mh_fr.upi fr2 e3 (by simp)
  exact mh_return F Z dX0_init_19 ⟨rfl, (fr3.mono (by simp)), by rw [e3, mh_up_rs, e2, mh_up_rs, e1, mh_up_rs]⟩

set_option maxRecDepth 100000 in
set_option maxHeartbeats 2000000 in
theorem q44_fill {g : mh_G} {d : Nat} (hd : 1 ≤ d) {h : Nat → Int → Int} {A n L : Nat} {v : Int} {c : Int → Int} (rA : h A = c) (hsA : mh_sh A = .inr (0, L)) (hA : A < n) : mh_M g d yJ7_fill_53178 cJ7_fill_53178 4 none n 0 0 [.ref A, .int (Int32.ofInt (v))] h (fun r h2 => r = none ∧ mh_fr [A] h h2 ∧ ∀ i, 0 ≤ i → i < (L : Int) → h2 A i = v) := by
  refine mh_M_ofJ RJ7 rfl (by decide +kernel) [some (.ref A), some (.int (Int32.ofInt (v))), none, none] rfl (Nat.le_of_ble_eq_true rfl) (fun f F Z hn0 hR => ?_)
  have hL40 := (mh_sh_len hsA).1
  refine mh_iconst (pc := 0) F dJ7_fill_53178_0 ?_
  refine mh_istore2 (pc := 1) F dJ7_fill_53178_1 rfl (by decide) ?_
  refine mh_aload0 (pc := 2) F dJ7_fill_53178_2 ?_
  refine mh_alen (pc := 3) F hsA hA dJ7_fill_53178_3 ?_
  refine mh_istore3 (pc := 4) F dJ7_fill_53178_4 rfl (by decide) ?_
  have L5 : ∀ (m : Nat) (y : Int) (hg : Nat → Int → Int) (t : Int → Int), (mh_fr [A] h hg) → (hg A = t) → (0 ≤ y ∧ y ≤ (L : Int)) → (∀ i, 0 ≤ i → i < y → t i = v) → ((L : Int) - y).toNat = m → mh_V g f 4 n 0 0 5 [some (.ref A), some (.int (Int32.ofInt (v))), some (.int (Int32.ofInt (y))), some (.int (Int32.ofInt (((L : Nat) : Int))))] [] hg := by
    intro m
    induction m using Nat.strongRecOn with
    | _ m ihL5 =>
    intro y hg t frhg qAhg hy ht hmz
    refine mh_iload2 (pc := 5) F dJ7_fill_53178_5 ?_
    refine mh_iload3 (pc := 6) F dJ7_fill_53178_6 ?_
    refine mh_icmp_ge (pc := 7) (tgt := 20) F dJ7_fill_53178_7 rfl (by omega) (by omega) (fun c_7 => ?_) (fun c_7 => ?_)
    · exact mh_return F Z dJ7_fill_53178_20 ⟨rfl, (frhg.mono (by simp)), fun i i0 i1 => by rw [qAhg]; exact ht i i0 (by omega)⟩
    · refine mh_aload0 (pc := 10) F dJ7_fill_53178_10 ?_
      refine mh_iload2 (pc := 11) F dJ7_fill_53178_11 ?_
      refine mh_iload1 (pc := 12) F dJ7_fill_53178_12 ?_
      refine mh_iastore (pc := 13) F hsA hA (by omega) dJ7_fill_53178_13 ?_
      refine mh_nmh (fun h1 e1 => ?_)
      have rA_1 : h1 A = mh_ur t y v := by rw [e1, mh_up_rs, qAhg]
      have fr1 : mh_fr [A] h h1 := mh_fr.upi frhg e1 (by simp)
      refine mh_iinc2 (pc := 14) F dJ7_fill_53178_14 rfl (by decide) ?_
      refine mh_goto (pc := 17) (tgt := 5) F dJ7_fill_53178_17 rfl ?_
      exact ihL5 _ (by omega) (y + 1) h1 (mh_ur t y v) (fr1.mono (by simp)) rA_1 (by omega) (fun i i0 i1 => by rcases (show i = y ∨ i < y by omega) with z | z; exact mh_ur_eq z; exact (mh_ur_ne (by omega)).trans (ht i i0 z)) rfl
  exact L5 _ 0 h c (mh_fr.rf.mono (by simp)) rA (by omega) (fun i i0 i1 => by omega) rfl

set_option maxRecDepth 100000 in
set_option maxHeartbeats 2000000 in
theorem q44_relays {g : mh_G} {d : Nat} (hd : 2 ≤ d) {h : Nat → Int → Int} {W : Int → Int} (r10 : h 10 = W) : mh_M g d yX6_init cX6_init 1 none 11 5 7154 [.ref 10] h (fun r h2 => r = none ∧ mh_fr [10, 11, 12, 13, 14, 15] h h2 ∧ h2 10 = mh_ur (mh_ur (mh_ur (mh_ur (mh_ur (h 10) 0 (((11 : Nat) : Int) + 1)) 1 (((12 : Nat) : Int) + 1)) 2 (((13 : Nat) : Int) + 1)) 3 (((14 : Nat) : Int) + 1)) 4 (((15 : Nat) : Int) + 1) ∧ h2 11 = fun _ => (0 : Int)) := by
  refine mh_M_of RX6 rfl (by decide +kernel) [some (.ref 10)] rfl (Nat.le_of_ble_eq_true rfl) (fun f F Z hn0 hR => ?_)
  refine mh_aload0 (pc := 0) F dX6_init_0 ?_
  refine mh_objI (pc := 1) F (by omega) tw_1_98 (Nat.le_of_ble_eq_true rfl) dX6_init_1 ?_
  refine mh_aload0 (pc := 4) F dX6_init_4 ?_
  refine mh_sipush (pc := 5) F dX6_init_5 rfl ?_
  refine mh_newarrL (len := 6588) (n1 := 12) (cl1 := 1) (sl1 := 6588) (pc := 8) F sh_11 (by decide) rfl rfl tw_1_133 ⟨rfl, rfl, rfl⟩ (by rw [hR.1, hR.2]; exact ⟨Nat.le_of_ble_eq_true rfl, Nat.le_of_ble_eq_true rfl⟩) dX6_init_8 ?_
  refine mh_nmh (fun h1 e1 => ?_)
  have r10_1 : h1 10 = W := by rw [e1, mh_zr_row (by decide)]; exact r10
  have r11_1 : h1 11 = fun _ => (0 : Int) := by rw [e1]; exact mh_zr_rs
  have fr1 : mh_fr [11] h h1 := mh_fr.zr mh_fr.rf e1
  refine mh_putFr (pc := 10) F hn0 sh_10 (by decide) qw_RX6_11_6 dX6_init_10 rfl ?_
  refine mh_nmh (fun h2 e2 => ?_)
  have r10_2 : h2 10 = mh_ur W 0 (((11 : Nat) : Int) + 1) := by rw [e2, mh_up_rs, r10_1]
  have r11_2 : h2 11 = fun _ => (0 : Int) := by rw [e2, mh_up_row (by decide)]; exact r11_1
  have fr2 : mh_fr [10, 11] h h2 := mh_fr.up fr1 e2
  refine mh_aload0 (pc := 13) F dX6_init_13 ?_
  refine mh_sipush (pc := 14) F dX6_init_14 rfl ?_
  refine mh_newarr (t := 0) (len := 549) (n1 := 13) (cl1 := 2) (sl1 := 7137) (pc := 17) F sh_12 (by decide) (by decide) rfl rfl tw_1_134 ⟨rfl, rfl, rfl⟩ (by rw [hR.1, hR.2]; exact ⟨Nat.le_of_ble_eq_true rfl, Nat.le_of_ble_eq_true rfl⟩) dX6_init_17 ?_
  refine mh_nmh (fun h3 e3 => ?_)
  have r10_3 : h3 10 = mh_ur W 0 (((11 : Nat) : Int) + 1) := by rw [e3, mh_zr_row (by decide)]; exact r10_2
  have r11_3 : h3 11 = fun _ => (0 : Int) := by rw [e3, mh_zr_row (by decide)]; exact r11_2
  have r12_3 : h3 12 = fun _ => (0 : Int) := by rw [e3]; exact mh_zr_rs
  have fr3 : mh_fr [12, 10, 11] h h3 := mh_fr.zr fr2 e3
  refine mh_putFr (pc := 19) F hn0 sh_10 (by decide) qw_RX6_15_6 dX6_init_19 rfl ?_
  refine mh_nmh (fun h4 e4 => ?_)
  have r10_4 : h4 10 = mh_ur (mh_ur W 0 (((11 : Nat) : Int) + 1)) 1 (((12 : Nat) : Int) + 1) := by rw [e4, mh_up_rs, r10_3]
  have r11_4 : h4 11 = fun _ => (0 : Int) := by rw [e4, mh_up_row (by decide)]; exact r11_3
  have fr4 : mh_fr [12, 10, 11] h h4 := mh_fr.upi fr3 e4 (by simp)
  refine mh_aload0 (pc := 22) F dX6_init_22 ?_
  refine mh_bipush (pc := 23) F dX6_init_23 rfl ?_
  refine mh_newarr (t := 1) (len := 9) (n1 := 14) (cl1 := 3) (sl1 := 7146) (pc := 25) F sh_13 (by decide) (by decide) rfl rfl tw_1_135 ⟨rfl, rfl, rfl⟩ (by rw [hR.1, hR.2]; exact ⟨Nat.le_of_ble_eq_true rfl, Nat.le_of_ble_eq_true rfl⟩) dX6_init_25 ?_
  refine mh_nmh (fun h5 e5 => ?_)
  have r10_5 : h5 10 = mh_ur (mh_ur W 0 (((11 : Nat) : Int) + 1)) 1 (((12 : Nat) : Int) + 1) := by rw [e5, mh_zr_row (by decide)]; exact r10_4
  have r11_5 : h5 11 = fun _ => (0 : Int) := by rw [e5, mh_zr_row (by decide)]; exact r11_4
  have r13_5 : h5 13 = fun _ => (0 : Int) := by rw [e5]; exact mh_zr_rs
  have fr5 : mh_fr [13, 12, 10, 11] h h5 := mh_fr.zr fr4 e5
  refine mh_putFr (pc := 27) F hn0 sh_10 (by decide) qw_RX6_19_6 dX6_init_27 rfl ?_
  refine mh_nmh (fun h6 e6 => ?_)
  have r10_6 : h6 10 = mh_ur (mh_ur (mh_ur W 0 (((11 : Nat) : Int) + 1)) 1 (((12 : Nat) : Int) + 1)) 2 (((13 : Nat) : Int) + 1) := by rw [e6, mh_up_rs, r10_5]
  have r11_6 : h6 11 = fun _ => (0 : Int) := by rw [e6, mh_up_row (by decide)]; exact r11_5
  have fr6 : mh_fr [13, 12, 10, 11] h h6 := mh_fr.upi fr5 e6 (by simp)
  refine mh_aload0 (pc := 30) F dX6_init_30 ?_
  refine mh_iconst (pc := 31) F dX6_init_31 ?_
  refine mh_newarr (t := 0) (len := 4) (n1 := 15) (cl1 := 4) (sl1 := 7150) (pc := 32) F sh_14 (by decide) (by decide) rfl rfl tw_1_134 ⟨rfl, rfl, rfl⟩ (by rw [hR.1, hR.2]; exact ⟨Nat.le_of_ble_eq_true rfl, Nat.le_of_ble_eq_true rfl⟩) dX6_init_32 ?_
  refine mh_nmh (fun h7 e7 => ?_)
  have r10_7 : h7 10 = mh_ur (mh_ur (mh_ur W 0 (((11 : Nat) : Int) + 1)) 1 (((12 : Nat) : Int) + 1)) 2 (((13 : Nat) : Int) + 1) := by rw [e7, mh_zr_row (by decide)]; exact r10_6
  have r11_7 : h7 11 = fun _ => (0 : Int) := by rw [e7, mh_zr_row (by decide)]; exact r11_6
  have r14_7 : h7 14 = fun _ => (0 : Int) := by rw [e7]; exact mh_zr_rs
  have fr7 : mh_fr [14, 13, 12, 10, 11] h h7 := mh_fr.zr fr6 e7
  refine mh_putFr (pc := 34) F hn0 sh_10 (by decide) qw_RX6_23_6 dX6_init_34 rfl ?_
  refine mh_nmh (fun h8 e8 => ?_)
  have r10_8 : h8 10 = mh_ur (mh_ur (mh_ur (mh_ur W 0 (((11 : Nat) : Int) + 1)) 1 (((12 : Nat) : Int) + 1)) 2 (((13 : Nat) : Int) + 1)) 3 (((14 : Nat) : Int) + 1) := by rw [e8, mh_up_rs, r10_7]
  have r11_8 : h8 11 = fun _ => (0 : Int) := by rw [e8, mh_up_row (by decide)]; exact r11_7
  have fr8 : mh_fr [14, 13, 12, 10, 11] h h8 := mh_fr.upi fr7 e8 (by simp)
  refine mh_aload0 (pc := 37) F dX6_init_37 ?_
  refine mh_iconst (pc := 38) F dX6_init_38 ?_
  refine mh_newarr (t := 0) (len := 4) (n1 := 16) (cl1 := 5) (sl1 := 7154) (pc := 39) F sh_15 (by decide) (by decide) rfl rfl tw_1_134 ⟨rfl, rfl, rfl⟩ (by rw [hR.1, hR.2]; exact ⟨Nat.le_of_ble_eq_true rfl, Nat.le_of_ble_eq_true rfl⟩) dX6_init_39 ?_
  refine mh_nmh (fun h9 e9 => ?_)
  have r10_9 : h9 10 = mh_ur (mh_ur (mh_ur (mh_ur W 0 (((11 : Nat) : Int) + 1)) 1 (((12 : Nat) : Int) + 1)) 2 (((13 : Nat) : Int) + 1)) 3 (((14 : Nat) : Int) + 1) := by rw [e9, mh_zr_row (by decide)]; exact r10_8
  have r11_9 : h9 11 = fun _ => (0 : Int) := by rw [e9, mh_zr_row (by decide)]; exact r11_8
  have r15_9 : h9 15 = fun _ => (0 : Int) := by rw [e9]; exact mh_zr_rs
  have fr9 : mh_fr [15, 14, 13, 12, 10, 11] h h9 := mh_fr.zr fr8 e9
  refine mh_putFr (pc := 41) F hn0 sh_10 (by decide) qw_RX6_26_6 dX6_init_41 rfl ?_
  refine mh_nmh (fun h10 e10 => ?_)
  have r10_10 : h10 10 = mh_ur (mh_ur (mh_ur (mh_ur (mh_ur W 0 (((11 : Nat) : Int) + 1)) 1 (((12 : Nat) : Int) + 1)) 2 (((13 : Nat) : Int) + 1)) 3 (((14 : Nat) : Int) + 1)) 4 (((15 : Nat) : Int) + 1) := by rw [e10, mh_up_rs, r10_9]
  have r11_10 : h10 11 = fun _ => (0 : Int) := by rw [e10, mh_up_row (by decide)]; exact r11_9
  have fr10 : mh_fr [15, 14, 13, 12, 10, 11] h h10 := mh_fr.upi fr9 e10 (by simp)
  exact mh_return F Z dX6_init_44 ⟨rfl, (fr10.mono (by simp)), by rw [r10]; exact r10_10, r11_10⟩

