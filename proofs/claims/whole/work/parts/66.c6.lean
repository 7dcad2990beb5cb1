/-! a quarter of one churn is the model's -/
theorem sc_q7_eq {s c : Int → Int} {k i : Int} (hc : sc_is c (sp_row s k) i) : sc_q7 s c (s 0) = sp_held (s (41 + 9 * k + 5) + sp_q5 s k) 0 9999 := by
  obtain ⟨a0, a1, a2, a3, a4, a5, a6, a7, a8, a9⟩ := hc
  unfold sp_row at *
  unfold sc_q7 sp_q5
  rw [a7, a2, a3, show c 1 - 3 = s (41 + 9 * k + 0) by omega]
theorem sc_q8_eq {s c : Int → Int} {k i : Int} (hc : sc_is c (sp_row s k) i) (h2 : s (41 + 9 * k + 3) = 2) (h7 : 0 ≤ s (41 + 9 * k + 7) ∧ s (41 + 9 * k + 7) ≤ 3) : sc_q8 s c = sp_q6 s k := by
  obtain ⟨a0, a1, a2, a3, a4, a5, a6, a7, a8, a9⟩ := hc
  unfold sp_row at *
  rw [if_pos h2] at a6
  unfold sc_q8 sp_q6 sc_sh
  rw [if_pos (by omega), a8, a2, a6, show c 1 - 3 = s (41 + 9 * k + 0) by omega]
theorem sc_law_go {s t : Int → Int} (h : ∀ i, 95 ≤ i → t i = s i) (u a b c : Int) : sp_law t u a b c = sp_law s u a b c := sp_law_same (fun i hi => h i hi) u a b c
/-- what a class's churn takes in as it comes to the town -/
def sc_gain (s c : Int → Int) : Int := sp_law s 1 (sc_st c) (c 7) (c 2)
theorem sc_pass_go {s c : Int → Int} {k i : Int} (hk : 0 ≤ k ∧ k < 6) (hi : sp_inv s) (hc : sc_is c (sp_row s k) i) : sc_is (sc_pass s c (s 0)) (sp_row (sp_go s k) k) i ∧ sp_go s k 1 = (if sc_pbi c = 1 then sp_held (s 1 + sc_gain s (sc_pass s c (s 0))) (-99999) 99999 else s 1) := by
  have hcc := hi.2.2.2.2.1 k hk.1 hk.2
  have e7 := sc_q7_eq hc
  have e8 := sc_q8_eq hc
  obtain ⟨c0, c1, c2, c3, c4, c5, c6, c7, c8, c9, c10, c11, c12, c13⟩ := hcc
  unfold sp_row at c0 c1 c2 c3 c4 c5 c6 c7 c8 c9 c10 c11 c12 c13
  obtain ⟨a0, a1, a2, a3, a4, a5, a6, a7, a8, a9⟩ := id hc
  unfold sp_row at a1 a2 a3 a4 a5 a6 a7 a8 a9
  generalize hV : sp_held (s (41 + 9 * k + 5) + sp_q5 s k) 0 9999 = V at e7
  by_cases b1 : s (41 + 9 * k + 8) = 1 ∨ s (41 + 9 * k + 3) = 3 ∨ s (41 + 9 * k + 3) = 1
  · have eg : sp_go s k = s := by unfold sp_go; rw [if_pos b1]
    have ep : sc_pass s c (s 0) = c := by unfold sc_pass; rw [if_pos (by omega)]
    have eb : sc_pbi c = 0 := by unfold sc_pbi; rw [if_neg (by omega)]
    rw [eg, ep, eb]
    exact ⟨hc, rfl⟩
  by_cases b2 : s (41 + 9 * k + 3) ≠ 2
  · have eg : sp_go s k = mh_ur s (41 + 9 * k + 5) V := by unfold sp_go sp_sours; rw [if_neg b1, if_pos b2, hV]
    have ep : sc_pass s c (s 0) = mh_ur c 7 V := by unfold sc_pass; rw [if_neg (by omega), if_pos (by omega), e7]
    have eb : sc_pbi c = 0 := by unfold sc_pbi; rw [if_neg (by omega)]
    rw [eg, ep, eb]
    refine ⟨?_, by rw [mh_ur_ne (by omega)]; rfl⟩
    unfold sc_is sp_row
    refine ⟨?_, ?_, ?_, ?_, ?_, ?_, ?_, ?_, ?_, ?_⟩ <;> (repeat (first | rw [mh_ur_ne (by omega)] | rw [mh_ur_eq (by omega)])) <;> first | assumption | rfl | omega
  have e8 := e8 (by omega) c7
  generalize hU : sp_q6 s k = U at e8
  by_cases b3 : s (41 + 9 * k + 4) - 1 ≠ 0
  · have eg : sp_go s k = mh_ur (mh_ur (mh_ur s (41 + 9 * k + 5) V) (41 + 9 * k + 6) U) (41 + 9 * k + 4) (s (41 + 9 * k + 4) - 1) := by unfold sp_go sp_sours; rw [if_neg b1, if_neg b2, if_pos b3, hV, hU]
    have ep : sc_pass s c (s 0) = mh_ur (mh_ur (mh_ur c 7 V) 8 U) 5 (c 5 - 1) := by unfold sc_pass; rw [if_neg (by omega), if_neg (by omega), if_pos (by omega), e7, e8]
    have eb : sc_pbi c = 0 := by unfold sc_pbi; rw [if_neg (by omega)]
    rw [eg, ep, eb]
    refine ⟨?_, by rw [mh_ur_ne (by omega), mh_ur_ne (by omega), mh_ur_ne (by omega)]; rfl⟩
    unfold sc_is sp_row
    refine ⟨?_, ?_, ?_, ?_, ?_, ?_, ?_, ?_, ?_, ?_⟩ <;> (repeat (first | rw [mh_ur_ne (by omega)] | rw [mh_ur_eq (by omega)])) <;> first | assumption | rfl | omega
  · have eg : sp_go s k = sp_comes (mh_ur (mh_ur (mh_ur s (41 + 9 * k + 5) V) (41 + 9 * k + 6) U) (41 + 9 * k + 4) (s (41 + 9 * k + 4) - 1)) k := by unfold sp_go sp_sours; rw [if_neg b1, if_neg b2, if_neg b3, hV, hU]
    have ep : sc_pass s c (s 0) = sc_arr c V U := by unfold sc_pass; rw [if_neg (by omega), if_neg (by omega), if_neg (by omega), e7, e8]
    rw [eg, ep]
    obtain ⟨t, ht⟩ : ∃ t : Int → Int, t = mh_ur (mh_ur (mh_ur s (41 + 9 * k + 5) V) (41 + 9 * k + 6) U) (41 + 9 * k + 4) (s (41 + 9 * k + 4) - 1) := ⟨_, rfl⟩
    rw [← ht]
    have t0 : t (41 + 9 * k + 0) = s (41 + 9 * k + 0) := by rw [ht]; (repeat (first | rw [mh_ur_ne (by omega)] | rw [mh_ur_eq (by omega)]))
    have t1 : t (41 + 9 * k + 1) = s (41 + 9 * k + 1) := by rw [ht]; (repeat (first | rw [mh_ur_ne (by omega)] | rw [mh_ur_eq (by omega)]))
    have t2 : t (41 + 9 * k + 2) = s (41 + 9 * k + 2) := by rw [ht]; (repeat (first | rw [mh_ur_ne (by omega)] | rw [mh_ur_eq (by omega)]))
    have t4 : t (41 + 9 * k + 4) = s (41 + 9 * k + 4) - 1 := by rw [ht]; (repeat (first | rw [mh_ur_ne (by omega)] | rw [mh_ur_eq (by omega)]))
    have t5 : t (41 + 9 * k + 5) = V := by rw [ht]; (repeat (first | rw [mh_ur_ne (by omega)] | rw [mh_ur_eq (by omega)]))
    have t6 : t (41 + 9 * k + 6) = U := by rw [ht]; (repeat (first | rw [mh_ur_ne (by omega)] | rw [mh_ur_eq (by omega)]))
    have t7 : t (41 + 9 * k + 7) = s (41 + 9 * k + 7) := by rw [ht]; (repeat (first | rw [mh_ur_ne (by omega)] | rw [mh_ur_eq (by omega)]))
    have t8 : t (41 + 9 * k + 8) = s (41 + 9 * k + 8) := by rw [ht]; (repeat (first | rw [mh_ur_ne (by omega)] | rw [mh_ur_eq (by omega)]))
    have t1x : t 1 = s 1 := by rw [ht]; (repeat (first | rw [mh_ur_ne (by omega)] | rw [mh_ur_eq (by omega)]))
    have tw : ∀ i, 95 ≤ i → t i = s i := fun i hi => by rw [ht, mh_ur_ne (by omega), mh_ur_ne (by omega), mh_ur_ne (by omega)]
    have p0 : sc_arr c V U 0 = c 0 := rfl
    have p1 : sc_arr c V U 1 = c 1 := rfl
    have p2 : sc_arr c V U 2 = c 2 := rfl
    have p3 : sc_arr c V U 3 = c 3 + 1 := rfl
    have p4 : sc_arr c V U 4 = if 9 ≤ c 3 + 1 then 3 else 0 := rfl
    have p5 : sc_arr c V U 5 = 0 := rfl
    have p6 : sc_arr c V U 6 = -1 := rfl
    have p7 : sc_arr c V U 7 = V := rfl
    have p8 : sc_arr c V U 8 = U := rfl
    have p9 : sc_arr c V U 9 = c 9 := rfl
    by_cases b4 : s (41 + 9 * k + 2) + 1 = 9
    · have eb : sc_pbi c = 1 := by unfold sc_pbi; rw [if_pos (by omega)]
      rw [if_pos (by omega)] at p4
      obtain ⟨v, hv⟩ : ∃ v : Int → Int, v = mh_ur (mh_ur t (41 + 9 * k + 2) (t (41 + 9 * k + 2) + 1)) (41 + 9 * k + 3) 3 := ⟨_, rfl⟩
      have ec : sp_comes t k = sp_takes v (sp_worth v k (t (41 + 9 * k + 5)) (t (41 + 9 * k + 6))) := by unfold sp_comes; rw [if_pos (by omega), ← hv]
      have vw : ∀ i, 95 ≤ i → v i = s i := fun i hi => by rw [hv, mh_ur_ne (by omega), mh_ur_ne (by omega)]; exact tw i hi
      have v0 : v (41 + 9 * k + 0) = s (41 + 9 * k + 0) := by rw [hv]; (repeat (first | rw [mh_ur_ne (by omega)] | rw [mh_ur_eq (by omega)])); omega
      have v1 : v (41 + 9 * k + 1) = s (41 + 9 * k + 1) := by rw [hv]; (repeat (first | rw [mh_ur_ne (by omega)] | rw [mh_ur_eq (by omega)])); omega
      have v2 : v (41 + 9 * k + 2) = s (41 + 9 * k + 2) + 1 := by rw [hv]; (repeat (first | rw [mh_ur_ne (by omega)] | rw [mh_ur_eq (by omega)])); omega
      have v3 : v (41 + 9 * k + 3) = 3 := by rw [hv]; (repeat (first | rw [mh_ur_ne (by omega)] | rw [mh_ur_eq (by omega)]))
      have v4 : v (41 + 9 * k + 4) = s (41 + 9 * k + 4) - 1 := by rw [hv]; (repeat (first | rw [mh_ur_ne (by omega)] | rw [mh_ur_eq (by omega)])); omega
      have v5 : v (41 + 9 * k + 5) = V := by rw [hv]; (repeat (first | rw [mh_ur_ne (by omega)] | rw [mh_ur_eq (by omega)])); omega
      have v6 : v (41 + 9 * k + 6) = U := by rw [hv]; (repeat (first | rw [mh_ur_ne (by omega)] | rw [mh_ur_eq (by omega)])); omega
      have v7 : v (41 + 9 * k + 7) = s (41 + 9 * k + 7) := by rw [hv]; (repeat (first | rw [mh_ur_ne (by omega)] | rw [mh_ur_eq (by omega)])); omega
      have v8 : v (41 + 9 * k + 8) = s (41 + 9 * k + 8) := by rw [hv]; (repeat (first | rw [mh_ur_ne (by omega)] | rw [mh_ur_eq (by omega)])); omega
      have v1x : v 1 = s 1 := by rw [hv, mh_ur_ne (by omega), mh_ur_ne (by omega)]; exact t1x
      rw [ec, eb, if_pos rfl]
      refine ⟨?_, ?_⟩
      · unfold sp_takes sc_is sp_row
        refine ⟨?_, ?_, ?_, ?_, ?_, ?_, ?_, ?_, ?_, ?_⟩ <;> (repeat rw [mh_ur_ne (by omega)]) <;> first | omega | (rw [if_neg (by omega)]; omega)
      · unfold sp_takes
        rw [mh_ur_eq rfl, v1x]
        congr 2
        unfold sp_worth sc_gain sc_st
        rw [sc_law_go vw, v0, v1, t5, t6, p9, if_neg (by omega), p1, p2, p7, p8, a2, show c 1 - 3 = s (41 + 9 * k + 0) by omega]
    · have eb : sc_pbi c = 0 := by unfold sc_pbi; rw [if_neg (by omega)]
      rw [if_neg (by omega)] at p4
      have ec : sp_comes t k = mh_ur (mh_ur t (41 + 9 * k + 2) (t (41 + 9 * k + 2) + 1)) (41 + 9 * k + 3) 0 := by unfold sp_comes; rw [if_neg (by omega)]
      rw [ec, eb]
      refine ⟨?_, by rw [mh_ur_ne (by omega), mh_ur_ne (by omega)]; exact t1x⟩
      unfold sc_is sp_row
      refine ⟨?_, ?_, ?_, ?_, ?_, ?_, ?_, ?_, ?_, ?_⟩ <;> (repeat (first | rw [mh_ur_ne (by omega)] | rw [mh_ur_eq (by omega)])) <;> first | omega | (rw [if_neg (by omega)]; omega)
/-- the world now: hills, churns, numbers -/
def sc_V (h : Nat → Int → Int) (s : Int → Int) : Prop := sc_L h 25 s ∧ sc_C h 25 s ∧ sc_N h 25 s
theorem sc_T.to {tx cd s t : Int → Int} {u : Int} (h : sc_T tx cd s u) (hu : 0 ≤ u ∧ u ≤ 1) (e : ∀ i, 95 ≤ i → i < 197 → t i = s i) : sc_T tx cd t u := by
  obtain ⟨h1, h2, h3, h4, h5⟩ := h
  refine ⟨h1, h2, h3, h4, ?_⟩
  have hl := h2.2.1
  rcases h5 with ⟨g1, g2, g3⟩ | ⟨g1, g2, g3⟩
  · exact Or.inl ⟨by rw [e _ (by omega) (by omega)]; exact g1, by rw [e _ (by omega) (by omega)]; exact g2, fun k k0 k1 => by rw [e _ (by omega) (by omega)]; exact g3 k k0 k1⟩
  · exact Or.inr ⟨by rw [e _ (by omega) (by omega)]; exact g1, g2, g3⟩
theorem sc_L.to {h : Nat → Int → Int} {w : Nat} {s t : Int → Int} (H : sc_L h w s) (e : ∀ i, (6 ≤ i ∧ i < 41) ∨ (95 ≤ i ∧ i < 197) → t i = s i) : sc_L h w t := by
  obtain ⟨a, b, c, d⟩ := H
  refine ⟨fun k k0 k1 => ?_, fun k k0 k1 => ?_, c.to (by decide) (fun i i0 i1 => e i (by omega)), d.to (by decide) (fun i i0 i1 => e i (by omega))⟩
  · rw [e _ (by omega), e _ (by omega), e _ (by omega)]; exact a k k0 k1
  · rw [e _ (by omega), e _ (by omega)]; exact b k k0 k1
theorem sc_V_go {h h2 : Nat → Int → Int} {t : Int → Int} {k : Int} (hk : 0 ≤ k ∧ k < 6) (hi : sp_inv t) (hV : sc_V h t) (hA : h2 (44 + k.toNat) = sc_pass t (h (44 + k.toNat)) (t 0)) (h25 : ∀ i, i ≠ 8 → h2 25 i = h 25 i) (h8 : h2 25 8 = sp_go t k 1) (hfr : ∀ a, a ≠ 25 → a ≠ 36 → a ≠ 41 → a ≠ 44 + k.toNat → h2 a = h a) : sc_V h2 (sp_go t k) := by
  obtain ⟨a, b, c⟩ := hV
  have ho := sp_go_out t k
  refine ⟨(a.of (fun x hx => hfr x (by omega) (by omega) (by omega) (by omega))).to (fun i hi2 => ho i (by omega) (by omega)), fun j j0 j1 => ?_, ?_⟩
  · by_cases z : j = k
    · subst z
      show sc_is (h2 (44 + j.toNat)) _ _
      rw [hA]
      exact (sc_pass_go hk hi (b j j0 j1)).1
    · show sc_is (h2 (44 + j.toNat)) _ _
      rw [hfr (44 + j.toNat) (by omega) (by omega) (by omega) (by omega)]
      have e : sp_row (sp_go t k) j = fun x => sp_go t k (41 + 9 * j + x) := rfl
      have hb := b j j0 j1
      unfold sc_is sp_row at hb ⊢
      rw [ho _ (by omega) (by omega), ho _ (by omega) (by omega), ho _ (by omega) (by omega), ho _ (by omega) (by omega), ho _ (by omega) (by omega), ho _ (by omega) (by omega), ho _ (by omega) (by omega), ho _ (by omega) (by omega), ho _ (by omega) (by omega)]
      exact hb
  · obtain ⟨c1, c2, c3, c4, c5, c6⟩ := c
    unfold sc_N
    rw [h25 6 (by decide), h25 7 (by decide), h25 10 (by decide), h25 14 (by decide), h25 15 (by decide), h8, ho 3 (by decide) (by omega), ho 0 (by decide) (by omega), ho 4 (by decide) (by omega), ho 5 (by decide) (by omega), ho 2 (by decide) (by omega)]
    exact ⟨c1, c2, rfl, c4, c5, c6⟩
theorem sc_V_up {h h2 : Nat → Int → Int} {s t : Int → Int} (hV : sc_V h s) (e : ∀ a, a ≠ 25 → h2 a = h a) (ec : ∀ i, (6 ≤ i ∧ i < 197) → t i = s i) (hN : sc_N h2 25 t) : sc_V h2 t := by
  obtain ⟨a, b, c⟩ := hV
  refine ⟨(a.of (fun x hx => e x (by omega))).to (fun i hi => ec i (by omega)), fun j j0 j1 => ?_, hN⟩
  have hb := b j j0 j1
  show sc_is (h2 (44 + j.toNat)) _ _
  rw [e (44 + j.toNat) (by omega)]
  unfold sc_is sp_row at hb ⊢
  rw [ec _ (by omega), ec _ (by omega), ec _ (by omega), ec _ (by omega), ec _ (by omega), ec _ (by omega), ec _ (by omega), ec _ (by omega), ec _ (by omega)]
  exact hb
theorem sc_V_fr {h h2 : Nat → Int → Int} {s : Int → Int} (hV : sc_V h s) (e : ∀ a, 25 ≤ a → a ≤ 49 → a ≠ 36 → a ≠ 41 → h2 a = h a) : sc_V h2 s := by
  obtain ⟨a, b, c⟩ := hV
  refine ⟨a.of (fun x hx => e x (by omega) (by omega) (by omega) (by omega)), fun j j0 j1 => ?_, ?_⟩
  · show sc_is (h2 (44 + j.toNat)) _ _
    rw [e (44 + j.toNat) (by omega) (by omega) (by omega) (by omega)]; exact b j j0 j1
  · unfold sc_N; rw [e 25 (by decide) (by decide) (by decide) (by decide)]; exact c
