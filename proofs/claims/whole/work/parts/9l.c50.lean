/-! what stays, act by act -/
theorem sl_hill {s er : Int → Int} {a w v : Int} (h : sl_A s) : sl_A (sp_hill a w v s er).2.1 ∧ sl_X s (sp_hill a w v s er).2.1 := by
  unfold sp_hill
  split
  · exact ⟨h, sl_X.rf⟩
  · split
    · exact ⟨h, sl_X.rf⟩
    · rename_i c1 c2
      show sl_A (mh_ur s (6 + 3 * a + w) v) ∧ sl_X s (mh_ur s (6 + 3 * a + w) v)
      have c3 : (0 ≤ a ∧ a ≤ 8) ∧ (0 ≤ w ∧ w ≤ 2) ∧ (0 ≤ v ∧ v ≤ sp_most w) := Decidable.of_not_not c1
      obtain ⟨ha, hw, hv⟩ := c3
      have X : sl_X s (mh_ur s (6 + 3 * a + w) v) := ⟨mh_ur_ne (by omega), mh_ur_ne (by omega), fun i i0 i1 => mh_ur_ne (by omega)⟩
      refine ⟨⟨sp_inv_hh h.1 (by omega) (by omega) hv, h.2.1.to (by rw [mh_ur_ne (by omega)]; exact h.2.1.1) X, h.2.2.to h.1.1 (mh_ur_ne (by omega)) (sl_D.eq (fun i i0 i1 => mh_ur_ne (by omega))) (fun b b0 b1 z => ?_)⟩, X⟩
      by_cases y : 6 + 3 * b + 1 = 6 + 3 * a + w
      · have e1 : w = 1 := by omega
        have e2 : b = a := by omega
        rw [mh_ur_eq y, e2]
        have := fun q => c2 ⟨e1, q⟩
        omega
      · rw [mh_ur_ne y]; exact z
theorem sl_carrier {s er : Int → Int} {c p k : Int} (h : sl_A s) : sl_A (sp_carrier c p k s er).2.1 ∧ sl_X s (sp_carrier c p k s er).2.1 := by
  unfold sp_carrier
  split
  · exact ⟨h, sl_X.rf⟩
  · rename_i c1
    show sl_A (mh_ur (mh_ur s (33 + 2 * c) p) (33 + 2 * c + 1) k) ∧ sl_X s (mh_ur (mh_ur s (33 + 2 * c) p) (33 + 2 * c + 1) k)
    have c3 : (0 ≤ c ∧ c ≤ 3) ∧ (1 ≤ p ∧ p ≤ 9) ∧ (0 ≤ k ∧ k ≤ 20) := Decidable.of_not_not c1
    obtain ⟨hc, hp, hk⟩ := c3
    have e : ∀ i, i ≠ 33 + 2 * c → i ≠ 33 + 2 * c + 1 → mh_ur (mh_ur s (33 + 2 * c) p) (33 + 2 * c + 1) k i = s i := fun i i0 i1 => by rw [mh_ur_ne i1, mh_ur_ne i0]
    have X : sl_X s (mh_ur (mh_ur s (33 + 2 * c) p) (33 + 2 * c + 1) k) := ⟨e _ (by omega) (by omega), e _ (by omega) (by omega), fun i i0 i1 => e _ (by omega) (by omega)⟩
    have ho : ∀ t x, t = mh_ur s (33 + 2 * c + x) (if x = 0 then p else k) → (x = 0 ∨ x = 1) → sp_hok t := by
      intro t x et hx
      have hh := h.1.2.2.2.1
      refine ⟨fun j j0 j1 => ?_, fun j j0 j1 => ?_⟩
      · rw [et, mh_ur_ne (by omega), mh_ur_ne (by omega), mh_ur_ne (by omega)]; exact hh.1 j j0 j1
      · have q := hh.2 j j0 j1
        rw [et]
        by_cases y : j = c
        · subst y
          rcases hx with z | z
          · subst z
            rw [if_pos rfl, mh_ur_eq (by omega), mh_ur_ne (by omega)]; exact ⟨hp, q.2⟩
          · subst z
            rw [if_neg (by decide), mh_ur_ne (by omega), mh_ur_eq (by omega)]; exact ⟨q.1, hk⟩
        · rw [mh_ur_ne (by omega), mh_ur_ne (by omega)]; exact q
    have i1 : sp_inv (mh_ur s (33 + 2 * c) p) := sp_inv_h h.1 (by omega) (ho _ 0 (by rw [if_pos rfl, Int.add_zero]) (Or.inl rfl))
    have i2 : sp_inv (mh_ur (mh_ur s (33 + 2 * c) p) (33 + 2 * c + 1) k) := by
      refine sp_inv_h i1 (by omega) ?_
      have hh := i1.2.2.2.1
      have e9 : ∀ i, i < 33 → mh_ur (mh_ur s (33 + 2 * c) p) (33 + 2 * c + 1) k i = mh_ur s (33 + 2 * c) p i := fun i hi => mh_ur_ne (by omega)
      refine ⟨fun j j0 j1 => ?_, fun j j0 j1 => ?_⟩
      · rw [e9 _ (by omega), e9 _ (by omega), e9 _ (by omega)]; exact hh.1 j j0 j1
      · have q := hh.2 j j0 j1
        by_cases y : j = c
        · subst y
          rw [mh_ur_ne (show 33 + 2 * j ≠ 33 + 2 * j + 1 by omega), mh_ur_eq (show 33 + 2 * j + 1 = 33 + 2 * j + 1 from rfl)]; exact ⟨q.1, hk⟩
        · rw [mh_ur_ne (show 33 + 2 * j ≠ 33 + 2 * c + 1 by omega), mh_ur_ne (show 33 + 2 * j + 1 ≠ 33 + 2 * c + 1 by omega)]; exact q
    exact ⟨h.to i2 (by rw [e 0 (by omega) (by omega)]; exact h.2.1.1) X (e _ (by omega) (by omega)) (sl_D.eq (fun i i0 i1 => e _ (by omega) (by omega))) (fun a a0 a1 => e _ (by omega) (by omega)), X⟩
/-- a change in one churn's row (and in the takings) -/
theorem sl_row {s t : Int → Int} {k : Int} (h : sl_A s) (hk : 0 ≤ k ∧ k < 6) (e : ∀ i, i ≠ 1 → (i < 41 + 9 * k ∨ 41 + 9 * k + 9 ≤ i) → t i = s i) (e1 : -99999 ≤ t 1 ∧ t 1 ≤ 99999) (hc : sp_cok (sp_row t k)) (hD : t (41 + 9 * k + 3) = 1 → s (41 + 9 * k + 3) = 1 ∧ t (41 + 9 * k + 2) = s (41 + 9 * k + 2)) : sl_A t ∧ sl_X s t := by
  have X : sl_X s t := ⟨e 4 (by decide) (by omega), e 5 (by decide) (by omega), fun i i0 i1 => e i (by omega) (by omega)⟩
  refine ⟨h.to (sp_inv_row h.1 hk (e 0 (by decide) (by omega)) e1 (e 3 (by decide) (by omega)) (fun i i0 i1 => e i (by omega) (by omega)) (fun i i0 => e i (by omega) (by omega)) (fun i i0 i1 i2 => e i (by omega) i2) hc) (by rw [e 0 (by decide) (by omega)]; exact h.2.1.1) X (e 3 (by decide) (by omega)) (fun j j0 j1 z => ?_) (fun a a0 a1 => e _ (by omega) (by omega)), X⟩
  by_cases y : j = k
  · subst y; exact hD z
  · rw [e _ (by omega) (by omega)] at z
    exact ⟨z, e _ (by omega) (by omega)⟩
theorem sl_become {s er : Int → Int} {k x : Int} (h : sl_A s) : sl_A (sp_become k x s er).2.1 ∧ sl_X s (sp_become k x s er).2.1 := by
  unfold sp_become
  split
  · exact ⟨h, sl_X.rf⟩
  · rename_i c1
    show sl_A (mh_ur (mh_ur s (41 + 9 * k + 0) (x.tdiv 10)) (41 + 9 * k + 1) (x.tmod 10)) ∧ sl_X s (mh_ur (mh_ur s (41 + 9 * k + 0) (x.tdiv 10)) (41 + 9 * k + 1) (x.tmod 10))
    have c3 : (0 ≤ k ∧ k ≤ s 3 - 1) ∧ (0 ≤ x ∧ x ≤ 69) := Decidable.of_not_not c1
    obtain ⟨hk, hx⟩ := c3
    have hm := h.1.1
    have e : ∀ i, i ≠ 41 + 9 * k + 0 → i ≠ 41 + 9 * k + 1 → mh_ur (mh_ur s (41 + 9 * k + 0) (x.tdiv 10)) (41 + 9 * k + 1) (x.tmod 10) i = s i := fun i i0 i1 => by rw [mh_ur_ne i1, mh_ur_ne i0]
    have hcr := h.1.2.2.2.2.1 k hk.1 (by omega)
    have d1 : x.tdiv 10 = x / 10 := Int.tdiv_eq_ediv_of_nonneg hx.1
    have d2 : x.tmod 10 = x % 10 := Int.tmod_eq_emod_of_nonneg hx.1
    refine sl_row h ⟨hk.1, by omega⟩ (fun i i0 i1 => e i (by omega) (by omega)) (by rw [e 1 (by omega) (by omega)]; exact h.1.2.2.1) ?_ (fun z => by rw [e _ (by omega) (by omega)] at z; exact ⟨z, e _ (by omega) (by omega)⟩)
    obtain ⟨b0, b1, b2, b3, b4, b5, b6, b7, b8, b9, b10, b11, b12, b13⟩ := hcr
    unfold sp_row at b0 b1 b2 b3 b4 b5 b6 b7 b8 b9 b10 b11 b12 b13
    unfold sp_cok sp_row
    rw [mh_ur_ne (show 41 + 9 * k + 0 ≠ 41 + 9 * k + 1 by omega), mh_ur_eq (show 41 + 9 * k + 0 = 41 + 9 * k + 0 from rfl), mh_ur_eq (show 41 + 9 * k + 1 = 41 + 9 * k + 1 from rfl), e (41 + 9 * k + 2) (by omega) (by omega), e (41 + 9 * k + 3) (by omega) (by omega), e (41 + 9 * k + 4) (by omega) (by omega), e (41 + 9 * k + 5) (by omega) (by omega), e (41 + 9 * k + 6) (by omega) (by omega), e (41 + 9 * k + 7) (by omega) (by omega), e (41 + 9 * k + 8) (by omega) (by omega)]
    exact ⟨by omega, by omega, b2, b3, b4, b5, b6, b7, b8, b9, b10, b11, b12, b13⟩
theorem sl_go {s er : Int → Int} {k c : Int} (h : sl_A s) : sl_A (sp_goP k c s er).2.1 ∧ sl_X s (sp_goP k c s er).2.1 := by
  unfold sp_goP
  split
  · exact ⟨h, sl_X.rf⟩
  · split
    · exact ⟨h, sl_X.rf⟩
    · rename_i c1 c2
      show sl_A (sp_leaves s k c) ∧ sl_X s (sp_leaves s k c)
      have c3 : (0 ≤ k ∧ k ≤ s 3 - 1) ∧ (0 ≤ c ∧ c ≤ 3) := Decidable.of_not_not c1
      have c4 : s (41 + 9 * k + 3) < 2 ∧ s (41 + 9 * k + 8) = 0 := Decidable.of_not_not c2
      have hm := h.1.1
      have hpc := (h.1.2.2.2.1.2 c c3.2.1 (by omega)).1
      have e : ∀ i, i ≠ 41 + 9 * k + 3 → i ≠ 41 + 9 * k + 4 → i ≠ 41 + 9 * k + 7 → sp_leaves s k c i = s i := fun i i0 i1 i2 => by unfold sp_leaves; rw [mh_ur_ne i2, mh_ur_ne i1, mh_ur_ne i0]
      have e3 : sp_leaves s k c (41 + 9 * k + 3) = 2 := by unfold sp_leaves; rw [mh_ur_ne (by omega), mh_ur_ne (by omega), mh_ur_eq rfl]
      have e4 : sp_leaves s k c (41 + 9 * k + 4) = s (33 + 2 * c) := by unfold sp_leaves; rw [mh_ur_ne (by omega), mh_ur_eq rfl]
      have e7 : sp_leaves s k c (41 + 9 * k + 7) = c := by unfold sp_leaves; rw [mh_ur_eq rfl]
      have hcr := h.1.2.2.2.2.1 k c3.1.1 (by omega)
      refine sl_row h ⟨c3.1.1, by omega⟩ (fun i i0 i1 => e i (by omega) (by omega) (by omega)) (by rw [e 1 (by omega) (by omega) (by omega)]; exact h.1.2.2.1) ?_ (fun z => by omega)
      obtain ⟨b0, b1, b2, b3, b4, b5, b6, b7, b8, b9, b10, b11, b12, b13⟩ := hcr
      unfold sp_row at b0 b1 b2 b3 b4 b5 b6 b7 b8 b9 b10 b11 b12 b13
      unfold sp_cok sp_row
      rw [e (41 + 9 * k + 0) (by omega) (by omega) (by omega), e (41 + 9 * k + 1) (by omega) (by omega) (by omega), e (41 + 9 * k + 2) (by omega) (by omega) (by omega), e3, e4, e (41 + 9 * k + 5) (by omega) (by omega) (by omega), e (41 + 9 * k + 6) (by omega) (by omega) (by omega), e7, e (41 + 9 * k + 8) (by omega) (by omega) (by omega)]
      refine ⟨b0, b1, b2, by decide, by omega, b5, b6, by omega, b8, fun _ => b9 (by omega), fun _ => ⟨hpc.1, c4.2⟩, fun z => absurd rfl z, fun z => by omega, fun z => by omega⟩
theorem sl_rest {s er : Int → Int} {k : Int} (h : sl_A s) : sl_A (sp_rest k s er).2.1 ∧ sl_X s (sp_rest k s er).2.1 := by
  unfold sp_rest
  split
  · exact ⟨h, sl_X.rf⟩
  · split
    · exact ⟨h, sl_X.rf⟩
    · rename_i c1 c2
      show sl_A (mh_ur s (41 + 9 * k + 3) 0) ∧ sl_X s (mh_ur s (41 + 9 * k + 3) 0)
      have c3 : 0 ≤ k ∧ k ≤ s 3 - 1 := Decidable.of_not_not c1
      have c4 : s (41 + 9 * k + 3) = 1 := Decidable.of_not_not c2
      have hm := h.1.1
      have X : sl_X s (mh_ur s (41 + 9 * k + 3) 0) := ⟨mh_ur_ne (by omega), mh_ur_ne (by omega), fun i i0 i1 => mh_ur_ne (by omega)⟩
      refine ⟨h.to (sp_inv_how h.1 ⟨c3.1, by omega⟩ (by omega) (by omega) (Or.inl rfl)) (by rw [mh_ur_ne (by omega)]; exact h.2.1.1) X (mh_ur_ne (by omega)) (fun j j0 j1 z => ?_) (fun a a0 a1 => mh_ur_ne (by omega)), X⟩
      by_cases y : j = k
      · subst y; rw [mh_ur_eq rfl] at z; omega
      · rw [mh_ur_ne (by omega)] at z; exact ⟨z, mh_ur_ne (by omega)⟩
theorem sl_brook {s er : Int → Int} {k : Int} (h : sl_A s) : sl_A (sp_brook k s er).2.1 ∧ sl_X s (sp_brook k s er).2.1 := by
  unfold sp_brook
  split
  · exact ⟨h, sl_X.rf⟩
  · split
    · exact ⟨h, sl_X.rf⟩
    · split
      · exact ⟨h, sl_X.rf⟩
      · rename_i c1 c2 c5
        show sl_A (mh_ur s (41 + 9 * k + 3) 1) ∧ sl_X s (mh_ur s (41 + 9 * k + 3) 1)
        have c3 : 0 ≤ k ∧ k ≤ s 3 - 1 := Decidable.of_not_not c1
        have c4 : s (41 + 9 * k + 3) < 2 ∧ s (41 + 9 * k + 8) = 0 := Decidable.of_not_not (fun z => c2 (Or.inl z))
        have c6 : ¬ s (41 + 9 * k + 3) = 1 := fun z => c2 (Or.inr z)
        have hm := h.1.1
        have hcr := h.1.2.2.2.2.1 k c3.1 (by omega)
        have X : sl_X s (mh_ur s (41 + 9 * k + 3) 1) := ⟨mh_ur_ne (by omega), mh_ur_ne (by omega), fun i i0 i1 => mh_ur_ne (by omega)⟩
        have hi := sp_inv_how h.1 (k := k) (v := 1) ⟨c3.1, by omega⟩ (by omega) (by omega) (Or.inr c4.2)
        refine ⟨⟨hi, h.2.1.to (by rw [mh_ur_ne (by omega)]; exact h.2.1.1) X, fun a a0 a1 => ?_⟩, X⟩
        rw [mh_ur_ne (by omega)]
        have hB := h.2.2 a a0 a1
        have e3 : mh_ur s (41 + 9 * k + 3) 1 3 = s 3 := mh_ur_ne (by omega)
        by_cases y : a = s (41 + 9 * k + 2)
        · have key : sp_inB (mh_ur s (41 + 9 * k + 3) 1) a ≤ sp_inB s a + 1 := by
            unfold sp_inB
            rw [e3]
            refine Int.le_trans (sp_cnt_le1 k _ (q := fun j => decide (s (41 + 9 * j + 3) = 1 ∧ s (41 + 9 * j + 2) = a)) (fun j hj hk2 z => ?_)) (by split <;> omega)
            have z1 := of_decide_eq_true z
            rw [mh_ur_ne (by omega), mh_ur_ne (by omega)] at z1
            exact decide_eq_true z1
          have : ¬ sp_inB s a = s (6 + 3 * a + 1) := by rw [y]; exact c5
          omega
        · have key : sp_inB (mh_ur s (41 + 9 * k + 3) 1) a ≤ sp_inB s a := by
            unfold sp_inB
            rw [e3]
            refine sp_cnt_le _ (fun j hj z => ?_)
            have z1 := of_decide_eq_true z
            rw [mh_ur_ne (show 41 + 9 * (j : Int) + 2 ≠ 41 + 9 * k + 3 by omega)] at z1
            by_cases w : (j : Int) = k
            · exfalso; rw [w] at z1; exact y z1.2.symm
            · rw [mh_ur_ne (by omega)] at z1
              exact decide_eq_true z1
          omega
theorem sl_giveUp {s er : Int → Int} {k : Int} (h : sl_A s) : sl_A (sp_giveUp k s er).2.1 ∧ sl_X s (sp_giveUp k s er).2.1 := by
  unfold sp_giveUp
  split
  · exact ⟨h, sl_X.rf⟩
  · split
    · exact ⟨h, sl_X.rf⟩
    · rename_i c1 c2
      generalize sp_cheese s (s (41 + 9 * k + 2)) (s (41 + 9 * k + 5)) = gn
      show sl_A (sp_takes (mh_ur (mh_ur s (41 + 9 * k + 3) 0) (41 + 9 * k + 8) 1) gn) ∧ sl_X s (sp_takes (mh_ur (mh_ur s (41 + 9 * k + 3) 0) (41 + 9 * k + 8) 1) gn)
      have c3 : 0 ≤ k ∧ k ≤ s 3 - 1 := Decidable.of_not_not c1
      have c4 : s (41 + 9 * k + 3) < 2 ∧ s (41 + 9 * k + 8) = 0 := Decidable.of_not_not c2
      have hm := h.1.1
      have hcr := h.1.2.2.2.2.1 k c3.1 (by omega)
      have e : ∀ i, i ≠ 1 → i ≠ 41 + 9 * k + 3 → i ≠ 41 + 9 * k + 8 → sp_takes (mh_ur (mh_ur s (41 + 9 * k + 3) 0) (41 + 9 * k + 8) 1) gn i = s i := fun i i0 i1 i2 => by unfold sp_takes; rw [mh_ur_ne i0, mh_ur_ne i2, mh_ur_ne i1]
      have e3 : sp_takes (mh_ur (mh_ur s (41 + 9 * k + 3) 0) (41 + 9 * k + 8) 1) gn (41 + 9 * k + 3) = 0 := by unfold sp_takes; rw [mh_ur_ne (by omega), mh_ur_ne (by omega), mh_ur_eq rfl]
      have e8 : sp_takes (mh_ur (mh_ur s (41 + 9 * k + 3) 0) (41 + 9 * k + 8) 1) gn (41 + 9 * k + 8) = 1 := by unfold sp_takes; rw [mh_ur_ne (by omega), mh_ur_eq rfl]
      have e1 : -99999 ≤ sp_takes (mh_ur (mh_ur s (41 + 9 * k + 3) 0) (41 + 9 * k + 8) 1) gn 1 ∧ sp_takes (mh_ur (mh_ur s (41 + 9 * k + 3) 0) (41 + 9 * k + 8) 1) gn 1 ≤ 99999 := by
        unfold sp_takes; rw [mh_ur_eq rfl]; unfold sp_held; omega
      refine sl_row h ⟨c3.1, by omega⟩ (fun i i0 i1 => e i i0 (by omega) (by omega)) e1 ?_ (fun z => by omega)
      obtain ⟨b0, b1, b2, b3, b4, b5, b6, b7, b8, b9, b10, b11, b12, b13⟩ := hcr
      unfold sp_row at b0 b1 b2 b3 b4 b5 b6 b7 b8 b9 b10 b11 b12 b13
      unfold sp_cok sp_row
      rw [e (41 + 9 * k + 0) (by omega) (by omega) (by omega), e (41 + 9 * k + 1) (by omega) (by omega) (by omega), e (41 + 9 * k + 2) (by omega) (by omega) (by omega), e3, e (41 + 9 * k + 4) (by omega) (by omega) (by omega), e (41 + 9 * k + 5) (by omega) (by omega) (by omega), e (41 + 9 * k + 6) (by omega) (by omega) (by omega), e (41 + 9 * k + 7) (by omega) (by omega) (by omega), e8]
      exact ⟨b0, b1, b2, by decide, b4, b5, b6, b7, by decide, fun _ => b9 (by omega), fun z => by omega, fun _ => b11 (by omega), fun _ => rfl, fun z => by omega⟩
theorem sl_anew {s : Int → Int} {k : Int} (h : sl_A s) (hk : 0 ≤ k ∧ k < 6) : sl_A (sp_anew s k) ∧ sl_X s (sp_anew s k) := by
  have e : ∀ i, ¬ (41 + 9 * k + 2 ≤ i ∧ i ≤ 41 + 9 * k + 8) → sp_anew s k i = s i := fun i hi => if_neg hi
  have e2 : ∀ i, (41 + 9 * k + 2 ≤ i ∧ i ≤ 41 + 9 * k + 8) → sp_anew s k i = 0 := fun i hi => if_pos hi
  have hcr := h.1.2.2.2.2.1 k hk.1 hk.2
  refine sl_row h hk (fun i i0 i1 => e i (by omega)) (by rw [e 1 (by omega)]; exact h.1.2.2.1) ?_ (fun z => by rw [e2 _ (by omega)] at z; omega)
  obtain ⟨b0, b1, b2, b3, b4, b5, b6, b7, b8, b9, b10, b11, b12, b13⟩ := hcr
  unfold sp_row at b0 b1
  unfold sp_cok sp_row
  rw [e (41 + 9 * k + 0) (by omega), e (41 + 9 * k + 1) (by omega), e2 (41 + 9 * k + 2) (by omega), e2 (41 + 9 * k + 3) (by omega), e2 (41 + 9 * k + 4) (by omega), e2 (41 + 9 * k + 5) (by omega), e2 (41 + 9 * k + 6) (by omega), e2 (41 + 9 * k + 7) (by omega), e2 (41 + 9 * k + 8) (by omega)]
  exact ⟨b0, b1, by decide, by decide, by decide, by decide, by decide, by decide, by decide, by decide, by decide, by decide, by decide, by decide⟩
theorem sl_refill {s er : Int → Int} {k : Int} (h : sl_A s) : sl_A (sp_refill k s er).2.1 ∧ sl_X s (sp_refill k s er).2.1 := by
  have hm := h.1.1
  unfold sp_refill
  split
  · exact ⟨h, sl_X.rf⟩
  · rename_i c1
    have c3 : 0 ≤ k ∧ k ≤ s 3 - 1 := Decidable.of_not_not c1
    exact sl_anew h ⟨c3.1, by omega⟩
theorem sl_quarters {s er : Int → Int} {n : Int} (h : sl_A s) : sl_A (sp_quarters n s er).2.1 ∧ sl_X s (sp_quarters n s er).2.1 := by
  unfold sp_quarters
  split
  · exact ⟨h, sl_X.rf⟩
  · split
    · exact ⟨h, sl_X.rf⟩
    · obtain ⟨a, b, c⟩ := sl_A_aqs h n.toNat (by omega)
      exact ⟨a, b⟩
theorem sl_daysP {s er : Int → Int} {n : Int} (h : sl_A s) : sl_A (sp_daysP n s er).2.1 ∧ sl_X s (sp_daysP n s er).2.1 := by
  unfold sp_daysP
  split
  · exact ⟨h, sl_X.rf⟩
  · split
    · exact ⟨h, sl_X.rf⟩
    · obtain ⟨a, b, c⟩ := sl_A_days h (16 * n).toNat (by omega)
      exact ⟨a, b⟩

