theorem sp_inv_row {s t : Int → Int} (h : sp_inv s) {k : Int} (hk : 0 ≤ k ∧ k < 6) (e0 : t 0 = s 0) (e1 : -99999 ≤ t 1 ∧ t 1 ≤ 99999) (e3 : t 3 = s 3) (eh : ∀ i, 6 ≤ i → i < 41 → t i = s i) (ec : ∀ i, 95 ≤ i → t i = s i) (er : ∀ i, 41 ≤ i → i < 95 → (i < 41 + 9 * k ∨ 41 + 9 * k + 9 ≤ i) → t i = s i) (hc : sp_cok (sp_row t k)) : sp_inv t := by
  obtain ⟨a1, a2, a3, ⟨a4, a5⟩, a6, a7⟩ := h
  refine ⟨by rw [e3]; exact a1, by rw [e0]; exact a2, e1, ⟨fun j j0 j1 => ?_, fun j j0 j1 => ?_⟩, fun j j0 j1 => ?_, sp_wfs_same (fun i hi => (ec i hi).symm) a7⟩
  · rw [eh _ (by omega) (by omega), eh _ (by omega) (by omega), eh _ (by omega) (by omega)]; exact a4 j j0 j1
  · rw [eh _ (by omega) (by omega), eh _ (by omega) (by omega)]; exact a5 j j0 j1
  · by_cases c : j = k
    · rw [c]; exact hc
    · have := a6 j j0 j1
      unfold sp_cok sp_row at *
      rw [er _ (by omega) (by omega) (by omega), er _ (by omega) (by omega) (by omega), er _ (by omega) (by omega) (by omega), er _ (by omega) (by omega) (by omega), er _ (by omega) (by omega) (by omega), er _ (by omega) (by omega) (by omega), er _ (by omega) (by omega) (by omega), er _ (by omega) (by omega) (by omega), er _ (by omega) (by omega) (by omega)]
      exact this
/-- what a quarter of a churn leaves alone -/
theorem sp_go_out (s : Int → Int) (k i : Int) (h1 : i ≠ 1) (h : i < 41 + 9 * k ∨ 41 + 9 * k + 9 ≤ i) : sp_go s k i = s i := by
  unfold sp_go sp_comes sp_takes sp_sours
  repeat' split
  all_goals (try rfl)
  all_goals (repeat rw [mh_ur_ne (by omega)])
theorem sp_go_inv {s : Int → Int} (h : sp_inv s) {k : Int} (hk : 0 ≤ k ∧ k < 6) : sp_inv (sp_go s k) := by
  have hc := h.2.2.2.2.1 k hk.1 hk.2
  have h1 := h.2.2.1
  obtain ⟨c0, c1, c2, c3, c4, c5, c6, c7, c8, c9, c10, c11, c12, c13⟩ := hc
  unfold sp_row at c0 c1 c2 c3 c4 c5 c6 c7 c8 c9 c10 c11 c12 c13
  have g5 : 0 ≤ sp_held (s (41 + 9 * k + 5) + sp_q5 s k) 0 9999 ∧ sp_held (s (41 + 9 * k + 5) + sp_q5 s k) 0 9999 ≤ 9999 := sp_held_rg (by decide)
  have g6 : 0 ≤ sp_q6 s k ∧ sp_q6 s k ≤ 9999 := sp_held_rg (by decide)
  refine sp_inv_row h hk (sp_go_out s k 0 (by decide) (by omega)) ?_ (sp_go_out s k 3 (by decide) (by omega)) (fun i i0 i1 => sp_go_out s k i (by omega) (by omega)) (fun i i0 => sp_go_out s k i (by omega) (by omega)) (fun i i0 i1 i2 => sp_go_out s k i (by omega) i2) ?_
  · unfold sp_go sp_comes sp_takes sp_sours
    repeat' split
    all_goals first | exact h1 | (rw [mh_ur_eq rfl]; exact sp_held_rg (by decide)) | (repeat rw [mh_ur_ne (by omega)]); exact h1
  · unfold sp_cok sp_row
    have q : ∀ (t : Int → Int) (i j v : Int), mh_ur t i v j = if j = i then v else t j := fun _ _ _ _ => rfl
    have n0 : ¬ (41 + 9 * k + 0 = 1) := by omega
    have n1 : ¬ (41 + 9 * k + 1 = 1) := by omega
    have n2 : ¬ (41 + 9 * k + 2 = 1) := by omega
    have n3 : ¬ (41 + 9 * k + 3 = 1) := by omega
    have n4 : ¬ (41 + 9 * k + 4 = 1) := by omega
    have n5 : ¬ (41 + 9 * k + 5 = 1) := by omega
    have n6 : ¬ (41 + 9 * k + 6 = 1) := by omega
    have n7 : ¬ (41 + 9 * k + 7 = 1) := by omega
    have n8 : ¬ (41 + 9 * k + 8 = 1) := by omega
    by_cases a1 : s (41 + 9 * k + 8) = 1 ∨ s (41 + 9 * k + 3) = 3 ∨ s (41 + 9 * k + 3) = 1
    · unfold sp_go; rw [if_pos a1]; omega
    by_cases a2 : s (41 + 9 * k + 3) ≠ 2
    · unfold sp_go sp_sours; rw [if_neg a1, if_pos a2]
      generalize sp_held (s (41 + 9 * k + 5) + sp_q5 s k) 0 9999 = v5 at g5 ⊢
      simp (config := { decide := true }) only [q, Int.add_right_inj, n0, n1, n2, n3, n4, n5, n6, n7, n8, if_true, if_false, true_implies, false_implies, implies_true, true_and, and_true, if_true]
      omega
    by_cases a3 : s (41 + 9 * k + 4) - 1 ≠ 0
    · unfold sp_go sp_sours; rw [if_neg a1, if_neg a2, if_pos a3]
      generalize sp_held (s (41 + 9 * k + 5) + sp_q5 s k) 0 9999 = v5 at g5 ⊢
      generalize sp_q6 s k = v6 at g6 ⊢
      simp (config := { decide := true }) only [q, Int.add_right_inj, n0, n1, n2, n3, n4, n5, n6, n7, n8, if_true, if_false, true_implies, false_implies, implies_true, true_and, and_true, if_true]
      omega
    · unfold sp_go sp_sours; rw [if_neg a1, if_neg a2, if_neg a3]
      generalize sp_held (s (41 + 9 * k + 5) + sp_q5 s k) 0 9999 = v5 at g5 ⊢
      generalize sp_q6 s k = v6 at g6 ⊢
      have e2 : (mh_ur (mh_ur (mh_ur s (41 + 9 * k + 5) v5) (41 + 9 * k + 6) v6) (41 + 9 * k + 4) (s (41 + 9 * k + 4) - 1)) (41 + 9 * k + 2) = s (41 + 9 * k + 2) := by
        rw [mh_ur_ne (by omega), mh_ur_ne (by omega), mh_ur_ne (by omega)]
      unfold sp_comes sp_takes
      rw [e2]
      by_cases a4 : s (41 + 9 * k + 2) + 1 = 9
      · rw [if_pos a4]
        simp (config := { decide := true }) only [q, Int.add_right_inj, n0, n1, n2, n3, n4, n5, n6, n7, n8, if_true, if_false, true_implies, false_implies, implies_true, true_and, and_true, if_true]
        omega
      · rw [if_neg a4]
        simp (config := { decide := true }) only [q, Int.add_right_inj, n0, n1, n2, n3, n4, n5, n6, n7, n8, if_true, if_false, true_implies, false_implies, implies_true, true_and, and_true, if_true]
        omega
