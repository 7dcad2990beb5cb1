/-! what always holds of the model's row, and stays: beside sp_inv -/
def sl_S (s : Int → Int) : Prop := s 0 ≤ 9999 ∧ (0 ≤ s 4 ∧ s 4 ≤ 50) ∧ (0 ≤ s 5 ∧ s 5 ≤ 20) ∧ (∀ i, 0 ≤ i → i < s 4 → 0 ≤ s (197 + i) ∧ s (197 + i) ≤ 255) ∧ ∀ i, 0 ≤ i → i < 20 → -2147483648 ≤ s (247 + i) ∧ s (247 + i) < 2147483648
def sl_B (s : Int → Int) : Prop := ∀ a, 0 ≤ a → a ≤ 8 → sp_inB s a ≤ s (6 + 3 * a + 1)
def sl_A (s : Int → Int) : Prop := sp_inv s ∧ sl_S s ∧ sl_B s
def sl_X (s t : Int → Int) : Prop := t 4 = s 4 ∧ t 5 = s 5 ∧ ∀ i, 197 ≤ i → i < 267 → t i = s i
theorem sl_X.rf {s : Int → Int} : sl_X s s := ⟨rfl, rfl, fun _ _ _ => rfl⟩
theorem sl_S.to {s t : Int → Int} (h : sl_S s) (h0 : t 0 ≤ 9999) (e : sl_X s t) : sl_S t := by
  obtain ⟨a1, a2, a3, a4, a5⟩ := h
  obtain ⟨e4, e5, ei⟩ := e
  refine ⟨h0, by omega, by omega, fun i i0 i1 => ?_, fun i i0 i1 => ?_⟩
  · rw [ei _ (by omega) (by omega)]; exact a4 i i0 (by omega)
  · rw [ei _ (by omega) (by omega)]; exact a5 i i0 i1
theorem sp_cnt_le {p q : Int → Bool} (n : Nat) (h : ∀ k : Nat, k < n → p (k : Int) = true → q (k : Int) = true) : sp_cnt p n ≤ sp_cnt q n := by
  induction n with
  | zero => exact Int.le_refl _
  | succ n ih =>
    have h1 := ih (fun k hk => h k (by omega))
    have h2 := h n (by omega)
    unfold sp_cnt
    by_cases z : p (n : Int) = true
    · rw [if_pos z, if_pos (h2 z)]; omega
    · rw [if_neg z]; split <;> omega
theorem sp_cnt_le1 {p q : Int → Bool} (c : Int) (n : Nat) (h : ∀ k : Nat, k < n → (k : Int) ≠ c → p (k : Int) = true → q (k : Int) = true) : sp_cnt p n ≤ sp_cnt q n + (if 0 ≤ c ∧ c < n then 1 else 0) := by
  induction n with
  | zero => rw [if_neg (by omega)]; exact Int.le_refl _
  | succ n ih =>
    have h1 := ih (fun k hk => h k (by omega))
    unfold sp_cnt
    by_cases y : (n : Int) = c
    · rw [if_neg (by omega)] at h1
      rw [if_pos (show 0 ≤ c ∧ c < ((n + 1 : Nat) : Int) by omega)]
      have e1 : (if p (n : Int) = true then (1 : Int) else 0) ≤ 1 := by split <;> decide
      have e2 : (0 : Int) ≤ (if q (n : Int) = true then 1 else 0) := by split <;> decide
      omega
    · have h2 := h n (by omega) y
      have e3 : (if 0 ≤ c ∧ c < ((n + 1 : Nat) : Int) then (1 : Int) else 0) = (if 0 ≤ c ∧ c < (n : Int) then 1 else 0) := by
        by_cases w : 0 ≤ c ∧ c < (n : Int)
        · rw [if_pos w, if_pos (by omega)]
        · rw [if_neg w, if_neg (by omega)]
      rw [e3]
      by_cases z : p (n : Int) = true
      · rw [if_pos z, if_pos (h2 z)]; omega
      · rw [if_neg z]
        have e2 : (0 : Int) ≤ (if q (n : Int) = true then 1 else 0) := by split <;> decide
        omega
/-- nobody comes into a brook -/
def sl_D (s t : Int → Int) : Prop := ∀ j, 0 ≤ j → j < 6 → t (41 + 9 * j + 3) = 1 → s (41 + 9 * j + 3) = 1 ∧ t (41 + 9 * j + 2) = s (41 + 9 * j + 2)
theorem sl_D.rf {s : Int → Int} : sl_D s s := fun _ _ _ h => ⟨h, rfl⟩
theorem sl_D.tr {s t r : Int → Int} (h1 : sl_D s t) (h2 : sl_D t r) : sl_D s r := fun j j0 j1 h => by
  obtain ⟨a, b⟩ := h2 j j0 j1 h
  obtain ⟨c, d⟩ := h1 j j0 j1 a
  exact ⟨c, b.trans d⟩
theorem sl_D.eq {s t : Int → Int} (h : ∀ i, 41 ≤ i → i < 95 → t i = s i) : sl_D s t := fun j j0 j1 e => by
  rw [h _ (by omega) (by omega)] at e
  exact ⟨e, h _ (by omega) (by omega)⟩
theorem sp_inB_le {s t : Int → Int} (hm : 0 ≤ s 3 ∧ s 3 ≤ 6) (h3 : t 3 = s 3) (h : sl_D s t) (a : Int) : sp_inB t a ≤ sp_inB s a := by
  unfold sp_inB
  rw [h3]
  refine sp_cnt_le _ (fun k hk z => ?_)
  have z1 := of_decide_eq_true z
  obtain ⟨b, c⟩ := h (k : Int) (by omega) (by omega) z1.1
  exact decide_eq_true ⟨b, by rw [← c]; exact z1.2⟩
theorem sl_B.to {s t : Int → Int} (hB : sl_B s) (hm : 0 ≤ s 3 ∧ s 3 ≤ 6) (h3 : t 3 = s 3) (h : sl_D s t) (hr : ∀ a, 0 ≤ a → a ≤ 8 → sp_inB s a ≤ s (6 + 3 * a + 1) → sp_inB s a ≤ t (6 + 3 * a + 1)) : sl_B t := fun a a0 a1 =>
  Int.le_trans (sp_inB_le hm h3 h a) (hr a a0 a1 (hB a a0 a1))
theorem sl_A.to {s t : Int → Int} (h : sl_A s) (hi : sp_inv t) (h0 : t 0 ≤ 9999) (hX : sl_X s t) (h3 : t 3 = s 3) (hD : sl_D s t) (hr : ∀ a, 0 ≤ a → a ≤ 8 → t (6 + 3 * a + 1) = s (6 + 3 * a + 1)) : sl_A t :=
  ⟨hi, h.2.1.to h0 hX, h.2.2.to h.1.1 h3 hD (fun a a0 a1 z => by rw [hr a a0 a1]; exact z)⟩
theorem sl_D_go {s : Int → Int} {k : Int} (hk : 0 ≤ k ∧ k < 6) : sl_D s (sp_go s k) := fun j j0 j1 h => by
  by_cases z : j = k
  · subst z
    unfold sp_go at h ⊢
    split at h
    · rw [if_pos (by assumption)]; exact ⟨h, rfl⟩
    · rename_i c1
      rw [if_neg c1]
      exfalso
      apply c1
      split at h
      · unfold sp_sours at h
        rw [mh_ur_ne (by omega)] at h
        exact Or.inr (Or.inr h)
      · split at h
        · rw [mh_ur_ne (by omega), mh_ur_ne (by omega)] at h
          unfold sp_sours at h
          rw [mh_ur_ne (by omega)] at h
          exact Or.inr (Or.inr h)
        · unfold sp_comes sp_takes at h
          split at h
          · rw [mh_ur_ne (by omega), mh_ur_eq rfl] at h; omega
          · rw [mh_ur_eq rfl] at h; omega
  · rw [sp_go_out s k _ (by omega) (by omega)] at h
    exact ⟨h, sp_go_out s k _ (by omega) (by omega)⟩
theorem sl_D_gos {s : Int → Int} (n : Nat) (hn : n ≤ 6) : sl_D s (sp_gos s n) := by
  induction n with
  | zero => exact sl_D.rf
  | succ n ih => exact (ih (by omega)).tr (sl_D_go ⟨by omega, by omega⟩)
theorem sl_D_aq {s : Int → Int} (hm : 0 ≤ s 3 ∧ s 3 ≤ 6) : sl_D s (sp_aq s) := (sl_D_gos (s 3).toNat (by omega)).tr (sl_D.eq (fun i i0 i1 => by unfold sp_aq; exact mh_ur_ne (by omega)))
theorem sl_A_aq {s : Int → Int} (h : sl_A s) (h0 : s 0 < 9999) : sl_A (sp_aq s) ∧ sl_X s (sp_aq s) ∧ sp_aq s 0 = s 0 + 1 := by
  have hm := h.1.1
  have o := fun i a b c => sp_aq_out hm i a b c
  have X : sl_X s (sp_aq s) := ⟨o 4 (by decide) (by decide) (by decide), o 5 (by decide) (by decide) (by decide), fun i i0 i1 => o i (by omega) (by omega) (by omega)⟩
  have e0 := sp_aq_0 hm
  exact ⟨h.to (sp_aq_inv h.1 (by omega)) (by omega) X (o 3 (by decide) (by decide) (by decide)) (sl_D_aq hm) (fun a a0 a1 => o _ (by omega) (by omega) (by omega)), X, e0⟩
theorem sl_A_aqs {s : Int → Int} (h : sl_A s) (n : Nat) (hn : s 0 + n ≤ 9999) : sl_A (sp_aqs s n) ∧ sl_X s (sp_aqs s n) ∧ sp_aqs s n 0 = s 0 + n := by
  induction n with
  | zero => exact ⟨h, sl_X.rf, by show s 0 = s 0 + 0; omega⟩
  | succ n ih =>
    obtain ⟨a, b, c⟩ := ih (by omega)
    obtain ⟨d, e, f⟩ := sl_A_aq a (by omega)
    exact ⟨d, ⟨e.1.trans b.1, e.2.1.trans b.2.1, fun i i0 i1 => (e.2.2 i i0 i1).trans (b.2.2 i i0 i1)⟩, by show sp_aq (sp_aqs s n) 0 = _; omega⟩
theorem sl_D_ths {s : Int → Int} (n : Nat) (hn : n ≤ 6) : sl_D s (sp_ths s n).2 := by
  induction n with
  | zero => exact sl_D.rf
  | succ n ih =>
    refine (ih (by omega)).tr ?_
    show sl_D _ (sp_th1 (sp_ths s n) (n : Int)).2
    unfold sp_th1
    split
    · intro j j0 j1 h
      show _ ∧ sp_sours _ _ _ _ = _
      change sp_sours _ _ _ _ = _ at h
      unfold sp_sours at h ⊢
      rw [mh_ur_ne (by omega)] at h
      exact ⟨h, mh_ur_ne (by omega)⟩
    · exact sl_D.rf
theorem sl_A_thun {s : Int → Int} (h : sl_A s) : sl_A (sp_thun s).2 ∧ sl_X s (sp_thun s).2 ∧ (sp_thun s).2 0 = s 0 := by
  have o := fun i a => sp_thun_out h.1 i a
  have X : sl_X s (sp_thun s).2 := ⟨o 4 (by decide), o 5 (by decide), fun i i0 i1 => o i (by omega)⟩
  have hm := h.1.1
  have hS := h.2.1.1
  exact ⟨h.to (sp_thun_inv h.1) (by rw [o 0 (by decide)]; exact hS) X (o 3 (by decide)) (sl_D_ths _ (by omega)) (fun a a0 a1 => o _ (by omega)), X, o 0 (by decide)⟩
theorem sl_A_2 {s : Int → Int} (h : sl_A s) (v : Int) : sl_A (mh_ur s 2 v) ∧ sl_X s (mh_ur s 2 v) := by
  have X : sl_X s (mh_ur s 2 v) := ⟨mh_ur_ne (by decide), mh_ur_ne (by decide), fun i i0 i1 => mh_ur_ne (by omega)⟩
  exact ⟨h.to (sp_inv_2 h.1 (Or.inl rfl)) (by rw [mh_ur_ne (by decide)]; exact h.2.1.1) X (mh_ur_ne (by decide)) (sl_D.eq (fun i i0 i1 => mh_ur_ne (by omega))) (fun a a0 a1 => mh_ur_ne (by omega)), X⟩
theorem sl_X.tr {s t r : Int → Int} (b : sl_X s t) (e : sl_X t r) : sl_X s r := ⟨e.1.trans b.1, e.2.1.trans b.2.1, fun i i0 i1 => (e.2.2 i i0 i1).trans (b.2.2 i i0 i1)⟩
theorem sl_A_day {s : Int → Int} (h : sl_A s) (h0 : s 0 < 9999) : sl_A (sp_day s) ∧ sl_X s (sp_day s) ∧ sp_day s 0 = s 0 + 1 := by
  have hd := sl_A_2 h (sp_wr (s 2 * 1103515245 + 12345))
  have e2 : sp_draw s 0 = s 0 := mh_ur_ne (by decide)
  change sl_A (sp_draw s) ∧ sl_X s (sp_draw s) at hd
  unfold sp_day
  split
  · obtain ⟨a, b, c⟩ := sl_A_thun hd.1
    obtain ⟨d, e, f⟩ := sl_A_aq a (by omega)
    exact ⟨d, (hd.2.tr b).tr e, by omega⟩
  · obtain ⟨d, e, f⟩ := sl_A_aq hd.1 (by omega)
    exact ⟨d, hd.2.tr e, by omega⟩
theorem sl_A_days {s : Int → Int} (h : sl_A s) (n : Nat) (hn : s 0 + n ≤ 9999) : sl_A (sp_days s n) ∧ sl_X s (sp_days s n) ∧ sp_days s n 0 = s 0 + n := by
  induction n with
  | zero => exact ⟨h, sl_X.rf, by show s 0 = s 0 + 0; omega⟩
  | succ n ih =>
    obtain ⟨a, b, c⟩ := ih (by omega)
    obtain ⟨d, e, f⟩ := sl_A_day a (by omega)
    exact ⟨d, b.tr e, by show sp_day (sp_days s n) 0 = _; omega⟩

