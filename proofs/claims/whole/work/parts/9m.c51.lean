/-! what stays, the other acts -/
theorem sp_wf_eq {c1 c2 : Nat → Int} {len : Int} (h : sp_wf c1 len) (e : ∀ k : Nat, (k : Int) < len → c2 k = c1 k) : sp_wf c2 len := by
  have hd : ∀ k : Nat, (k : Int) ≤ len → sp_dep c2 k = sp_dep c1 k := fun k hk => sp_dep_same (n := k) (fun j hj => e j (by omega)) k (Nat.le_refl _)
  obtain ⟨h1, h2, h3, h4⟩ := h
  refine ⟨h1, h2, fun k hk => ?_, fun z => ?_⟩
  · rw [e k hk, hd k (by omega)]; exact h3 k hk
  · rw [hd _ (by omega)]; exact h4 z
theorem sl_churn {s er : Int → Int} {x : Int} (h : sl_A s) : sl_A (sp_churn x s er).2.1 ∧ sl_X s (sp_churn x s er).2.1 := by
  unfold sp_churn
  split
  · exact ⟨h, sl_X.rf⟩
  · split
    · exact ⟨h, sl_X.rf⟩
    · rename_i c1 c2
      have c3 : 0 ≤ x ∧ x ≤ 69 := Decidable.of_not_not c1
      obtain ⟨t, et⟩ : ∃ t : Int → Int, t = sp_anew (mh_ur (mh_ur (mh_ur s 3 (s 3 + 1)) (41 + 9 * s 3 + 0) (x.tdiv 10)) (41 + 9 * s 3 + 1) (x.tmod 10)) (s 3) := ⟨_, rfl⟩
      show sl_A (sp_anew (mh_ur (mh_ur (mh_ur s 3 (s 3 + 1)) (41 + 9 * s 3 + 0) (x.tdiv 10)) (41 + 9 * s 3 + 1) (x.tmod 10)) (s 3)) ∧ sl_X s (sp_anew (mh_ur (mh_ur (mh_ur s 3 (s 3 + 1)) (41 + 9 * s 3 + 0) (x.tdiv 10)) (41 + 9 * s 3 + 1) (x.tmod 10)) (s 3))
      rw [← et]
      have hm := h.1.1
      have d1 : x.tdiv 10 = x / 10 := Int.tdiv_eq_ediv_of_nonneg c3.1
      have d2 : x.tmod 10 = x % 10 := Int.tmod_eq_emod_of_nonneg c3.1
      have e : ∀ i, i ≠ 3 → (i < 41 + 9 * s 3 ∨ 41 + 9 * s 3 + 9 ≤ i) → t i = s i := fun i i3 hi => by
        rw [et]; unfold sp_anew
        rw [if_neg (by omega), mh_ur_ne (by omega), mh_ur_ne (by omega), mh_ur_ne i3]
      have e3 : t 3 = s 3 + 1 := by
        rw [et]; unfold sp_anew
        rw [if_neg (by omega), mh_ur_ne (by omega), mh_ur_ne (by omega), mh_ur_eq rfl]
      have ez : ∀ i, 41 + 9 * s 3 + 2 ≤ i → i ≤ 41 + 9 * s 3 + 8 → t i = 0 := fun i i0 i1 => by rw [et]; exact if_pos ⟨i0, i1⟩
      have ek : t (41 + 9 * s 3 + 0) = x.tdiv 10 := by
        rw [et]; unfold sp_anew
        rw [if_neg (by omega), mh_ur_ne (by omega), mh_ur_eq rfl]
      have em : t (41 + 9 * s 3 + 1) = x.tmod 10 := by
        rw [et]; unfold sp_anew
        rw [if_neg (by omega), mh_ur_eq rfl]
      have X : sl_X s t := ⟨e 4 (by decide) (by omega), e 5 (by decide) (by omega), fun i i0 i1 => e i (by omega) (by omega)⟩
      obtain ⟨a1, a2, a3, ⟨a4, a5⟩, a6, a7, a8⟩ := h.1
      have hi : sp_inv t := by
        refine ⟨by omega, by rw [e 0 (by decide) (by omega)]; exact a2, by rw [e 1 (by decide) (by omega)]; exact a3, ⟨fun k k0 k1 => ?_, fun k k0 k1 => ?_⟩, fun k k0 k1 => ?_, ?_, ?_⟩
        · rw [e _ (by omega) (by omega), e _ (by omega) (by omega), e _ (by omega) (by omega)]; exact a4 k k0 k1
        · rw [e _ (by omega) (by omega), e _ (by omega) (by omega)]; exact a5 k k0 k1
        · by_cases y : k = s 3
          · unfold sp_cok sp_row
            rw [y, ek, em, ez (41 + 9 * s 3 + 2) (by omega) (by omega), ez (41 + 9 * s 3 + 3) (by omega) (by omega), ez (41 + 9 * s 3 + 4) (by omega) (by omega), ez (41 + 9 * s 3 + 5) (by omega) (by omega), ez (41 + 9 * s 3 + 6) (by omega) (by omega), ez (41 + 9 * s 3 + 7) (by omega) (by omega), ez (41 + 9 * s 3 + 8) (by omega) (by omega)]
            exact ⟨by omega, by omega, by decide, by decide, by decide, by decide, by decide, by decide, by decide, by decide, by decide, by decide, by decide, by decide⟩
          · have q := a6 k k0 k1
            unfold sp_cok sp_row at q ⊢
            rw [e (41 + 9 * k + 0) (by omega) (by omega), e (41 + 9 * k + 1) (by omega) (by omega), e (41 + 9 * k + 2) (by omega) (by omega), e (41 + 9 * k + 3) (by omega) (by omega), e (41 + 9 * k + 4) (by omega) (by omega), e (41 + 9 * k + 5) (by omega) (by omega), e (41 + 9 * k + 6) (by omega) (by omega), e (41 + 9 * k + 7) (by omega) (by omega), e (41 + 9 * k + 8) (by omega) (by omega)]
            exact q
        · rw [e 95 (by decide) (by omega)]
          refine sp_wf_eq a7 (fun k hk => ?_)
          exact e _ (by omega) (by omega)
        · rw [e 96 (by decide) (by omega)]
          refine sp_wf_eq a8 (fun k hk => ?_)
          exact e _ (by omega) (by omega)
      refine ⟨⟨hi, h.2.1.to (by rw [e 0 (by decide) (by omega)]; exact h.2.1.1) X, fun a a0 a1 => ?_⟩, X⟩
      rw [e _ (by omega) (by omega)]
      refine Int.le_trans ?_ (h.2.2 a a0 a1)
      unfold sp_inB
      rw [e3, show (s 3 + 1).toNat = (s 3).toNat + 1 by omega]
      show sp_cnt _ (s 3).toNat + _ ≤ _
      rw [if_neg (fun z => by
        have z1 := (of_decide_eq_true z).1
        rw [Int.toNat_of_nonneg hm.1, ez _ (by omega) (by omega)] at z1
        omega)]
      rw [Int.add_zero]
      refine sp_cnt_le _ (fun j hj z => ?_)
      have z1 := of_decide_eq_true z
      rw [e _ (by omega) (by omega), e _ (by omega) (by omega)] at z1
      exact decide_eq_true z1
theorem sl_thun {s er : Int → Int} (h : sl_A s) : sl_A (sp_thunP s er).2.1 ∧ sl_X s (sp_thunP s er).2.1 := ⟨(sl_A_thun h).1, (sl_A_thun h).2.1⟩
theorem sl_seed {s er : Int → Int} {x : Int} (h : sl_A s) : sl_A (sp_seed x s er).2.1 ∧ sl_X s (sp_seed x s er).2.1 := sl_A_2 h x
theorem sl_low {s : Int → Int} (h : sl_A s) {i v : Int} (hi : i = 4 ∨ i = 5 ∨ (197 ≤ i ∧ i < 267)) : sp_inv (mh_ur s i v) ∧ sl_B (mh_ur s i v) :=
  ⟨sp_inv_2 h.1 (by omega), h.2.2.to h.1.1 (mh_ur_ne (by omega)) (sl_D.eq (fun j j0 j1 => mh_ur_ne (by omega))) (fun a a0 a1 z => by rw [mh_ur_ne (by omega)]; exact z)⟩
theorem sl_byte (x i : Int) : 0 ≤ sp_byte x i ∧ sp_byte x i ≤ 255 := by
  unfold sp_byte mh_l2i mh_land
  rw [Int64.ofInt_toInt]
  generalize Int64.ofInt (mh_lshr x (8 * i)) = X
  have e : (X &&& Int64.ofInt 255).toInt32.toBitVec = (X.toBitVec &&& 255#64).signExtend 32 := rfl
  have e2 : ((X.toBitVec &&& 255#64).signExtend 32).toInt = ((X.toBitVec &&& 255#64).toNat : Int) := by
    have hle : (X.toBitVec &&& 255#64).toNat ≤ 255 := by rw [BitVec.toNat_and]; exact Nat.and_le_right
    have hl2 : X.toBitVec.toNat &&& 255 ≤ 255 := Nat.and_le_right
    have h1 : ((X.toBitVec &&& 255#64).signExtend 32) = (X.toBitVec &&& 255#64).setWidth 32 := by
      rw [BitVec.signExtend_eq_setWidth_of_msb_false]
      rw [BitVec.msb_eq_decide]
      simp; omega
    rw [h1, BitVec.toInt_eq_toNat_of_msb, BitVec.toNat_setWidth]
    · omega
    · rw [BitVec.msb_eq_decide, BitVec.toNat_setWidth]; simp; omega
  have e3 : (X &&& Int64.ofInt 255).toInt32.toInt = ((X.toBitVec &&& 255#64).toNat : Int) := e2
  rw [e3]
  have hle : (X.toBitVec &&& 255#64).toNat ≤ 255 := by rw [BitVec.toNat_and]; exact Nat.and_le_right
  omega
theorem sl_S4 {s : Int → Int} (h : sl_A s) {v : Int} (h4 : s 4 < 50) (hv : 0 ≤ v ∧ v ≤ 255) : sl_A (mh_ur (mh_ur s (197 + s 4) v) 4 (s 4 + 1)) := by
  have h0 := h.2.1.2.1
  have l1 := sl_low h (i := 197 + s 4) (v := v) (by omega)
  have z4 : mh_ur s (197 + s 4) v 4 = s 4 := mh_ur_ne (by omega)
  have S1 : sl_S (mh_ur s (197 + s 4) v) := by
    obtain ⟨a1, a2, a3, a4, a5⟩ := h.2.1
    refine ⟨by rw [mh_ur_ne (by omega)]; exact a1, by rw [z4]; exact a2, by rw [mh_ur_ne (by omega)]; exact a3, fun i i0 i1 => ?_, fun i i0 i1 => ?_⟩
    · rw [z4] at i1; rw [mh_ur_ne (by omega)]; exact a4 i i0 i1
    · rw [mh_ur_ne (by omega)]; exact a5 i i0 i1
  have l2 := sl_low (s := mh_ur s (197 + s 4) v) ⟨l1.1, S1, l1.2⟩ (i := 4) (v := s 4 + 1) (Or.inl rfl)
  obtain ⟨a1, a2, a3, a4, a5⟩ := h.2.1
  refine ⟨l2.1, ⟨by rw [mh_ur_ne (by omega), mh_ur_ne (by omega)]; exact a1, by rw [mh_ur_eq rfl]; omega, by rw [mh_ur_ne (by omega), mh_ur_ne (by omega)]; exact a3, fun i i0 i1 => ?_, fun i i0 i1 => ?_⟩, l2.2⟩
  · rw [mh_ur_eq rfl] at i1
    rw [mh_ur_ne (by omega)]
    by_cases y : i = s 4
    · rw [mh_ur_eq (by omega)]; exact hv
    · rw [mh_ur_ne (by omega)]; exact a4 i i0 (by omega)
  · rw [mh_ur_ne (by omega), mh_ur_ne (by omega)]; exact a5 i i0 i1
theorem sl_feeds {s : Int → Int} {x : Int} (h : sl_A s) (n : Nat) (hn : s 4 + n ≤ 50) : sl_A (sp_feeds x s n) := by
  induction n with
  | zero => exact h
  | succ n ih =>
    have a := ih (by omega)
    have e4 := sp_feeds_4 x s h.2.1.2.1.1 n
    have h40 := h.2.1.2.1
    have b := sl_S4 a (v := sp_byte x (n : Int)) (by omega) (sl_byte x n)
    show sl_A (mh_ur (mh_ur (sp_feeds x s n) (197 + sp_feeds x s n 4) (sp_byte x (n : Int))) 4 (mh_ur (sp_feeds x s n) (197 + sp_feeds x s n 4) (sp_byte x (n : Int)) 4 + 1))
    rw [mh_ur_ne (show (4 : Int) ≠ 197 + sp_feeds x s n 4 by omega)]
    exact b
theorem sl_feed {s er : Int → Int} {x n : Int} (h : sl_A s) : sl_A (sp_feed x n s er).2.1 := by
  unfold sp_feed
  split
  · exact h
  · split
    · exact h
    · exact sl_feeds h _ (by omega)
theorem sl_tell {s er : Int → Int} {x : Int} (hx : -2147483648 ≤ x ∧ x < 2147483648) (h : sl_A s) : sl_A (sp_tell x s er).2.1 := by
  unfold sp_tell
  split
  · exact h
  · show sl_A (mh_ur (mh_ur s (247 + s 5) x) 5 (s 5 + 1))
    have h0 := h.2.1.2.2.1
    obtain ⟨a1, a2, a3, a4, a5⟩ := h.2.1
    have l1 := sl_low h (i := 247 + s 5) (v := x) (by omega)
    have S1 : sl_S (mh_ur s (247 + s 5) x) := by
      refine ⟨by rw [mh_ur_ne (by omega)]; exact a1, by rw [mh_ur_ne (by omega)]; exact a2, by rw [mh_ur_ne (by omega)]; exact a3, fun i i0 i1 => ?_, fun i i0 i1 => ?_⟩
      · rw [mh_ur_ne (show (4 : Int) ≠ 247 + s 5 by omega)] at i1
        rw [mh_ur_ne (by omega)]; exact a4 i i0 i1
      · by_cases y : i = s 5
        · rw [mh_ur_eq (by omega)]; exact hx
        · rw [mh_ur_ne (by omega)]; exact a5 i i0 i1
    have l2 := sl_low (s := mh_ur s (247 + s 5) x) ⟨l1.1, S1, l1.2⟩ (i := 5) (v := s 5 + 1) (Or.inr (Or.inl rfl))
    obtain ⟨b1, b2, b3, b4, b5⟩ := S1
    exact ⟨l2.1, ⟨by rw [mh_ur_ne (by decide)]; exact b1, by rw [mh_ur_ne (by decide)]; exact b2, by rw [mh_ur_eq rfl]; omega, fun i i0 i1 => by rw [mh_ur_ne (by decide)] at i1; rw [mh_ur_ne (by omega)]; exact b4 i i0 i1, fun i i0 i1 => by rw [mh_ur_ne (by omega)]; exact b5 i i0 i1⟩, l2.2⟩
theorem sl_check {s er : Int → Int} (h : sl_A s) : sl_A (sp_checkP s er).2.1 := by
  show sl_A (mh_ur s 5 0)
  have l2 := sl_low h (i := 5) (v := 0) (Or.inr (Or.inl rfl))
  obtain ⟨b1, b2, b3, b4, b5⟩ := h.2.1
  exact ⟨l2.1, ⟨by rw [mh_ur_ne (by decide)]; exact b1, by rw [mh_ur_ne (by decide)]; exact b2, by rw [mh_ur_eq rfl]; decide, fun i i0 i1 => by rw [mh_ur_ne (by decide)] at i1; rw [mh_ur_ne (by omega)]; exact b4 i i0 i1, fun i i0 i1 => by rw [mh_ur_ne (by omega)]; exact b5 i i0 i1⟩, l2.2⟩
theorem sl_S0 {s t : Int → Int} (h : sl_S s) (h0 : t 0 = s 0) (h4 : t 4 = 0) (h5 : t 5 = s 5) (e : ∀ i, 247 ≤ i → i < 267 → t i = s i) : sl_S t := by
  obtain ⟨b1, b2, b3, b4, b5⟩ := h
  exact ⟨by omega, by omega, by omega, fun i i0 i1 => by omega, fun i i0 i1 => by rw [e _ (by omega) (by omega)]; exact b5 i i0 i1⟩
theorem sl_text {s er fr : Int → Int} {u : Int} (h : sl_A s) : sl_A (sp_text u s er fr).2.1 := by
  have hb : sx_by s := ⟨h.2.1.2.1, h.2.1.2.2.2.1⟩
  unfold sp_text
  split
  · exact h
  · rename_i c1
    have hu : 0 ≤ u ∧ u ≤ 1 := Decidable.of_not_not c1
    split
    · show sl_A (mh_ur s 4 0)
      have l2 := sl_low h (i := 4) (v := 0) (Or.inl rfl)
      exact ⟨l2.1, sl_S0 h.2.1 (mh_ur_ne (by decide)) (mh_ur_eq rfl) (mh_ur_ne (by decide)) (fun i i0 i1 => mh_ur_ne (by omega)), l2.2⟩
    · rename_i c2
      have hg : sx_gr s (0, 0, 0, fr) (sx_r s fr u) := sx_r_ok hb
      generalize sx_r s fr u = q at c2 hg ⊢
      show sl_A (sx_cdx s q.2.2.2 u q.2.2.1 q.2.2.1)
      obtain ⟨g1, g2, g3, g4, g5, g6⟩ := hg
      obtain ⟨p1, p2, p3⟩ := sx_pv_x g1
      have hb1 := hb.1
      have o : ∀ i, i ≠ 4 → i ≠ 95 + u → (i < 97 + 50 * u ∨ 147 + 50 * u ≤ i) → sx_cdx s q.2.2.2 u q.2.2.1 q.2.2.1 i = s i := fun i i0 i1 i2 => sc_cdx_o hu (by omega) i0 i1 i2
      have q0 : q.2.1 = 0 := by omega
      have d0 : sx_dp ((0, 0, 0, fr) : sx_S) = 0 := rfl
      obtain ⟨s1, s2, s3, s4⟩ := g6 q0 (by rw [d0]; decide)
      have hw : sp_wf (sp_code (sx_cdx s q.2.2.2 u q.2.2.1 q.2.2.1) u) q.2.2.1 := by
        have hdc : ∀ k : Nat, (k : Int) < q.2.2.1 → sp_code (sx_cdx s q.2.2.2 u q.2.2.1 q.2.2.1) u k = q.2.2.2 (k : Int) := fun k hk => by
          unfold sp_code sx_cdx
          rw [if_neg (by omega), if_neg (by omega), if_pos (by omega), show 97 + 50 * u + (k : Int) - (97 + 50 * u) = (k : Int) by omega]
        have hdp : ∀ k : Nat, (k : Int) ≤ q.2.2.1 → sp_dep (sp_code (sx_cdx s q.2.2.2 u q.2.2.1 q.2.2.1) u) k = sp_dep (fun j => q.2.2.2 (j : Int)) k := fun k hk => sp_dep_same (n := k) (fun j hj => hdc j (by omega)) k (Nat.le_refl _)
        refine ⟨by omega, by omega, fun k hk => ?_, fun _ => ?_⟩
        · have z := s4 k (by show (0 : Int) ≤ k; omega) hk
          unfold sx_ck at z
          rw [hdc k hk, hdp k (by omega)]
          exact z
        · rw [hdp _ (by omega)]
          have : sp_dep (fun j => q.2.2.2 (j : Int)) q.2.2.1.toNat = sx_dp q := rfl
          omega
      have em : sx_cdx s q.2.2.2 u q.2.2.1 q.2.2.1 (95 + u) = q.2.2.1 := by unfold sx_cdx; rw [if_neg (by omega), if_pos rfl]
      have e4 : sx_cdx s q.2.2.2 u q.2.2.1 q.2.2.1 4 = 0 := by unfold sx_cdx; rw [if_pos rfl]
      obtain ⟨a1, a2, a3, ⟨a4, a5⟩, a6, a7, a8⟩ := h.1
      have hi : sp_inv (sx_cdx s q.2.2.2 u q.2.2.1 q.2.2.1) := by
        refine ⟨by rw [o 3 (by decide) (by omega) (by omega)]; exact a1, by rw [o 0 (by decide) (by omega) (by omega)]; exact a2, by rw [o 1 (by decide) (by omega) (by omega)]; exact a3, ⟨fun k k0 k1 => ?_, fun k k0 k1 => ?_⟩, fun k k0 k1 => ?_, ?_⟩
        · rw [o _ (by omega) (by omega) (by omega), o _ (by omega) (by omega) (by omega), o _ (by omega) (by omega) (by omega)]; exact a4 k k0 k1
        · rw [o _ (by omega) (by omega) (by omega), o _ (by omega) (by omega) (by omega)]; exact a5 k k0 k1
        · have qk := a6 k k0 k1
          unfold sp_cok sp_row at qk ⊢
          rw [o (41 + 9 * k + 0) (by omega) (by omega) (by omega), o (41 + 9 * k + 1) (by omega) (by omega) (by omega), o (41 + 9 * k + 2) (by omega) (by omega) (by omega), o (41 + 9 * k + 3) (by omega) (by omega) (by omega), o (41 + 9 * k + 4) (by omega) (by omega) (by omega), o (41 + 9 * k + 5) (by omega) (by omega) (by omega), o (41 + 9 * k + 6) (by omega) (by omega) (by omega), o (41 + 9 * k + 7) (by omega) (by omega) (by omega), o (41 + 9 * k + 8) (by omega) (by omega) (by omega)]
          exact qk
        · rcases (show u = 0 ∨ u = 1 by omega) with z | z
          · subst z
            refine ⟨by rw [show (95 : Int) = 95 + 0 by decide, em]; exact hw, ?_⟩
            rw [o 96 (by decide) (by decide) (by decide)]
            refine sp_wf_eq a8 (fun k hk => ?_)
            have := a8.2.1
            exact o _ (by omega) (by omega) (by omega)
          · subst z
            refine ⟨?_, by rw [show (96 : Int) = 95 + 1 by decide, em]; exact hw⟩
            rw [o 95 (by decide) (by decide) (by decide)]
            refine sp_wf_eq a7 (fun k hk => ?_)
            have := a7.2.1
            exact o _ (by omega) (by omega) (by omega)
      exact ⟨hi, sl_S0 h.2.1 (o 0 (by decide) (by omega) (by omega)) e4 (o 5 (by decide) (by omega) (by omega)) (fun i i0 i1 => o i (by omega) (by omega) (by omega)), h.2.2.to h.1.1 (o 3 (by decide) (by omega) (by omega)) (sl_D.eq (fun j j0 j1 => o j (by omega) (by omega) (by omega))) (fun a a0 a1 z => by rw [o _ (by omega) (by omega) (by omega)]; exact z)⟩

