def mh_cp (n : Int) (u v : Int → Int) : Int → Int := fun i => if 0 ≤ i ∧ i < n then u i else v i
def sp_th1 (p : Int × (Int → Int)) (k : Int) : Int × (Int → Int) := if p.2 (41 + 9 * k + 8) = 0 ∧ p.2 (41 + 9 * k + 3) ≠ 3 then (p.1 + 1, sp_sours p.2 k 30) else p
def sp_ths (s : Int → Int) : Nat → Int × (Int → Int)
  | 0 => (0, s)
  | k + 1 => sp_th1 (sp_ths s k) (k : Int)
theorem sp_ths_at (s : Int → Int) {k : Int} (h : 0 ≤ k) : sp_ths s (k + 1).toNat = sp_th1 (sp_ths s k.toNat) k := by
  rw [show (k + 1).toNat = k.toNat + 1 by omega]
  show sp_th1 _ (k.toNat : Int) = _
  rw [Int.toNat_of_nonneg h]
theorem sp_th1_out (p : Int × (Int → Int)) (k i : Int) (h : i ≠ 41 + 9 * k + 5) : (sp_th1 p k).2 i = p.2 i := by
  unfold sp_th1 sp_sours
  split
  · exact mh_ur_ne h
  · rfl
theorem sp_ths_out (s : Int → Int) (n : Nat) (hn : n ≤ 6) (i : Int) (h : i < 41 ∨ 95 ≤ i) : (sp_ths s n).2 i = s i := by
  induction n with
  | zero => rfl
  | succ n ih => show (sp_th1 _ _).2 i = _; rw [sp_th1_out _ _ _ (by omega)]; exact ih (by omega)
theorem sp_sours_inv {s : Int → Int} (h : sp_inv s) {k v : Int} (hk : 0 ≤ k ∧ k < 6) : sp_inv (sp_sours s k v) := by
  have hc := h.2.2.2.2.1 k hk.1 hk.2
  have g5 : 0 ≤ sp_held (s (41 + 9 * k + 5) + v) 0 9999 ∧ sp_held (s (41 + 9 * k + 5) + v) 0 9999 ≤ 9999 := sp_held_rg (by decide)
  have o : ∀ i, i ≠ 41 + 9 * k + 5 → sp_sours s k v i = s i := fun i hi => mh_ur_ne hi
  have e : sp_sours s k v (41 + 9 * k + 5) = sp_held (s (41 + 9 * k + 5) + v) 0 9999 := mh_ur_eq rfl
  refine sp_inv_row h hk (o _ (by omega)) (by rw [o _ (by omega)]; exact h.2.2.1) (o _ (by omega)) (fun i i0 i1 => o _ (by omega)) (fun i i0 => o _ (by omega)) (fun i i0 i1 i2 => o _ (by omega)) ?_
  unfold sp_cok sp_row at *
  rw [o (41 + 9 * k + 0) (by omega), o (41 + 9 * k + 1) (by omega), o (41 + 9 * k + 2) (by omega), o (41 + 9 * k + 3) (by omega), o (41 + 9 * k + 4) (by omega), e, o (41 + 9 * k + 6) (by omega), o (41 + 9 * k + 7) (by omega), o (41 + 9 * k + 8) (by omega)]
  exact ⟨hc.1, hc.2.1, hc.2.2.1, hc.2.2.2.1, hc.2.2.2.2.1, g5, hc.2.2.2.2.2.2⟩
theorem sp_ths_inv {s : Int → Int} (h : sp_inv s) (n : Nat) (hn : n ≤ 6) : sp_inv (sp_ths s n).2 := by
  induction n with
  | zero => exact h
  | succ n ih =>
    show sp_inv (sp_th1 _ _).2
    unfold sp_th1
    split
    · exact sp_sours_inv (ih (by omega)) (by omega)
    · exact ih (by omega)
theorem sp_ths_c (s : Int → Int) (n : Nat) : 0 ≤ (sp_ths s n).1 ∧ (sp_ths s n).1 ≤ n := by
  induction n with
  | zero => exact ⟨Int.le_refl _, Int.le_refl _⟩
  | succ n ih =>
    show 0 ≤ (sp_th1 _ _).1 ∧ (sp_th1 _ _).1 ≤ _
    unfold sp_th1
    split
    · show 0 ≤ _ + 1 ∧ _ + 1 ≤ _; omega
    · omega
def sp_thun (s : Int → Int) : Int × (Int → Int) := sp_ths s (s 3).toNat
def sp_draw (s : Int → Int) : Int → Int := mh_ur s 2 (sp_wr (s 2 * 1103515245 + 12345))
def sp_day (s : Int → Int) : Int → Int := sp_aq (if (mh_ushr (sp_draw s 2) 8).tmod 16 = 0 then (sp_thun (sp_draw s)).2 else sp_draw s)
def sp_days (s : Int → Int) : Nat → Int → Int
  | 0 => s
  | n + 1 => sp_day (sp_days s n)
theorem sp_days_at (s : Int → Int) {k : Int} (h : 0 ≤ k) : sp_days s (k + 1).toNat = sp_day (sp_days s k.toNat) := by
  rw [show (k + 1).toNat = k.toNat + 1 by omega]; rfl
theorem mh_ushrR (x y : Int) : -2147483648 ≤ mh_ushr x y ∧ mh_ushr x y < 2147483648 := ⟨Int32.le_toInt _, Int32.toInt_lt _⟩
theorem sp_inv_2 {s : Int → Int} (h : sp_inv s) {j v : Int} (hj : j = 2 ∨ j = 4 ∨ j = 5 ∨ (197 ≤ j ∧ j < 267)) : sp_inv (mh_ur s j v) := by
  obtain ⟨a1, a2, a3, ⟨a4, a5⟩, a6, a7⟩ := h
  refine ⟨by rw [mh_ur_ne (by omega)]; exact a1, by rw [mh_ur_ne (by omega)]; exact a2, by rw [mh_ur_ne (by omega)]; exact a3, ⟨fun k j0 j1 => ?_, fun k j0 j1 => ?_⟩, fun k j0 j1 => ?_, ?_⟩
  · rw [mh_ur_ne (by omega), mh_ur_ne (by omega), mh_ur_ne (by omega)]; exact a4 k j0 j1
  · rw [mh_ur_ne (by omega), mh_ur_ne (by omega)]; exact a5 k j0 j1
  · have := a6 k j0 j1
    unfold sp_cok sp_row at *
    rw [mh_ur_ne (by omega), mh_ur_ne (by omega), mh_ur_ne (by omega), mh_ur_ne (by omega), mh_ur_ne (by omega), mh_ur_ne (by omega), mh_ur_ne (by omega), mh_ur_ne (by omega), mh_ur_ne (by omega)]
    exact this
  · exact sp_wfs_near (fun i i0 i1 => (mh_ur_ne (by omega)).symm) a7
theorem sp_thun_inv {s : Int → Int} (h : sp_inv s) : sp_inv (sp_thun s).2 := sp_ths_inv h _ (by have := h.1; omega)
theorem sp_thun_out {s : Int → Int} (h : sp_inv s) (i : Int) (hi : i < 41 ∨ 95 ≤ i) : (sp_thun s).2 i = s i := sp_ths_out s _ (by have := h.1; omega) i hi
theorem sp_day_pre {s : Int → Int} (h : sp_inv s) : sp_inv (if (mh_ushr (sp_draw s 2) 8).tmod 16 = 0 then (sp_thun (sp_draw s)).2 else sp_draw s) ∧ (if (mh_ushr (sp_draw s 2) 8).tmod 16 = 0 then (sp_thun (sp_draw s)).2 else sp_draw s) 0 = s 0 ∧ (if (mh_ushr (sp_draw s 2) 8).tmod 16 = 0 then (sp_thun (sp_draw s)).2 else sp_draw s) 3 = s 3 := by
  have hd : sp_inv (sp_draw s) := sp_inv_2 h (Or.inl rfl)
  have e0 : sp_draw s 0 = s 0 := mh_ur_ne (by decide)
  have e3 : sp_draw s 3 = s 3 := mh_ur_ne (by decide)
  split
  · exact ⟨sp_thun_inv hd, by rw [sp_thun_out hd 0 (by decide)]; exact e0, by rw [sp_thun_out hd 3 (by decide)]; exact e3⟩
  · exact ⟨hd, e0, e3⟩
theorem sp_days_all {s : Int → Int} (h : sp_inv s) (n : Nat) (hn : s 0 + n ≤ 20000) : sp_inv (sp_days s n) ∧ sp_days s n 0 = s 0 + n ∧ sp_days s n 3 = s 3 := by
  induction n with
  | zero => exact ⟨h, by simp [sp_days], rfl⟩
  | succ n ih =>
    obtain ⟨i1, i2, i3⟩ := ih (by omega)
    obtain ⟨j1, j2, j3⟩ := sp_day_pre i1
    have hm := j1.1
    refine ⟨sp_aq_inv j1 (by omega), ?_, ?_⟩
    · show sp_aq _ 0 = _
      rw [sp_aq_0 hm, j2, i2]; omega
    · show sp_aq _ 3 = _
      rw [sp_aq_out hm 3 (by decide) (by decide) (by decide), j3]; exact i3
def sp_daysP (n : Int) (s er : Int → Int) : Int × (Int → Int) × (Int → Int) :=
  if ¬ (1 ≤ n ∧ n ≤ 20) then sp_er s er 1
  else if 9999 < s 0 + 16 * n then sp_er s er 3 else (sp_days s (16 * n).toNat 1, sp_days s (16 * n).toNat, er)
def sp_thunP (s er : Int → Int) : Int × (Int → Int) × (Int → Int) := ((sp_thun s).1, (sp_thun s).2, er)
def sp_thenP (n k w : Int) (s er : Int → Int) : Int × (Int → Int) × (Int → Int) :=
  if ¬ ((0 ≤ n ∧ n ≤ 300) ∧ (0 ≤ k ∧ k ≤ s 3 - 1) ∧ (2 ≤ w ∧ w ≤ 7)) then sp_er s er 1 else (sp_told (sp_aqs s n.toNat) k w, s, er)
theorem sp_aqs_far (s : Int → Int) (hm : 0 ≤ s 3 ∧ s 3 ≤ 6) (n : Nat) (i : Int) (hi : i < 0 ∨ 267 ≤ i) : sp_aqs s n i = s i ∧ sp_aqs s n 3 = s 3 := by
  induction n with
  | zero => exact ⟨rfl, rfl⟩
  | succ n ih =>
    have hm2 : 0 ≤ sp_aqs s n 3 ∧ sp_aqs s n 3 ≤ 6 := by rw [ih.2]; exact hm
    exact ⟨(sp_aq_out hm2 i (by omega) (by omega) (by omega)).trans ih.1, (sp_aq_out hm2 3 (by decide) (by decide) (by decide)).trans ih.2⟩
set_option maxRecDepth 100000 in
set_option maxHeartbeats 4000000 in
theorem k_thunders {g : mh_G} {d : Nat} (hd : 5 ≤ d) {h : Nat → Int → Int} (hF : mh_FX h) {s : Int → Int} (r82 : h 82 = s)  (hi : sp_inv s) : mh_M g d yX12_thunders cX12_thunders 3 (some .int) 96 0 0 [.ref 81] h (fun r h2 => r = some (.int (Int32.ofInt ((sp_thun s).1))) ∧ mh_FX h2 ∧ mh_fr [82] h h2 ∧ h2 82 = (sp_thun s).2) := by
  refine mh_M_of RX12 rfl (by decide +kernel) [some (.ref 81), none, none] rfl (Nat.le_of_ble_eq_true rfl) (fun f F Z hn0 hR => ?_)
  have hm := hi.1
  refine mh_iconst (pc := 0) F dX12_thunders_0 ?_
  refine mh_istore1 (pc := 1) F dX12_thunders_1 rfl (by decide) ?_
  refine mh_iconst (pc := 2) F dX12_thunders_2 ?_
  refine mh_istore2 (pc := 3) F dX12_thunders_3 rfl (by decide) ?_
  have L4 : ∀ (m : Nat) (q : Int) (k : Int) (hh : Nat → Int → Int) (t : Int → Int), (mh_FX hh) → (mh_fr [82] h hh) → (hh 82 = t) → (0 ≤ k ∧ k ≤ s 3) → ((q, t) = sp_ths s k.toNat) → (s 3 - k).toNat = m → mh_V g f 3 96 0 0 4 [some (.ref 81), some (.int (Int32.ofInt (q))), some (.int (Int32.ofInt (k)))] [] hh := by
    intro m
    induction m using Nat.strongRecOn with
    | _ m ihL4 =>
    intro q k hh t Fhh frhh q82hh hk ht hmz
    refine mh_iload2 (pc := 4) F dX12_thunders_4 ?_
    have zHI : sp_inv t := by have := congrArg Prod.snd ht; rw [show t = (sp_ths s k.toNat).2 from this]; exact sp_ths_inv hi _ (by omega)
    have h3 : t 3 = s 3 := by have := congrArg Prod.snd ht; rw [show t = (sp_ths s k.toNat).2 from this]; exact sp_ths_out s _ (by omega) 3 (by decide)
    refine mh_aload0 (pc := 5) F dX12_thunders_5 ?_
    refine mh_getr (b := 82) (pc := 6) F sh_81 (by decide) fw_RX12_9_12 dX12_thunders_6 rfl (fx_81_0 Fhh) ?_
    refine mh_iconst (pc := 9) F dX12_thunders_9 ?_
    refine mh_ialoadr (pc := 10) F sh_82 (by decide) (by omega) dX12_thunders_10 q82hh ?_
    refine mh_icmp_ge (pc := 11) (tgt := 50) F dX12_thunders_11 rfl (by omega) (by omega) (fun c_11 => ?_) (fun c_11 => ?_)
    · refine mh_iload1 (pc := 50) F dX12_thunders_50 ?_
      exact mh_ireturn F Z dX12_thunders_51 ⟨(mh_sv (by unfold sp_thun; rw [← (show k = s 3 by omega), ← ht])), Fhh, (frhh.mono (by simp)), (q82hh.trans (by unfold sp_thun; rw [← (show k = s 3 by omega), ← ht]))⟩
    · have zHC2 := zHI.2.2.2.2.1 k (by omega) (by omega)
      obtain ⟨c0, c1, c2, c3, c4, c5, c6, c7, c8, c9, c10, c11, c12, c13⟩ := zHC2
      unfold sp_row at c0 c1 c2 c3 c4 c5 c6 c7 c8 c9 c10 c11 c12 c13
      refine mh_aload0 (pc := 14) F dX12_thunders_14 ?_
      refine mh_iload2 (pc := 15) F dX12_thunders_15 ?_
      refine mh_bipush (pc := 16) F dX12_thunders_16 rfl ?_
      refine mh_callVp (pc := 18) (As := [.int (Int32.ofInt (k)), .int (Int32.ofInt (8))]) (st := []) F (by omega) (k_its (by omega) Fhh q82hh (by omega) (by omega)) wv_RX12_79_yX12_its dX12_thunders_18 sh_81 rfl (by decide) rfl rfl (Nat.le_of_ble_eq_true rfl) ⟨Nat.zero_le _, Nat.zero_le _⟩ ?_
      refine mh_if_ne (pc := 21) (tgt := 44) F dX12_thunders_21 rfl (by omega) (fun c_21 => ?_) (fun c_21 => ?_)
      · refine mh_iinc2 (pc := 44) F dX12_thunders_44 rfl (by decide) ?_
        refine mh_goto (pc := 47) (tgt := 4) F dX12_thunders_47 rfl ?_
        exact ihL4 _ (by omega) q (k + 1) hh t Fhh (frhh.mono (by simp)) q82hh (by omega) (by rw [sp_ths_at _ hk.1, ← ht]; unfold sp_th1; (repeat' split) <;> first | rfl | (exfalso; simp only [] at *; omega)) rfl
      · refine mh_aload0 (pc := 24) F dX12_thunders_24 ?_
        refine mh_iload2 (pc := 25) F dX12_thunders_25 ?_
        refine mh_iconst (pc := 26) F dX12_thunders_26 ?_
        refine mh_callVp (pc := 27) (As := [.int (Int32.ofInt (k)), .int (Int32.ofInt (3))]) (st := []) F (by omega) (k_its (by omega) Fhh q82hh (by omega) (by omega)) wv_RX12_79_yX12_its dX12_thunders_27 sh_81 rfl (by decide) rfl rfl (Nat.le_of_ble_eq_true rfl) ⟨Nat.zero_le _, Nat.zero_le _⟩ ?_
        refine mh_iconst (pc := 30) F dX12_thunders_30 ?_
        refine mh_icmp_eq (pc := 31) (tgt := 44) F dX12_thunders_31 rfl (by omega) (by omega) (fun c_31 => ?_) (fun c_31 => ?_)
        · refine mh_iinc2 (pc := 44) F dX12_thunders_44 rfl (by decide) ?_
          refine mh_goto (pc := 47) (tgt := 4) F dX12_thunders_47 rfl ?_
          exact ihL4 _ (by omega) q (k + 1) hh t Fhh (frhh.mono (by simp)) q82hh (by omega) (by rw [sp_ths_at _ hk.1, ← ht]; unfold sp_th1; (repeat' split) <;> first | rfl | (exfalso; simp only [] at *; omega)) rfl
        · refine mh_aload0 (pc := 34) F dX12_thunders_34 ?_
          refine mh_iload2 (pc := 35) F dX12_thunders_35 ?_
          refine mh_bipush (pc := 36) F dX12_thunders_36 rfl ?_
          refine mh_callV0 (pc := 38) (As := [.int (Int32.ofInt (k)), .int (Int32.ofInt (30))]) (st := []) F (by omega) (k_sours (by omega) Fhh q82hh (by omega) (by omega) (by omega)) wv_RX12_245_yX12_sours dX12_thunders_38 sh_81 rfl (by decide) rfl rfl (Nat.le_of_ble_eq_true rfl) ⟨Nat.zero_le _, Nat.zero_le _⟩ (fun r1 h1 q1 => ?_)
          obtain ⟨rfl, F1, fr1, q1_0⟩ := q1
          have fr2 : mh_fr [82] h h1 := (mh_fr.tr frhh fr1).mono (by simp)
          refine mh_iinc1 (pc := 41) F dX12_thunders_41 rfl (by decide) ?_
          refine mh_iinc2 (pc := 44) F dX12_thunders_44 rfl (by decide) ?_
          refine mh_goto (pc := 47) (tgt := 4) F dX12_thunders_47 rfl ?_
          exact ihL4 _ (by omega) (q + 1) (k + 1) h1 (sp_sours t k 30) F1 (fr2.mono (by simp)) q1_0 (by omega) (by rw [sp_ths_at _ hk.1, ← ht]; unfold sp_th1; (repeat' split) <;> first | rfl | (exfalso; simp only [] at *; omega)) rfl
  exact L4 _ 0 0 h s hF (mh_fr.rf.mono (by simp)) r82 (by omega) rfl rfl

set_option maxRecDepth 100000 in
set_option maxHeartbeats 4000000 in
theorem k_draw {g : mh_G} {d : Nat} (hd : 1 ≤ d) {h : Nat → Int → Int} (hF : mh_FX h) {s : Int → Int} (r82 : h 82 = s)   : mh_M g d yX12_draw cX12_draw 1 (some .int) 96 0 0 [.ref 81] h (fun r h2 => r = some (.int (Int32.ofInt (mh_ushr (sp_draw s 2) 8))) ∧ mh_FX h2 ∧ mh_fr [82] h h2 ∧ h2 82 = sp_draw s) := by
  refine mh_M_of RX12 rfl (by decide +kernel) [some (.ref 81)] rfl (Nat.le_of_ble_eq_true rfl) (fun f F Z hn0 hR => ?_)
  refine mh_aload0 (pc := 0) F dX12_draw_0 ?_
  refine mh_getr (b := 82) (pc := 1) F sh_81 (by decide) fw_RX12_9_12 dX12_draw_1 rfl (fx_81_0 hF) ?_
  refine mh_iconst (pc := 4) F dX12_draw_4 ?_
  refine mh_aload0 (pc := 5) F dX12_draw_5 ?_
  refine mh_getr (b := 82) (pc := 6) F sh_81 (by decide) fw_RX12_9_12 dX12_draw_6 rfl (fx_81_0 hF) ?_
  refine mh_iconst (pc := 9) F dX12_draw_9 ?_
  refine mh_ialoadr (pc := 10) F sh_82 (by decide) (by omega) dX12_draw_10 r82 ?_
  refine mh_ldcw (x := 1103515245) (pc := 11) F dX12_draw_11 tw_7_8 ?_
  refine mh_imul (pc := 14) F dX12_draw_14 ?_
  refine mh_sipush (pc := 15) F dX12_draw_15 rfl ?_
  refine mh_iadd (pc := 18) F dX12_draw_18 ?_
  refine mh_top (y := sp_wr (((s 2) * 1103515245) + 12345)) (sp_wrI _).symm ?_
  refine mh_iastore (pc := 19) F sh_82 (by decide) (by omega) dX12_draw_19 ?_
  refine mh_nmh (fun h1 e1 => ?_)
  have F1 : mh_FX h1 := by rw [e1]; exact hF.upa rfl
  have r82_1 : h1 82 = mh_ur s 2 (sp_wr (((s 2) * 1103515245) + 12345)) := by rw [e1, mh_up_rs, r82]
  have fr1 : mh_fr [82] h h1 := mh_fr.up mh_fr.rf e1
  refine mh_aload0 (pc := 20) F dX12_draw_20 ?_
  refine mh_getr (b := 82) (pc := 21) F sh_81 (by decide) fw_RX12_9_12 dX12_draw_21 rfl (fx_81_0 F1) ?_
  refine mh_iconst (pc := 24) F dX12_draw_24 ?_
  refine mh_ialoadr (pc := 25) F sh_82 (by decide) (by omega) dX12_draw_25 r82_1 ?_
  refine mh_bipush (pc := 26) F dX12_draw_26 rfl ?_
  refine mh_iushr (pc := 28) F dX12_draw_28 ?_
  exact mh_ireturn F Z dX12_draw_29 ⟨rfl, F1, (fr1.mono (by simp)), r82_1⟩

set_option maxRecDepth 100000 in
set_option maxHeartbeats 4000000 in
theorem k_thunder0 {g : mh_G} {d : Nat} (hd : 6 ≤ d) {h : Nat → Int → Int} (hF : mh_FX h) {s : Int → Int} (r82 : h 82 = s)  (zHI : sp_inv s) : mh_M g d yX12_thunder cX12_thunder 1 (some .int) 96 0 0 [.ref 81] h (fun r h2 => r = some (.int (Int32.ofInt ((sp_thun s).1))) ∧ mh_FX h2 ∧ mh_fr [82] h h2 ∧ h2 82 = (sp_thun s).2) := by
  refine mh_M_of RX12 rfl (by decide +kernel) [some (.ref 81)] rfl (Nat.le_of_ble_eq_true rfl) (fun f F Z hn0 hR => ?_)
  refine mh_aload0 (pc := 0) F dX12_thunder_0 ?_
  refine mh_callV0 (pc := 1) (As := []) (st := []) F (by omega) (k_thunders (by omega) hF r82 zHI) wv_RX12_272_yX12_thunders dX12_thunder_1 sh_81 rfl (by decide) rfl rfl (Nat.le_of_ble_eq_true rfl) ⟨Nat.zero_le _, Nat.zero_le _⟩ (fun r1 h1 q1 => ?_)
  obtain ⟨rfl, F1, fr1, q1_0⟩ := q1
  have fr2 : mh_fr [82] h h1 := (mh_fr.tr mh_fr.rf fr1).mono (by simp)
  exact mh_ireturn F Z dX12_thunder_4 ⟨rfl, F1, (fr2.mono (by simp)), q1_0⟩

set_option maxRecDepth 100000 in
set_option maxHeartbeats 4000000 in
theorem p_days {g : mh_G} {d : Nat} (hd : 9 ≤ d) {h : Nat → Int → Int} (hF : mh_FX h) {s : Int → Int} (r82 : h 82 = s) {er : Int → Int} (r85 : h 85 = er) {n : Int} (hn : -2147483648 ≤ n ∧ n < 2147483648) (hi : sp_inv s) : mh_M g d yX12_days cX12_days 4 (some .int) 96 0 0 [.ref 81, .int (Int32.ofInt (n))] h (fun r h2 => ∃ (vv : Int) (tt ee : Int → Int), (vv, tt, ee) = sp_daysP n s er ∧ r = some (.int (Int32.ofInt vv)) ∧ mh_FX h2 ∧ mh_fr [82, 85, 86, 87] h h2 ∧ h2 82 = tt ∧ h2 85 = ee) := by
  refine mh_M_of RX12 rfl (by decide +kernel) [some (.ref 81), some (.int (Int32.ofInt (n))), none, none] rfl (Nat.le_of_ble_eq_true rfl) (fun f F Z hn0 hR => ?_)
  have hib := sp_inv_b hi
  have hm := hi.1
  have hq0 := hi.2.1
  have hws := hi.2.2.2.2.2
  obtain ⟨hH, hC⟩ := hi.2.2.2.1
  have hs1 := hi.2.2.1
  refine mh_iload1 (pc := 0) F dX12_days_0 ?_
  refine mh_i2l (pc := 1) F dX12_days_1 (by omega) ?_
  refine mh_lconst (x := 1) (pc := 2) F dX12_days_2 rfl ?_
  refine mh_ldc2 (x := 20) (pc := 3) F dX12_days_3 tw_6_41 ?_
  refine mh_callSp (pc := 6) (As := [.long (Int64.ofInt (n)), .long (Int64.ofInt (1)), .long (Int64.ofInt (20))]) (st := []) F (by omega) (k_in (by omega) (by omega) (by omega) (by omega)) ws_RX12_69 dX12_days_6 rfl rfl (Nat.le_of_ble_eq_true rfl) ⟨Nat.zero_le _, Nat.zero_le _⟩ ?_
  refine mh_ifb_ne (pc := 9) (tgt := 18) F dX12_days_9 rfl (fun c_9 => ?_) (fun c_9 => ?_)
  · refine mh_aload0 (pc := 18) F dX12_days_18 ?_
    refine mh_getr (b := 82) (pc := 19) F sh_81 (by decide) fw_RX12_9_12 dX12_days_19 rfl (fx_81_0 hF) ?_
    refine mh_iconst (pc := 22) F dX12_days_22 ?_
    refine mh_ialoadr (pc := 23) F sh_82 (by decide) (by omega) dX12_days_23 r82 ?_
    refine mh_bipush (pc := 24) F dX12_days_24 rfl ?_
    refine mh_iload1 (pc := 26) F dX12_days_26 ?_
    refine mh_imul (pc := 27) F dX12_days_27 ?_
    refine mh_iadd (pc := 28) F dX12_days_28 ?_
    refine mh_sipush (pc := 29) F dX12_days_29 rfl ?_
    refine mh_icmp_le (pc := 32) (tgt := 41) F dX12_days_32 rfl (by omega) (by omega) (fun c_32 => ?_) (fun c_32 => ?_)
    · refine mh_iconst (pc := 41) F dX12_days_41 ?_
      refine mh_istore2 (pc := 42) F dX12_days_42 rfl (by decide) ?_
      have L43 : ∀ (m : Nat) (x : Int) (hh : Nat → Int → Int) (t : Int → Int), (mh_FX hh) → (mh_fr [82, 86, 87] h hh) → (hh 82 = t) → (hh 85 = er) → (0 ≤ x ∧ x ≤ 16 * n) → (t = sp_days s x.toNat) → (16 * n - x).toNat = m → mh_V g f 4 96 0 0 43 [some (.ref 81), some (.int (Int32.ofInt (n))), some (.int (Int32.ofInt (x))), none] [] hh := by
        intro m
        induction m using Nat.strongRecOn with
        | _ m ihL43 =>
        intro x hh t Fhh frhh q82hh q85hh hx ht hmz
        refine mh_iload2 (pc := 43) F dX12_days_43 ?_
        have hal := sp_days_all hi x.toNat
        rw [← ht] at hal
        refine mh_bipush (pc := 44) F dX12_days_44 rfl ?_
        refine mh_iload1 (pc := 46) F dX12_days_46 ?_
        refine mh_imul (pc := 47) F dX12_days_47 ?_
        refine mh_icmp_ge (pc := 48) (tgt := 76) F dX12_days_48 rfl (by omega) (by omega) (fun c_48 => ?_) (fun c_48 => ?_)
        · refine mh_aload0 (pc := 76) F dX12_days_76 ?_
          refine mh_getr (b := 82) (pc := 77) F sh_81 (by decide) fw_RX12_9_12 dX12_days_77 rfl (fx_81_0 Fhh) ?_
          refine mh_iconst (pc := 80) F dX12_days_80 ?_
          refine mh_ialoadr (pc := 81) F sh_82 (by decide) (by omega) dX12_days_81 q82hh ?_
          exact mh_ireturn F Z dX12_days_82 ⟨_, _, _, (by unfold sp_daysP; (repeat' split) <;> first | rfl | (exfalso; omega) | (rw [show 16 * n = x by omega, ← ht]; done)), rfl, Fhh, (frhh.mono (by simp)), q82hh, q85hh⟩
        · obtain ⟨zHI, ha0, ha3⟩ := hal (by omega)
          refine mh_aload0 (pc := 51) F dX12_days_51 ?_
          refine mh_callV0 (pc := 52) (As := []) (st := []) F (by omega) (k_draw (by omega) Fhh q82hh ) wv_RX12_269_yX12_draw dX12_days_52 sh_81 rfl (by decide) rfl rfl (Nat.le_of_ble_eq_true rfl) ⟨Nat.zero_le _, Nat.zero_le _⟩ (fun r1 h1 q1 => ?_)
          obtain ⟨rfl, F1, fr1, q1_0⟩ := q1
          have r85_2 : h1 85 = er := (fr1 _ (by decide)).trans q85hh
          have fr2 : mh_fr [82, 86, 87] h h1 := (mh_fr.tr frhh fr1).mono (by simp)
          obtain ⟨s1, es1⟩ : ∃ z : Int → Int, z = sp_draw t := ⟨_, rfl⟩
          rw [← es1] at q1_0
          have hz := mh_ushrR (s1 2) 8
          have hzt := mh_tmodR (y := 16) hz
          have zHI0 := zHI
          have zHI : sp_inv s1 := by rw [es1]; exact sp_inv_2 zHI0 (Or.inl rfl)
          rw [← es1]
          refine mh_bipush (pc := 55) F dX12_days_55 rfl ?_
          refine mh_irem (pc := 57) F dX12_days_57 (by omega) (by omega) (by omega) ?_
          refine mh_if_ne (pc := 58) (tgt := 66) F dX12_days_58 rfl (by omega) (fun c_58 => ?_) (fun c_58 => ?_)
          · obtain ⟨zHP, zHP0, zHP3⟩ := sp_day_pre zHI0 (s := t)
            rw [← es1] at zHP zHP0 zHP3
            have zHI : sp_inv s1 := by first | (rw [if_pos (by omega)] at zHP; exact zHP) | (rw [if_neg (by omega)] at zHP; exact zHP)
            refine mh_aload0 (pc := 66) F dX12_days_66 ?_
            refine mh_callV0 (pc := 67) (As := []) (st := []) F (by omega) (k_aQuarter (by omega) F1 q1_0 zHI) wv_RX12_265_yX12_aQuarter dX12_days_67 sh_81 rfl (by decide) rfl rfl (Nat.le_of_ble_eq_true rfl) ⟨Nat.zero_le _, Nat.zero_le _⟩ (fun r3 h3 q3 => ?_)
            obtain ⟨rfl, F3, fr3, q3_0⟩ := q3
            have r85_4 : h3 85 = er := (fr3 _ (by decide)).trans r85_2
            have fr4 : mh_fr [82, 86, 87] h h3 := (mh_fr.tr fr2 fr3).mono (by simp)
            refine mh_iinc2 (pc := 70) F dX12_days_70 rfl (by decide) ?_
            refine mh_goto (pc := 73) (tgt := 43) F dX12_days_73 rfl ?_
            exact ihL43 _ (by omega) (x + 1) h3 (sp_aq s1) F3 (fr4.mono (by simp)) q3_0 r85_4 (by omega) (by rw [sp_days_at _ hx.1, ← ht]; unfold sp_day; rw [← es1]; first | (rw [if_pos (by omega)]; done) | (rw [if_neg (by omega)]; done)) rfl
          · refine mh_aload0 (pc := 61) F dX12_days_61 ?_
            refine mh_callV0 (pc := 62) (As := []) (st := []) F (by omega) (k_thunders (by omega) F1 q1_0 zHI) wv_RX12_272_yX12_thunders dX12_days_62 sh_81 rfl (by decide) rfl rfl (Nat.le_of_ble_eq_true rfl) ⟨Nat.zero_le _, Nat.zero_le _⟩ (fun r5 h5 q5 => ?_)
            obtain ⟨rfl, F5, fr5, q5_0⟩ := q5
            have r85_6 : h5 85 = er := (fr5 _ (by decide)).trans r85_2
            have fr6 : mh_fr [82, 86, 87] h h5 := (mh_fr.tr fr2 fr5).mono (by simp)
            refine mh_istore3 (pc := 65) F dX12_days_65 rfl (by decide) ?_
            obtain ⟨zHP, zHP0, zHP3⟩ := sp_day_pre zHI0 (s := t)
            rw [← es1] at zHP zHP0 zHP3
            have zHI : sp_inv ((sp_thun s1).2) := by first | (rw [if_pos (by omega)] at zHP; exact zHP) | (rw [if_neg (by omega)] at zHP; exact zHP)
            refine mh_aload0 (pc := 66) F dX12_days_66 ?_
            refine mh_callV0 (pc := 67) (As := []) (st := []) F (by omega) (k_aQuarter (by omega) F5 q5_0 zHI) wv_RX12_265_yX12_aQuarter dX12_days_67 sh_81 rfl (by decide) rfl rfl (Nat.le_of_ble_eq_true rfl) ⟨Nat.zero_le _, Nat.zero_le _⟩ (fun r7 h7 q7 => ?_)
            obtain ⟨rfl, F7, fr7, q7_0⟩ := q7
            have r85_8 : h7 85 = er := (fr7 _ (by decide)).trans r85_6
            have fr8 : mh_fr [82, 86, 87] h h7 := (mh_fr.tr fr6 fr7).mono (by simp)
            refine mh_iinc2 (pc := 70) F dX12_days_70 rfl (by decide) ?_
            refine mh_goto (pc := 73) (tgt := 43) F dX12_days_73 rfl ?_
            refine mh_drop3 ?_
            exact ihL43 _ (by omega) (x + 1) h7 (sp_aq ((sp_thun s1).2)) F7 (fr8.mono (by simp)) q7_0 r85_8 (by omega) (by rw [sp_days_at _ hx.1, ← ht]; unfold sp_day; rw [← es1]; first | (rw [if_pos (by omega)]; done) | (rw [if_neg (by omega)]; done)) rfl
      exact L43 _ 0 h s hF (mh_fr.rf.mono (by simp)) r82 r85 (by omega) rfl rfl
    · refine mh_aload0 (pc := 35) F dX12_days_35 ?_
      refine mh_iconst (pc := 36) F dX12_days_36 ?_
      refine mh_callV0 (pc := 37) (As := [.int (Int32.ofInt (3))]) (st := []) F (by omega) (k_error (by omega) hF r85 (by omega)) wv_RX12_114_yX12_error dX12_days_37 sh_81 rfl (by decide) rfl rfl (Nat.le_of_ble_eq_true rfl) ⟨Nat.zero_le _, Nat.zero_le _⟩ (fun r9 h9 q9 => ?_)
      obtain ⟨rfl, F9, fr9, q9_0⟩ := q9
      have r82_10 : h9 82 = s := (fr9 _ (by decide)).trans r82
      have fr10 : mh_fr [85] h h9 := (mh_fr.tr mh_fr.rf fr9).mono (by simp)
      exact mh_ireturn F Z dX12_days_40 ⟨_, _, _, (by unfold sp_daysP; (repeat' split) <;> first | rfl | (exfalso; omega)), rfl, F9, (fr10.mono (by simp)), r82_10, q9_0⟩
  · refine mh_aload0 (pc := 12) F dX12_days_12 ?_
    refine mh_iconst (pc := 13) F dX12_days_13 ?_
    refine mh_callV0 (pc := 14) (As := [.int (Int32.ofInt (1))]) (st := []) F (by omega) (k_error (by omega) hF r85 (by omega)) wv_RX12_114_yX12_error dX12_days_14 sh_81 rfl (by decide) rfl rfl (Nat.le_of_ble_eq_true rfl) ⟨Nat.zero_le _, Nat.zero_le _⟩ (fun r11 h11 q11 => ?_)
    obtain ⟨rfl, F11, fr11, q11_0⟩ := q11
    have r82_12 : h11 82 = s := (fr11 _ (by decide)).trans r82
    have fr12 : mh_fr [85] h h11 := (mh_fr.tr mh_fr.rf fr11).mono (by simp)
    exact mh_ireturn F Z dX12_days_17 ⟨_, _, _, (by unfold sp_daysP; (repeat' split) <;> first | rfl | (exfalso; omega)), rfl, F11, (fr12.mono (by simp)), r82_12, q11_0⟩

