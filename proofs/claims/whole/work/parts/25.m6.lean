def sp_gos (s : Int → Int) : Nat → Int → Int
  | 0 => s
  | k + 1 => sp_go (sp_gos s k) (k : Int)
def sp_aq (s : Int → Int) : Int → Int := mh_ur (sp_gos s (s 3).toNat) 0 (sp_gos s (s 3).toNat 0 + 1)
def sp_aqs (s : Int → Int) : Nat → Int → Int
  | 0 => s
  | n + 1 => sp_aq (sp_aqs s n)
theorem sp_gos_at (s : Int → Int) {k : Int} (h : 0 ≤ k) : sp_gos s (k + 1).toNat = sp_go (sp_gos s k.toNat) k := by
  rw [show (k + 1).toNat = k.toNat + 1 by omega]
  show sp_go _ (k.toNat : Int) = _
  rw [Int.toNat_of_nonneg h]
theorem sp_aqs_at (s : Int → Int) {k : Int} (h : 0 ≤ k) : sp_aqs s (k + 1).toNat = sp_aq (sp_aqs s k.toNat) := by
  rw [show (k + 1).toNat = k.toNat + 1 by omega]; rfl
theorem sp_gos_out (s : Int → Int) (n : Nat) (hn : n ≤ 6) (i : Int) (h1 : i ≠ 1) (h : i < 41 ∨ 95 ≤ i) : sp_gos s n i = s i := by
  induction n with
  | zero => rfl
  | succ n ih => show sp_go _ _ i = _; rw [sp_go_out _ _ _ h1 (by omega)]; exact ih (by omega)
theorem sp_gos_inv {s : Int → Int} (h : sp_inv s) (n : Nat) (hn : n ≤ 6) : sp_inv (sp_gos s n) := by
  induction n with
  | zero => exact h
  | succ n ih => exact sp_go_inv (ih (by omega)) (by omega)
theorem sp_inv_0 {s : Int → Int} (h : sp_inv s) {v : Int} (hv : 0 ≤ v ∧ v ≤ 20000) : sp_inv (mh_ur s 0 v) := by
  obtain ⟨a1, a2, a3, ⟨a4, a5⟩, a6, a7⟩ := h
  refine ⟨by rw [mh_ur_ne (by decide)]; exact a1, by rw [mh_ur_eq rfl]; exact hv, by rw [mh_ur_ne (by decide)]; exact a3, ⟨fun j j0 j1 => ?_, fun j j0 j1 => ?_⟩, fun j j0 j1 => ?_, sp_wfs_same (fun i hi => (mh_ur_ne (by omega)).symm) a7⟩
  · rw [mh_ur_ne (by omega), mh_ur_ne (by omega), mh_ur_ne (by omega)]; exact a4 j j0 j1
  · rw [mh_ur_ne (by omega), mh_ur_ne (by omega)]; exact a5 j j0 j1
  · have := a6 j j0 j1
    unfold sp_cok sp_row at *
    rw [mh_ur_ne (by omega), mh_ur_ne (by omega), mh_ur_ne (by omega), mh_ur_ne (by omega), mh_ur_ne (by omega), mh_ur_ne (by omega), mh_ur_ne (by omega), mh_ur_ne (by omega), mh_ur_ne (by omega)]
    exact this
theorem sp_aq_out {s : Int → Int} (hm : 0 ≤ s 3 ∧ s 3 ≤ 6) (i : Int) (h0 : i ≠ 0) (h1 : i ≠ 1) (h : i < 41 ∨ 95 ≤ i) : sp_aq s i = s i := by
  unfold sp_aq; rw [mh_ur_ne h0]; exact sp_gos_out s _ (by omega) i h1 h
theorem sp_aq_0 {s : Int → Int} (hm : 0 ≤ s 3 ∧ s 3 ≤ 6) : sp_aq s 0 = s 0 + 1 := by
  unfold sp_aq; rw [mh_ur_eq rfl, sp_gos_out s _ (by omega) 0 (by decide) (by decide)]
theorem sp_aq_inv {s : Int → Int} (h : sp_inv s) (h0 : s 0 < 20000) : sp_inv (sp_aq s) := by
  have hm := h.1
  have hq := h.2.1
  refine sp_inv_0 (sp_gos_inv h _ (by omega)) ?_
  rw [sp_gos_out s _ (by omega) 0 (by decide) (by decide)]; omega
theorem sp_aqs_all {s : Int → Int} (h : sp_inv s) (n : Nat) (hn : s 0 + n ≤ 20000) : sp_inv (sp_aqs s n) ∧ sp_aqs s n 0 = s 0 + n ∧ sp_aqs s n 3 = s 3 := by
  induction n with
  | zero => exact ⟨h, by simp [sp_aqs], rfl⟩
  | succ n ih =>
    obtain ⟨i1, i2, i3⟩ := ih (by omega)
    have hm := i1.1
    refine ⟨sp_aq_inv i1 (by omega), ?_, ?_⟩
    · show sp_aq _ 0 = _
      rw [sp_aq_0 hm, i2]; omega
    · show sp_aq _ 3 = _
      rw [sp_aq_out hm 3 (by decide) (by decide) (by decide)]; exact i3
set_option maxRecDepth 100000 in
set_option maxHeartbeats 4000000 in
theorem k_aQuarter {g : mh_G} {d : Nat} (hd : 8 ≤ d) {h : Nat → Int → Int} (hF : mh_FX h) {s : Int → Int} (r82 : h 82 = s)  (hi : sp_inv s) : mh_M g d yX12_aQuarter cX12_aQuarter 2 none 96 0 0 [.ref 81] h (fun r h2 => r = none ∧ mh_FX h2 ∧ mh_fr [82, 86, 87] h h2 ∧ h2 82 = sp_aq s) := by
  refine mh_M_of RX12 rfl (by decide +kernel) [some (.ref 81), none] rfl (Nat.le_of_ble_eq_true rfl) (fun f F Z hn0 hR => ?_)
  have hm := hi.1
  refine mh_iconst (pc := 0) F dX12_aQuarter_0 ?_
  refine mh_istore1 (pc := 1) F dX12_aQuarter_1 rfl (by decide) ?_
  have L2 : ∀ (m : Nat) (k : Int) (hh : Nat → Int → Int) (t : Int → Int), (mh_FX hh) → (mh_fr [82, 86, 87] h hh) → (hh 82 = t) → (0 ≤ k ∧ k ≤ s 3) → (t = sp_gos s k.toNat) → (s 3 - k).toNat = m → mh_V g f 2 96 0 0 2 [some (.ref 81), some (.int (Int32.ofInt (k)))] [] hh := by
    intro m
    induction m using Nat.strongRecOn with
    | _ m ihL2 =>
    intro k hh t Fhh frhh q82hh hk ht hmz
    refine mh_iload1 (pc := 2) F dX12_aQuarter_2 ?_
    have zHI : sp_inv t := by rw [ht]; exact sp_gos_inv hi _ (by omega)
    have h3 : t 3 = s 3 := by rw [ht]; exact sp_gos_out s _ (by omega) 3 (by decide) (by decide)
    refine mh_aload0 (pc := 3) F dX12_aQuarter_3 ?_
    refine mh_getr (b := 82) (pc := 4) F sh_81 (by decide) fw_RX12_9_12 dX12_aQuarter_4 rfl (fx_81_0 Fhh) ?_
    refine mh_iconst (pc := 7) F dX12_aQuarter_7 ?_
    refine mh_ialoadr (pc := 8) F sh_82 (by decide) (by omega) dX12_aQuarter_8 q82hh ?_
    refine mh_icmp_ge (pc := 9) (tgt := 23) F dX12_aQuarter_9 rfl (by omega) (by omega) (fun c_9 => ?_) (fun c_9 => ?_)
    · refine mh_aload0 (pc := 23) F dX12_aQuarter_23 ?_
      refine mh_getr (b := 82) (pc := 24) F sh_81 (by decide) fw_RX12_9_12 dX12_aQuarter_24 rfl (fx_81_0 Fhh) ?_
      refine mh_iconst (pc := 27) F dX12_aQuarter_27 ?_
      refine mh_dup2 (pc := 28) F dX12_aQuarter_28 rfl rfl ?_
      refine mh_ialoadr (pc := 29) F sh_82 (by decide) (by omega) dX12_aQuarter_29 q82hh ?_
      refine mh_iconst (pc := 30) F dX12_aQuarter_30 ?_
      refine mh_iadd (pc := 31) F dX12_aQuarter_31 ?_
      refine mh_iastore (pc := 32) F sh_82 (by decide) (by omega) dX12_aQuarter_32 ?_
      refine mh_nmh (fun h1 e1 => ?_)
      have F1 : mh_FX h1 := by rw [e1]; exact Fhh.upa rfl
      have r82_1 : h1 82 = mh_ur t 0 ((t 0) + 1) := by rw [e1, mh_up_rs, q82hh]
      have fr1 : mh_fr [82, 86, 87] h h1 := mh_fr.upi frhh e1 (by simp)
      exact mh_return F Z dX12_aQuarter_33 ⟨rfl, F1, (fr1.mono (by simp)), (r82_1.trans (by unfold sp_aq; rw [← (show k = s 3 by omega), ← ht]))⟩
    · refine mh_aload0 (pc := 12) F dX12_aQuarter_12 ?_
      refine mh_iload1 (pc := 13) F dX12_aQuarter_13 ?_
      refine mh_callV0 (pc := 14) (As := [.int (Int32.ofInt (k))]) (st := []) F (by omega) (k_goesOn (by omega) Fhh q82hh (by omega) zHI) wv_RX12_260_yX12_goesOn dX12_aQuarter_14 sh_81 rfl (by decide) rfl rfl (Nat.le_of_ble_eq_true rfl) ⟨Nat.zero_le _, Nat.zero_le _⟩ (fun r2 h2 q2 => ?_)
      obtain ⟨rfl, F2, fr2, q2_0⟩ := q2
      have fr3 : mh_fr [82, 86, 87] h h2 := (mh_fr.tr frhh fr2).mono (by simp)
      refine mh_iinc1 (pc := 17) F dX12_aQuarter_17 rfl (by decide) ?_
      refine mh_goto (pc := 20) (tgt := 2) F dX12_aQuarter_20 rfl ?_
      exact ihL2 _ (by omega) (k + 1) h2 (sp_go t k) F2 (fr3.mono (by simp)) q2_0 (by omega) (by rw [sp_gos_at _ hk.1, ← ht]) rfl
  exact L2 _ 0 h s hF (mh_fr.rf.mono (by simp)) r82 (by omega) rfl rfl

