/-! sheets -/
def sc_nm (w raw u : Int) : Prop := (w = 8 ∧ -128 ≤ u ∧ u < 128 ∧ raw = u % 256) ∨ (w = 16 ∧ -32768 ≤ u ∧ u < 32768 ∧ raw = u % 65536) ∨ (w = 32 ∧ -2147483648 ≤ u ∧ u < 2147483648 ∧ raw = u)
def sc_S (h : Nat → Int → Int) (b z u : Int → Int) : Prop := ∀ k, 0 ≤ k → k < 4 → (b k = 0 ∨ b k = 8 ∨ b k = 16 ∨ b k = 32) ∧ (0 ≤ z k ∧ z k ≤ 40) ∧ h 22 k = b k ∧ (b k ≠ 0 → h 23 k = z k ∧ ∀ i, 0 ≤ i → i < 40 → sc_nm (b k) (h (18 + k.toNat) i) (u (40 * k + i)))
def sc_R (A : Nat) : Prop := 18 ≤ A ∧ A < 22
theorem sc_R.lt {A : Nat} (h : sc_R A) : A < 96 := by unfold sc_R at h; omega
theorem sc_R.sh {A : Nat} (h : sc_R A) : mh_sh A = .inr (0, 40) := by
  have q : ∀ x : Fin 96, (18 ≤ x.val ∧ x.val < 22) → mh_sh x.val = .inr (0, 40) := by decide +kernel
  exact q ⟨A, h.lt⟩ h
theorem sc_R.fx {A : Nat} (h : sc_R A) : ∀ q ∈ mh_fx, q.1 ≠ A := by
  have q : ∀ x : Fin 96, (18 ≤ x.val ∧ x.val < 22) → mh_fx.all (fun q => q.1 != x.val) = true := by decide +kernel
  have := q ⟨A, h.lt⟩ h
  intro z hz e
  have := List.all_eq_true.mp this z hz
  simp [e] at this
theorem sc_Rk {k : Int} (h : 0 ≤ k ∧ k ≤ 3) : sc_R (18 + k.toNat) := by unfold sc_R; omega
theorem fx_17 {h : Nat → Int → Int} (H : mh_FX h) {j : Int} (hj : 0 ≤ j ∧ j ≤ 3) : h 17 j = ((18 + j.toNat : Nat) : Int) + 1 := by
  rcases (show j = 0 ∨ j = 1 ∨ j = 2 ∨ j = 3 by omega) with z | z | z | z
  · subst z; exact fx_17_0 H
  · subst z; exact fx_17_1 H
  · subst z; exact fx_17_2 H
  · subst z; exact fx_17_3 H
theorem sc_S.fr {h h2 : Nat → Int → Int} {b z u : Int → Int} (H : sc_S h b z u) (e : ∀ a, 18 ≤ a → a ≤ 23 → h2 a = h a) : sc_S h2 b z u := fun k k0 k1 => by
  rw [e 22 (by decide) (by decide), e 23 (by decide) (by decide), e (18 + k.toNat) (by omega) (by omega)]; exact H k k0 k1
theorem sc_S_none {h h2 : Nat → Int → Int} {b z u : Int → Int} {k : Int} (H : sc_S h b z u) (hk : 0 ≤ k ∧ k ≤ 3) (e : h2 = mh_up h 22 k 0) : sc_S h2 (mh_ur b k 0) (mh_ur z k 0) (sp_zero k u) := fun j j0 j1 => by
  have er : ∀ x, x ≠ 22 → h2 x = h x := fun x hx => by rw [e]; exact mh_up_row hx
  obtain ⟨a1, a2, a3, a4⟩ := H j j0 j1
  by_cases y : j = k
  · subst y
    rw [mh_ur_eq rfl, mh_ur_eq rfl]
    exact ⟨Or.inl rfl, by decide, by rw [e, mh_up_rs, mh_ur_eq rfl], fun q => absurd rfl q⟩
  · rw [mh_ur_ne y, mh_ur_ne y, er 23 (by decide), er (18 + j.toNat) (by omega), e, mh_up_rs, mh_ur_ne y]
    refine ⟨a1, a2, a3, fun q => ⟨(a4 q).1, fun i i0 i1 => ?_⟩⟩
    rw [show sp_zero k u (40 * j + i) = u (40 * j + i) from if_neg (by omega)]
    exact (a4 q).2 i i0 i1
theorem sc_S_set {h h2 : Nat → Int → Int} {b z u : Int → Int} {k w n : Int} (H : sc_S h b z u) (hk : 0 ≤ k ∧ k ≤ 3) (hw : w = 8 ∨ w = 16 ∨ w = 32) (hn : 0 ≤ n ∧ n ≤ 40) (eb : h2 22 = mh_ur (h 22) k w) (ez : h2 23 = mh_ur (h 23) k n) (e0 : ∀ i, 0 ≤ i → i < 40 → h2 (18 + k.toNat) i = 0) (er : ∀ j : Int, 0 ≤ j → j < 4 → j ≠ k → h2 (18 + j.toNat) = h (18 + j.toNat)) : sc_S h2 (mh_ur b k w) (mh_ur z k n) (sp_zero k u) := fun j j0 j1 => by
  obtain ⟨a1, a2, a3, a4⟩ := H j j0 j1
  by_cases y : j = k
  · subst y
    rw [mh_ur_eq rfl, mh_ur_eq rfl, eb, ez, mh_ur_eq rfl, mh_ur_eq rfl]
    refine ⟨by omega, hn, rfl, fun _ => ⟨rfl, fun i i0 i1 => ?_⟩⟩
    rw [e0 i i0 i1, show sp_zero j u (40 * j + i) = 0 from if_pos (by omega)]
    unfold sc_nm; omega
  · rw [mh_ur_ne y, mh_ur_ne y, eb, ez, mh_ur_ne y, mh_ur_ne y, er j j0 j1 y]
    refine ⟨a1, a2, a3, fun q => ⟨(a4 q).1, fun i i0 i1 => ?_⟩⟩
    rw [show sp_zero k u (40 * j + i) = u (40 * j + i) from if_neg (by omega)]
    exact (a4 q).2 i i0 i1
theorem sc_S_put {h h2 : Nat → Int → Int} {b z u : Int → Int} {k i v x : Int} (H : sc_S h b z u) (hk : 0 ≤ k ∧ k ≤ 3) (hi : 0 ≤ i ∧ i < 40) (e : h2 = mh_up h (18 + k.toNat) i v) (hv : sc_nm (b k) v x) : sc_S h2 b z (mh_ur u (40 * k + i) x) := fun j j0 j1 => by
  have er : ∀ y, y ≠ 18 + k.toNat → h2 y = h y := fun y hy => by rw [e]; exact mh_up_row hy
  obtain ⟨a1, a2, a3, a4⟩ := H j j0 j1
  rw [er 22 (by omega), er 23 (by omega)]
  refine ⟨a1, a2, a3, fun q => ⟨(a4 q).1, fun l l0 l1 => ?_⟩⟩
  by_cases y : j = k
  · subst y
    rw [show h2 (18 + j.toNat) = mh_ur (h (18 + j.toNat)) i v by rw [e, mh_up_rs]]
    by_cases w : l = i
    · rw [mh_ur_eq w, mh_ur_eq (by omega)]; exact hv
    · rw [mh_ur_ne w, mh_ur_ne (by omega)]; exact (a4 q).2 l l0 l1
  · rw [er _ (by omega), mh_ur_ne (by omega)]; exact (a4 q).2 l l0 l1
theorem sc_and (x : Int) {m : Nat} (hm : m = 8 ∨ m = 16) : mh_and x ((2 ^ m - 1 : Nat) : Int) = x % ((2 ^ m : Nat) : Int) := by
  unfold mh_and
  have e : (Int32.ofInt x &&& Int32.ofInt ((2 ^ m - 1 : Nat) : Int)).toBitVec.toNat = (x % 4294967296).toNat % 2 ^ m := by
    rw [Int32.toBitVec_and, BitVec.toNat_and]
    have e1 : (Int32.ofInt x).toBitVec.toNat = (x % 4294967296).toNat := BitVec.toNat_ofInt ..
    have e2 : (Int32.ofInt ((2 ^ m - 1 : Nat) : Int)).toBitVec.toNat = 2 ^ m - 1 := by
      rcases hm with z | z <;> subst z <;> decide
    rw [e1, e2, Nat.and_two_pow_sub_one_eq_mod]
  have el : (x % 4294967296).toNat % 2 ^ m < 2 ^ m := Nat.mod_lt _ (Nat.two_pow_pos m)
  show (Int32.ofInt x &&& Int32.ofInt ((2 ^ m - 1 : Nat) : Int)).toBitVec.toInt = _
  rw [BitVec.toInt_eq_toNat_of_lt (by rw [e]; rcases hm with z | z <;> subst z <;> omega), e]
  rcases hm with z | z <;> subst z <;> omega
theorem sc_i8_mod {x : Int} (hx : -2147483648 ≤ x ∧ x < 2147483648) : sc_nm 8 (mh_and x (mh_shl 1 8 - 1)) (mh_i8 x) := by
  have a := sc_and x (m := 8) (Or.inl rfl)
  have b := sc_i8_rg x
  have e : mh_i8 x = x.bmod 256 := by
    unfold mh_i8
    rw [Int32.toInt_toInt8, Int32.toInt_ofInt_of_le hx.1 hx.2]
  have e2 : mh_shl 1 8 - 1 = ((2 ^ 8 - 1 : Nat) : Int) := by decide
  rw [e2, a]
  refine Or.inl ⟨rfl, b.1, b.2, ?_⟩
  have q : x.bmod 256 % ((256 : Nat) : Int) = x % ((256 : Nat) : Int) := Int.bmod_emod
  rw [e]; exact q.symm
theorem sc_i16_mod {x : Int} (hx : -2147483648 ≤ x ∧ x < 2147483648) : sc_nm 16 (mh_and x (mh_shl 1 16 - 1)) (mh_i16 x) := by
  have a := sc_and x (m := 16) (Or.inr rfl)
  have e : mh_i16 x = x.bmod 65536 := by
    unfold mh_i16
    rw [Int32.toInt_toInt16, Int32.toInt_ofInt_of_le hx.1 hx.2]
  have e2 : mh_shl 1 16 - 1 = ((2 ^ 16 - 1 : Nat) : Int) := by decide
  rw [e2, a]
  refine Or.inr (Or.inl ⟨rfl, ?_, ?_, ?_⟩)
  · rw [e]; exact Int.le_bmod (by decide)
  · rw [e]; exact Int.bmod_lt (by decide)
  · have q : x.bmod 65536 % ((65536 : Nat) : Int) = x % ((65536 : Nat) : Int) := Int.bmod_emod
    rw [e]; exact q.symm
set_option maxRecDepth 100000 in
set_option maxHeartbeats 2000000 in
theorem kJ_fill {g : mh_G} {d : Nat} (hd : 1 ≤ d) {h : Nat → Int → Int} (hF : mh_FX h) {A : Nat} {v : Int} {c : Int → Int} (rA : h A = c) (zR : sc_R A) : mh_M g d yJ7_fill_53178 cJ7_fill_53178 4 none 96 0 0 [.ref A, .int (Int32.ofInt (v))] h (fun r h2 => r = none ∧ mh_FX h2 ∧ mh_fr [A] h h2 ∧ ∀ i, 0 ≤ i → i < 40 → h2 A i = v) := by
  refine mh_M_ofJ RJ7 rfl (by decide +kernel) [some (.ref A), some (.int (Int32.ofInt (v))), none, none] rfl (Nat.le_of_ble_eq_true rfl) (fun f F Z hn0 hR => ?_)
  refine mh_iconst (pc := 0) F dJ7_fill_53178_0 ?_
  refine mh_istore2 (pc := 1) F dJ7_fill_53178_1 rfl (by decide) ?_
  refine mh_aload0 (pc := 2) F dJ7_fill_53178_2 ?_
  refine mh_alen (pc := 3) F zR.sh zR.lt dJ7_fill_53178_3 ?_
  refine mh_istore3 (pc := 4) F dJ7_fill_53178_4 rfl (by decide) ?_
  have L5 : ∀ (m : Nat) (x : Int) (hg : Nat → Int → Int) (t : Int → Int), (mh_FX hg) → (mh_fr [A] h hg) → (hg A = t) → (0 ≤ x ∧ x ≤ 40) → (∀ i, 0 ≤ i → i < x → t i = v) → (40 - x).toNat = m → mh_V g f 4 96 0 0 5 [some (.ref A), some (.int (Int32.ofInt (v))), some (.int (Int32.ofInt (x))), some (.int (Int32.ofInt (((40 : Nat) : Int))))] [] hg := by
    intro m
    induction m using Nat.strongRecOn with
    | _ m ihL5 =>
    intro x hg t Fhg frhg qAhg hx ht hmz
    refine mh_iload2 (pc := 5) F dJ7_fill_53178_5 ?_
    refine mh_iload3 (pc := 6) F dJ7_fill_53178_6 ?_
    refine mh_icmp_ge (pc := 7) (tgt := 20) F dJ7_fill_53178_7 rfl (by omega) (by omega) (fun c_7 => ?_) (fun c_7 => ?_)
    · exact mh_return F Z dJ7_fill_53178_20 ⟨rfl, Fhg, frhg, fun i i0 i1 => by rw [qAhg]; exact ht i i0 (by omega)⟩
    · refine mh_aload0 (pc := 10) F dJ7_fill_53178_10 ?_
      refine mh_iload2 (pc := 11) F dJ7_fill_53178_11 ?_
      refine mh_iload1 (pc := 12) F dJ7_fill_53178_12 ?_
      refine mh_iastore (pc := 13) F zR.sh zR.lt (by omega) dJ7_fill_53178_13 ?_
      refine mh_nmh (fun h1 e1 => ?_)
      have F1 : mh_FX h1 := by rw [e1]; exact Fhg.ups zR.fx
      have rA_1 : h1 A = mh_ur t x v := by rw [e1, mh_up_rs, qAhg]
      have fr1 : mh_fr [A] h h1 := mh_fr.upi frhg e1 (by simp)
      refine mh_iinc2 (pc := 14) F dJ7_fill_53178_14 rfl (by decide) ?_
      refine mh_goto (pc := 17) (tgt := 5) F dJ7_fill_53178_17 rfl ?_
      exact ihL5 _ (by omega) (x + 1) h1 (mh_ur t x v) F1 (fr1.mono (by simp)) rA_1 (by omega) (fun i i0 i1 => by by_cases y : i = x; exact mh_ur_eq y; rw [mh_ur_ne y]; exact ht i i0 (by omega)) rfl
  exact L5 _ 0 h c hF (mh_fr.rf.mono (by simp)) rA (by omega) (fun i i0 i1 => by omega) rfl

set_option maxRecDepth 100000 in
set_option maxHeartbeats 2000000 in
theorem q_sheet {g : mh_G} {d : Nat} (hd : 8 ≤ d) {h : Nat → Int → Int} (hF : mh_FX h) {s er b z u : Int → Int} {k w n : Int} (hk : -2147483648 ≤ k ∧ k < 2147483648) (hw : -2147483648 ≤ w ∧ w < 2147483648) (hn : -2147483648 ≤ n ∧ n < 2147483648) (hV : sc_V h s) (hE : sc_E h er) (hS : sc_S h b z u) : mh_M g d yX11_sheet cX11_sheet 4 (some .int) 96 0 0 [.ref 0, .int (Int32.ofInt (k)), .int (Int32.ofInt (w)), .int (Int32.ofInt (n))] h (fun r h2 => ∃ (vv : Int) (ee bb zz uu : Int → Int), (vv, ee, bb, zz, uu) = sp_sheet k w n er b z u ∧ r = some (.int (Int32.ofInt vv)) ∧ mh_FX h2 ∧ mh_fr [18, 19, 20, 21, 22, 23, 24] h h2 ∧ sc_E h2 ee ∧ sc_S h2 bb zz uu) := by
  refine mh_M_of RX11 rfl (by decide +kernel) [some (.ref 0), some (.int (Int32.ofInt (k))), some (.int (Int32.ofInt (w))), some (.int (Int32.ofInt (n)))] rfl (Nat.le_of_ble_eq_true rfl) (fun f F Z hn0 hR => ?_)
  refine mh_iload1 (pc := 0) F dX11_sheet_0 ?_
  refine mh_callSp (pc := 1) (As := [.int (Int32.ofInt (k))]) (st := []) F (by omega) (k4_isSheet (by omega) (by omega)) ws_RX11_274 dX11_sheet_1 rfl rfl (Nat.le_of_ble_eq_true rfl) ⟨Nat.zero_le _, Nat.zero_le _⟩ ?_
  refine mh_ifb_eq (pc := 4) (tgt := 29) F dX11_sheet_4 rfl (fun c_4 => ?_) (fun c_4 => ?_)
  · refine mh_aload0 (pc := 29) F dX11_sheet_29 ?_
    refine mh_iconst (pc := 30) F dX11_sheet_30 ?_
    refine mh_callV0 (pc := 31) (As := [.int (Int32.ofInt (1))]) (st := []) F (by omega) (k8_refuse (by omega) hF rfl (by decide)) wv_RX11_90_yX11_refuse dX11_sheet_31 sh_0 rfl (by decide) rfl rfl (Nat.le_of_ble_eq_true rfl) ⟨Nat.zero_le _, Nat.zero_le _⟩ (fun r1 h1 q1 => ?_)
    obtain ⟨rfl, F1, fr1, q1_0⟩ := q1
    have fr2 : mh_fr [24] h h1 := (mh_fr.tr mh_fr.rf fr1).mono (by simp)
    have hVr : sc_V h1 s := sc_V_fr hV (fun a a1 a2 a3 a4 => fr1 a (by simp; omega))
    have hEr : sc_E h1 (mh_ur er 1 (er 1 + 1)) := hE.up (by decide) q1_0
    exact mh_ireturn F Z dX11_sheet_34 ⟨_, _, _, _, _, (by unfold sp_sheet; (repeat' split) <;> first | rfl | (exfalso; omega) | (rw [show w = 0 by omega]; done)), rfl, F1, (fr2.mono (by intro a ha; simp at ha ⊢; omega)), hEr, (hS.fr (fun a a1 a2 => fr2 a (by simp; omega)))⟩
  · refine mh_iload2 (pc := 7) F dX11_sheet_7 ?_
    refine mh_if_eq (pc := 8) (tgt := 35) F dX11_sheet_8 rfl (by omega) (fun c_8 => ?_) (fun c_8 => ?_)
    · refine mh_iload2 (pc := 35) F dX11_sheet_35 ?_
      refine mh_if_ne (pc := 36) (tgt := 48) F dX11_sheet_36 rfl (by omega) (fun c_36 => ?_) (fun c_36 => ?_)
      · refine mh_iload3 (pc := 48) F dX11_sheet_48 ?_
        refine mh_if_ge (pc := 49) (tgt := 58) F dX11_sheet_49 rfl (by omega) (fun c_49 => ?_) (fun c_49 => ?_)
        · refine mh_iload3 (pc := 58) F dX11_sheet_58 ?_
          refine mh_bipush (pc := 59) F dX11_sheet_59 rfl ?_
          refine mh_icmp_le (pc := 61) (tgt := 70) F dX11_sheet_61 rfl (by omega) (by omega) (fun c_61 => ?_) (fun c_61 => ?_)
          · refine mh_aload0 (pc := 70) F dX11_sheet_70 ?_
            refine mh_getr (b := 17) (pc := 71) F sh_0 (by decide) fw_RX11_55_11 dX11_sheet_71 rfl (fx_0_7 hF) ?_
            refine mh_iload1 (pc := 74) F dX11_sheet_74 ?_
            refine mh_aaload (b := 18 + k.toNat) (pc := 75) F sh_17 (by decide) (by decide) (by omega) dX11_sheet_75 (fx_17 hF (by omega)) ?_
            refine mh_iconst (pc := 76) F dX11_sheet_76 ?_
            refine mh_callS0 (pc := 77) (As := [.ref (18 + k.toNat), .int (Int32.ofInt (0))]) (st := []) F (by omega) (kJ_fill (by omega) hF rfl (sc_Rk (k := k) (by omega))) ws_RX11_277 dX11_sheet_77 rfl rfl (Nat.le_of_ble_eq_true rfl) ⟨Nat.zero_le _, Nat.zero_le _⟩ (fun r3 h3 q3 => ?_)
            obtain ⟨rfl, F3, frl3, qL⟩ := q3
            have fr4 : mh_fr [18 + k.toNat] h h3 := (mh_fr.tr mh_fr.rf frl3).mono (by simp)
            refine mh_aload0 (pc := 80) F dX11_sheet_80 ?_
            refine mh_getr (b := 22) (pc := 81) F sh_0 (by decide) fw_RX11_58_11 dX11_sheet_81 rfl (fx_0_8 F3) ?_
            refine mh_iload1 (pc := 84) F dX11_sheet_84 ?_
            refine mh_iload2 (pc := 85) F dX11_sheet_85 ?_
            refine mh_iastore (pc := 86) F sh_22 (by decide) (by omega) dX11_sheet_86 ?_
            refine mh_nmh (fun h5 e5 => ?_)
            have F5 : mh_FX h5 := by rw [e5]; exact F3.upa rfl
            have fr5 : mh_fr [22, 18 + k.toNat] h h5 := mh_fr.up fr4 e5
            refine mh_aload0 (pc := 87) F dX11_sheet_87 ?_
            refine mh_getr (b := 23) (pc := 88) F sh_0 (by decide) fw_RX11_61_11 dX11_sheet_88 rfl (fx_0_9 F5) ?_
            refine mh_iload1 (pc := 91) F dX11_sheet_91 ?_
            refine mh_iload3 (pc := 92) F dX11_sheet_92 ?_
            refine mh_iastore (pc := 93) F sh_23 (by decide) (by omega) dX11_sheet_93 ?_
            refine mh_nmh (fun h6 e6 => ?_)
            have F6 : mh_FX h6 := by rw [e6]; exact F5.upa rfl
            have fr6 : mh_fr [23, 22, 18 + k.toNat] h h6 := mh_fr.up fr5 e6
            have hSn : sc_S h6 (mh_ur b k w) (mh_ur z k n) (sp_zero k u) := sc_S_set hS (by omega) (by omega) (by omega) (by rw [e6, mh_up_row (by decide), e5, mh_up_rs, frl3 22 (by simp; omega)]) (by rw [e6, mh_up_rs, e5, mh_up_row (by decide), frl3 23 (by simp; omega)]) (fun i i0 i1 => by rw [e6, mh_up_row (by omega), e5, mh_up_row (by omega)]; exact qL i i0 i1) (fun j j0 j1 j2 => by rw [e6, mh_up_row (by omega), e5, mh_up_row (by omega), frl3 _ (by simp; omega)])
            refine mh_iconst (pc := 94) F dX11_sheet_94 ?_
            exact mh_ireturn F Z dX11_sheet_95 ⟨_, _, _, _, _, (by unfold sp_sheet; (repeat' split) <;> first | rfl | (exfalso; omega) | (rw [show w = 0 by omega]; done)), rfl, F6, (fr6.mono (by intro a ha; simp at ha ⊢; omega)), (hE.of (fr6 24 (by simp; try omega))), hSn⟩
          · refine mh_aload0 (pc := 64) F dX11_sheet_64 ?_
            refine mh_iconst (pc := 65) F dX11_sheet_65 ?_
            refine mh_callV0 (pc := 66) (As := [.int (Int32.ofInt (1))]) (st := []) F (by omega) (k8_refuse (by omega) hF rfl (by decide)) wv_RX11_90_yX11_refuse dX11_sheet_66 sh_0 rfl (by decide) rfl rfl (Nat.le_of_ble_eq_true rfl) ⟨Nat.zero_le _, Nat.zero_le _⟩ (fun r7 h7 q7 => ?_)
            obtain ⟨rfl, F7, fr7, q7_0⟩ := q7
            have fr8 : mh_fr [24] h h7 := (mh_fr.tr mh_fr.rf fr7).mono (by simp)
            have hVr : sc_V h7 s := sc_V_fr hV (fun a a1 a2 a3 a4 => fr7 a (by simp; omega))
            have hEr : sc_E h7 (mh_ur er 1 (er 1 + 1)) := hE.up (by decide) q7_0
            exact mh_ireturn F Z dX11_sheet_69 ⟨_, _, _, _, _, (by unfold sp_sheet; (repeat' split) <;> first | rfl | (exfalso; omega) | (rw [show w = 0 by omega]; done)), rfl, F7, (fr8.mono (by intro a ha; simp at ha ⊢; omega)), hEr, (hS.fr (fun a a1 a2 => fr8 a (by simp; omega)))⟩
        · refine mh_aload0 (pc := 52) F dX11_sheet_52 ?_
          refine mh_iconst (pc := 53) F dX11_sheet_53 ?_
          refine mh_callV0 (pc := 54) (As := [.int (Int32.ofInt (3))]) (st := []) F (by omega) (k8_refuse (by omega) hF rfl (by decide)) wv_RX11_90_yX11_refuse dX11_sheet_54 sh_0 rfl (by decide) rfl rfl (Nat.le_of_ble_eq_true rfl) ⟨Nat.zero_le _, Nat.zero_le _⟩ (fun r9 h9 q9 => ?_)
          obtain ⟨rfl, F9, fr9, q9_0⟩ := q9
          have fr10 : mh_fr [24] h h9 := (mh_fr.tr mh_fr.rf fr9).mono (by simp)
          have hVr : sc_V h9 s := sc_V_fr hV (fun a a1 a2 a3 a4 => fr9 a (by simp; omega))
          have hEr : sc_E h9 (mh_ur er 3 (er 3 + 1)) := hE.up (by decide) q9_0
          exact mh_ireturn F Z dX11_sheet_57 ⟨_, _, _, _, _, (by unfold sp_sheet; (repeat' split) <;> first | rfl | (exfalso; omega) | (rw [show w = 0 by omega]; done)), rfl, F9, (fr10.mono (by intro a ha; simp at ha ⊢; omega)), hEr, (hS.fr (fun a a1 a2 => fr10 a (by simp; omega)))⟩
      · refine mh_aload0 (pc := 39) F dX11_sheet_39 ?_
        refine mh_getr (b := 22) (pc := 40) F sh_0 (by decide) fw_RX11_58_11 dX11_sheet_40 rfl (fx_0_8 hF) ?_
        refine mh_iload1 (pc := 43) F dX11_sheet_43 ?_
        refine mh_iconst (pc := 44) F dX11_sheet_44 ?_
        refine mh_iastore (pc := 45) F sh_22 (by decide) (by omega) dX11_sheet_45 ?_
        refine mh_nmh (fun h11 e11 => ?_)
        have F11 : mh_FX h11 := by rw [e11]; exact hF.upa rfl
        have fr11 : mh_fr [22] h h11 := mh_fr.up mh_fr.rf e11
        have hSn : sc_S h11 (mh_ur b k 0) (mh_ur z k 0) (sp_zero k u) := sc_S_none hS (by omega) e11
        refine mh_iconst (pc := 46) F dX11_sheet_46 ?_
        exact mh_ireturn F Z dX11_sheet_47 ⟨_, _, _, _, _, (by unfold sp_sheet; (repeat' split) <;> first | rfl | (exfalso; omega) | (rw [show w = 0 by omega]; done)), rfl, F11, (fr11.mono (by intro a ha; simp at ha ⊢; omega)), (hE.of (fr11 24 (by simp; try omega))), hSn⟩
    · refine mh_iload2 (pc := 11) F dX11_sheet_11 ?_
      refine mh_bipush (pc := 12) F dX11_sheet_12 rfl ?_
      refine mh_icmp_eq (pc := 14) (tgt := 35) F dX11_sheet_14 rfl (by omega) (by omega) (fun c_14 => ?_) (fun c_14 => ?_)
      · refine mh_iload2 (pc := 35) F dX11_sheet_35 ?_
        refine mh_if_ne (pc := 36) (tgt := 48) F dX11_sheet_36 rfl (by omega) (fun c_36 => ?_) (fun c_36 => ?_)
        · refine mh_iload3 (pc := 48) F dX11_sheet_48 ?_
          refine mh_if_ge (pc := 49) (tgt := 58) F dX11_sheet_49 rfl (by omega) (fun c_49 => ?_) (fun c_49 => ?_)
          · refine mh_iload3 (pc := 58) F dX11_sheet_58 ?_
            refine mh_bipush (pc := 59) F dX11_sheet_59 rfl ?_
            refine mh_icmp_le (pc := 61) (tgt := 70) F dX11_sheet_61 rfl (by omega) (by omega) (fun c_61 => ?_) (fun c_61 => ?_)
            · refine mh_aload0 (pc := 70) F dX11_sheet_70 ?_
              refine mh_getr (b := 17) (pc := 71) F sh_0 (by decide) fw_RX11_55_11 dX11_sheet_71 rfl (fx_0_7 hF) ?_
              refine mh_iload1 (pc := 74) F dX11_sheet_74 ?_
              refine mh_aaload (b := 18 + k.toNat) (pc := 75) F sh_17 (by decide) (by decide) (by omega) dX11_sheet_75 (fx_17 hF (by omega)) ?_
              refine mh_iconst (pc := 76) F dX11_sheet_76 ?_
              refine mh_callS0 (pc := 77) (As := [.ref (18 + k.toNat), .int (Int32.ofInt (0))]) (st := []) F (by omega) (kJ_fill (by omega) hF rfl (sc_Rk (k := k) (by omega))) ws_RX11_277 dX11_sheet_77 rfl rfl (Nat.le_of_ble_eq_true rfl) ⟨Nat.zero_le _, Nat.zero_le _⟩ (fun r12 h12 q12 => ?_)
              obtain ⟨rfl, F12, frl12, qL⟩ := q12
              have fr13 : mh_fr [18 + k.toNat] h h12 := (mh_fr.tr mh_fr.rf frl12).mono (by simp)
              refine mh_aload0 (pc := 80) F dX11_sheet_80 ?_
              refine mh_getr (b := 22) (pc := 81) F sh_0 (by decide) fw_RX11_58_11 dX11_sheet_81 rfl (fx_0_8 F12) ?_
              refine mh_iload1 (pc := 84) F dX11_sheet_84 ?_
              refine mh_iload2 (pc := 85) F dX11_sheet_85 ?_
              refine mh_iastore (pc := 86) F sh_22 (by decide) (by omega) dX11_sheet_86 ?_
              refine mh_nmh (fun h14 e14 => ?_)
              have F14 : mh_FX h14 := by rw [e14]; exact F12.upa rfl
              have fr14 : mh_fr [22, 18 + k.toNat] h h14 := mh_fr.up fr13 e14
              refine mh_aload0 (pc := 87) F dX11_sheet_87 ?_
              refine mh_getr (b := 23) (pc := 88) F sh_0 (by decide) fw_RX11_61_11 dX11_sheet_88 rfl (fx_0_9 F14) ?_
              refine mh_iload1 (pc := 91) F dX11_sheet_91 ?_
              refine mh_iload3 (pc := 92) F dX11_sheet_92 ?_
              refine mh_iastore (pc := 93) F sh_23 (by decide) (by omega) dX11_sheet_93 ?_
              refine mh_nmh (fun h15 e15 => ?_)
              have F15 : mh_FX h15 := by rw [e15]; exact F14.upa rfl
              have fr15 : mh_fr [23, 22, 18 + k.toNat] h h15 := mh_fr.up fr14 e15
              have hSn : sc_S h15 (mh_ur b k w) (mh_ur z k n) (sp_zero k u) := sc_S_set hS (by omega) (by omega) (by omega) (by rw [e15, mh_up_row (by decide), e14, mh_up_rs, frl12 22 (by simp; omega)]) (by rw [e15, mh_up_rs, e14, mh_up_row (by decide), frl12 23 (by simp; omega)]) (fun i i0 i1 => by rw [e15, mh_up_row (by omega), e14, mh_up_row (by omega)]; exact qL i i0 i1) (fun j j0 j1 j2 => by rw [e15, mh_up_row (by omega), e14, mh_up_row (by omega), frl12 _ (by simp; omega)])
              refine mh_iconst (pc := 94) F dX11_sheet_94 ?_
              exact mh_ireturn F Z dX11_sheet_95 ⟨_, _, _, _, _, (by unfold sp_sheet; (repeat' split) <;> first | rfl | (exfalso; omega) | (rw [show w = 0 by omega]; done)), rfl, F15, (fr15.mono (by intro a ha; simp at ha ⊢; omega)), (hE.of (fr15 24 (by simp; try omega))), hSn⟩
            · refine mh_aload0 (pc := 64) F dX11_sheet_64 ?_
              refine mh_iconst (pc := 65) F dX11_sheet_65 ?_
              refine mh_callV0 (pc := 66) (As := [.int (Int32.ofInt (1))]) (st := []) F (by omega) (k8_refuse (by omega) hF rfl (by decide)) wv_RX11_90_yX11_refuse dX11_sheet_66 sh_0 rfl (by decide) rfl rfl (Nat.le_of_ble_eq_true rfl) ⟨Nat.zero_le _, Nat.zero_le _⟩ (fun r16 h16 q16 => ?_)
              obtain ⟨rfl, F16, fr16, q16_0⟩ := q16
              have fr17 : mh_fr [24] h h16 := (mh_fr.tr mh_fr.rf fr16).mono (by simp)
              have hVr : sc_V h16 s := sc_V_fr hV (fun a a1 a2 a3 a4 => fr16 a (by simp; omega))
              have hEr : sc_E h16 (mh_ur er 1 (er 1 + 1)) := hE.up (by decide) q16_0
              exact mh_ireturn F Z dX11_sheet_69 ⟨_, _, _, _, _, (by unfold sp_sheet; (repeat' split) <;> first | rfl | (exfalso; omega) | (rw [show w = 0 by omega]; done)), rfl, F16, (fr17.mono (by intro a ha; simp at ha ⊢; omega)), hEr, (hS.fr (fun a a1 a2 => fr17 a (by simp; omega)))⟩
          · refine mh_aload0 (pc := 52) F dX11_sheet_52 ?_
            refine mh_iconst (pc := 53) F dX11_sheet_53 ?_
            refine mh_callV0 (pc := 54) (As := [.int (Int32.ofInt (3))]) (st := []) F (by omega) (k8_refuse (by omega) hF rfl (by decide)) wv_RX11_90_yX11_refuse dX11_sheet_54 sh_0 rfl (by decide) rfl rfl (Nat.le_of_ble_eq_true rfl) ⟨Nat.zero_le _, Nat.zero_le _⟩ (fun r18 h18 q18 => ?_)
            obtain ⟨rfl, F18, fr18, q18_0⟩ := q18
            have fr19 : mh_fr [24] h h18 := (mh_fr.tr mh_fr.rf fr18).mono (by simp)
            have hVr : sc_V h18 s := sc_V_fr hV (fun a a1 a2 a3 a4 => fr18 a (by simp; omega))
            have hEr : sc_E h18 (mh_ur er 3 (er 3 + 1)) := hE.up (by decide) q18_0
            exact mh_ireturn F Z dX11_sheet_57 ⟨_, _, _, _, _, (by unfold sp_sheet; (repeat' split) <;> first | rfl | (exfalso; omega) | (rw [show w = 0 by omega]; done)), rfl, F18, (fr19.mono (by intro a ha; simp at ha ⊢; omega)), hEr, (hS.fr (fun a a1 a2 => fr19 a (by simp; omega)))⟩
        · refine mh_aload0 (pc := 39) F dX11_sheet_39 ?_
          refine mh_getr (b := 22) (pc := 40) F sh_0 (by decide) fw_RX11_58_11 dX11_sheet_40 rfl (fx_0_8 hF) ?_
          refine mh_iload1 (pc := 43) F dX11_sheet_43 ?_
          refine mh_iconst (pc := 44) F dX11_sheet_44 ?_
          refine mh_iastore (pc := 45) F sh_22 (by decide) (by omega) dX11_sheet_45 ?_
          refine mh_nmh (fun h20 e20 => ?_)
          have F20 : mh_FX h20 := by rw [e20]; exact hF.upa rfl
          have fr20 : mh_fr [22] h h20 := mh_fr.up mh_fr.rf e20
          have hSn : sc_S h20 (mh_ur b k 0) (mh_ur z k 0) (sp_zero k u) := sc_S_none hS (by omega) e20
          refine mh_iconst (pc := 46) F dX11_sheet_46 ?_
          exact mh_ireturn F Z dX11_sheet_47 ⟨_, _, _, _, _, (by unfold sp_sheet; (repeat' split) <;> first | rfl | (exfalso; omega) | (rw [show w = 0 by omega]; done)), rfl, F20, (fr20.mono (by intro a ha; simp at ha ⊢; omega)), (hE.of (fr20 24 (by simp; try omega))), hSn⟩
      · refine mh_iload2 (pc := 17) F dX11_sheet_17 ?_
        refine mh_bipush (pc := 18) F dX11_sheet_18 rfl ?_
        refine mh_icmp_eq (pc := 20) (tgt := 35) F dX11_sheet_20 rfl (by omega) (by omega) (fun c_20 => ?_) (fun c_20 => ?_)
        · refine mh_iload2 (pc := 35) F dX11_sheet_35 ?_
          refine mh_if_ne (pc := 36) (tgt := 48) F dX11_sheet_36 rfl (by omega) (fun c_36 => ?_) (fun c_36 => ?_)
          · refine mh_iload3 (pc := 48) F dX11_sheet_48 ?_
            refine mh_if_ge (pc := 49) (tgt := 58) F dX11_sheet_49 rfl (by omega) (fun c_49 => ?_) (fun c_49 => ?_)
            · refine mh_iload3 (pc := 58) F dX11_sheet_58 ?_
              refine mh_bipush (pc := 59) F dX11_sheet_59 rfl ?_
              refine mh_icmp_le (pc := 61) (tgt := 70) F dX11_sheet_61 rfl (by omega) (by omega) (fun c_61 => ?_) (fun c_61 => ?_)
              · refine mh_aload0 (pc := 70) F dX11_sheet_70 ?_
                refine mh_getr (b := 17) (pc := 71) F sh_0 (by decide) fw_RX11_55_11 dX11_sheet_71 rfl (fx_0_7 hF) ?_
                refine mh_iload1 (pc := 74) F dX11_sheet_74 ?_
                refine mh_aaload (b := 18 + k.toNat) (pc := 75) F sh_17 (by decide) (by decide) (by omega) dX11_sheet_75 (fx_17 hF (by omega)) ?_
                refine mh_iconst (pc := 76) F dX11_sheet_76 ?_
                refine mh_callS0 (pc := 77) (As := [.ref (18 + k.toNat), .int (Int32.ofInt (0))]) (st := []) F (by omega) (kJ_fill (by omega) hF rfl (sc_Rk (k := k) (by omega))) ws_RX11_277 dX11_sheet_77 rfl rfl (Nat.le_of_ble_eq_true rfl) ⟨Nat.zero_le _, Nat.zero_le _⟩ (fun r21 h21 q21 => ?_)
                obtain ⟨rfl, F21, frl21, qL⟩ := q21
                have fr22 : mh_fr [18 + k.toNat] h h21 := (mh_fr.tr mh_fr.rf frl21).mono (by simp)
                refine mh_aload0 (pc := 80) F dX11_sheet_80 ?_
                refine mh_getr (b := 22) (pc := 81) F sh_0 (by decide) fw_RX11_58_11 dX11_sheet_81 rfl (fx_0_8 F21) ?_
                refine mh_iload1 (pc := 84) F dX11_sheet_84 ?_
                refine mh_iload2 (pc := 85) F dX11_sheet_85 ?_
                refine mh_iastore (pc := 86) F sh_22 (by decide) (by omega) dX11_sheet_86 ?_
                refine mh_nmh (fun h23 e23 => ?_)
                have F23 : mh_FX h23 := by rw [e23]; exact F21.upa rfl
                have fr23 : mh_fr [22, 18 + k.toNat] h h23 := mh_fr.up fr22 e23
                refine mh_aload0 (pc := 87) F dX11_sheet_87 ?_
                refine mh_getr (b := 23) (pc := 88) F sh_0 (by decide) fw_RX11_61_11 dX11_sheet_88 rfl (fx_0_9 F23) ?_
                refine mh_iload1 (pc := 91) F dX11_sheet_91 ?_
                refine mh_iload3 (pc := 92) F dX11_sheet_92 ?_
                refine mh_iastore (pc := 93) F sh_23 (by decide) (by omega) dX11_sheet_93 ?_
                refine mh_nmh (fun h24 e24 => ?_)
                have F24 : mh_FX h24 := by rw [e24]; exact F23.upa rfl
                have fr24 : mh_fr [23, 22, 18 + k.toNat] h h24 := mh_fr.up fr23 e24
                have hSn : sc_S h24 (mh_ur b k w) (mh_ur z k n) (sp_zero k u) := sc_S_set hS (by omega) (by omega) (by omega) (by rw [e24, mh_up_row (by decide), e23, mh_up_rs, frl21 22 (by simp; omega)]) (by rw [e24, mh_up_rs, e23, mh_up_row (by decide), frl21 23 (by simp; omega)]) (fun i i0 i1 => by rw [e24, mh_up_row (by omega), e23, mh_up_row (by omega)]; exact qL i i0 i1) (fun j j0 j1 j2 => by rw [e24, mh_up_row (by omega), e23, mh_up_row (by omega), frl21 _ (by simp; omega)])
                refine mh_iconst (pc := 94) F dX11_sheet_94 ?_
                exact mh_ireturn F Z dX11_sheet_95 ⟨_, _, _, _, _, (by unfold sp_sheet; (repeat' split) <;> first | rfl | (exfalso; omega) | (rw [show w = 0 by omega]; done)), rfl, F24, (fr24.mono (by intro a ha; simp at ha ⊢; omega)), (hE.of (fr24 24 (by simp; try omega))), hSn⟩
              · refine mh_aload0 (pc := 64) F dX11_sheet_64 ?_
                refine mh_iconst (pc := 65) F dX11_sheet_65 ?_
                refine mh_callV0 (pc := 66) (As := [.int (Int32.ofInt (1))]) (st := []) F (by omega) (k8_refuse (by omega) hF rfl (by decide)) wv_RX11_90_yX11_refuse dX11_sheet_66 sh_0 rfl (by decide) rfl rfl (Nat.le_of_ble_eq_true rfl) ⟨Nat.zero_le _, Nat.zero_le _⟩ (fun r25 h25 q25 => ?_)
                obtain ⟨rfl, F25, fr25, q25_0⟩ := q25
                have fr26 : mh_fr [24] h h25 := (mh_fr.tr mh_fr.rf fr25).mono (by simp)
                have hVr : sc_V h25 s := sc_V_fr hV (fun a a1 a2 a3 a4 => fr25 a (by simp; omega))
                have hEr : sc_E h25 (mh_ur er 1 (er 1 + 1)) := hE.up (by decide) q25_0
                exact mh_ireturn F Z dX11_sheet_69 ⟨_, _, _, _, _, (by unfold sp_sheet; (repeat' split) <;> first | rfl | (exfalso; omega) | (rw [show w = 0 by omega]; done)), rfl, F25, (fr26.mono (by intro a ha; simp at ha ⊢; omega)), hEr, (hS.fr (fun a a1 a2 => fr26 a (by simp; omega)))⟩
            · refine mh_aload0 (pc := 52) F dX11_sheet_52 ?_
              refine mh_iconst (pc := 53) F dX11_sheet_53 ?_
              refine mh_callV0 (pc := 54) (As := [.int (Int32.ofInt (3))]) (st := []) F (by omega) (k8_refuse (by omega) hF rfl (by decide)) wv_RX11_90_yX11_refuse dX11_sheet_54 sh_0 rfl (by decide) rfl rfl (Nat.le_of_ble_eq_true rfl) ⟨Nat.zero_le _, Nat.zero_le _⟩ (fun r27 h27 q27 => ?_)
              obtain ⟨rfl, F27, fr27, q27_0⟩ := q27
              have fr28 : mh_fr [24] h h27 := (mh_fr.tr mh_fr.rf fr27).mono (by simp)
              have hVr : sc_V h27 s := sc_V_fr hV (fun a a1 a2 a3 a4 => fr27 a (by simp; omega))
              have hEr : sc_E h27 (mh_ur er 3 (er 3 + 1)) := hE.up (by decide) q27_0
              exact mh_ireturn F Z dX11_sheet_57 ⟨_, _, _, _, _, (by unfold sp_sheet; (repeat' split) <;> first | rfl | (exfalso; omega) | (rw [show w = 0 by omega]; done)), rfl, F27, (fr28.mono (by intro a ha; simp at ha ⊢; omega)), hEr, (hS.fr (fun a a1 a2 => fr28 a (by simp; omega)))⟩
          · refine mh_aload0 (pc := 39) F dX11_sheet_39 ?_
            refine mh_getr (b := 22) (pc := 40) F sh_0 (by decide) fw_RX11_58_11 dX11_sheet_40 rfl (fx_0_8 hF) ?_
            refine mh_iload1 (pc := 43) F dX11_sheet_43 ?_
            refine mh_iconst (pc := 44) F dX11_sheet_44 ?_
            refine mh_iastore (pc := 45) F sh_22 (by decide) (by omega) dX11_sheet_45 ?_
            refine mh_nmh (fun h29 e29 => ?_)
            have F29 : mh_FX h29 := by rw [e29]; exact hF.upa rfl
            have fr29 : mh_fr [22] h h29 := mh_fr.up mh_fr.rf e29
            have hSn : sc_S h29 (mh_ur b k 0) (mh_ur z k 0) (sp_zero k u) := sc_S_none hS (by omega) e29
            refine mh_iconst (pc := 46) F dX11_sheet_46 ?_
            exact mh_ireturn F Z dX11_sheet_47 ⟨_, _, _, _, _, (by unfold sp_sheet; (repeat' split) <;> first | rfl | (exfalso; omega) | (rw [show w = 0 by omega]; done)), rfl, F29, (fr29.mono (by intro a ha; simp at ha ⊢; omega)), (hE.of (fr29 24 (by simp; try omega))), hSn⟩
        · refine mh_iload2 (pc := 23) F dX11_sheet_23 ?_
          refine mh_bipush (pc := 24) F dX11_sheet_24 rfl ?_
          refine mh_icmp_eq (pc := 26) (tgt := 35) F dX11_sheet_26 rfl (by omega) (by omega) (fun c_26 => ?_) (fun c_26 => ?_)
          · refine mh_iload2 (pc := 35) F dX11_sheet_35 ?_
            refine mh_if_ne (pc := 36) (tgt := 48) F dX11_sheet_36 rfl (by omega) (fun c_36 => ?_) (fun c_36 => ?_)
            · refine mh_iload3 (pc := 48) F dX11_sheet_48 ?_
              refine mh_if_ge (pc := 49) (tgt := 58) F dX11_sheet_49 rfl (by omega) (fun c_49 => ?_) (fun c_49 => ?_)
              · refine mh_iload3 (pc := 58) F dX11_sheet_58 ?_
                refine mh_bipush (pc := 59) F dX11_sheet_59 rfl ?_
                refine mh_icmp_le (pc := 61) (tgt := 70) F dX11_sheet_61 rfl (by omega) (by omega) (fun c_61 => ?_) (fun c_61 => ?_)
                · refine mh_aload0 (pc := 70) F dX11_sheet_70 ?_
                  refine mh_getr (b := 17) (pc := 71) F sh_0 (by decide) fw_RX11_55_11 dX11_sheet_71 rfl (fx_0_7 hF) ?_
                  refine mh_iload1 (pc := 74) F dX11_sheet_74 ?_
                  refine mh_aaload (b := 18 + k.toNat) (pc := 75) F sh_17 (by decide) (by decide) (by omega) dX11_sheet_75 (fx_17 hF (by omega)) ?_
                  refine mh_iconst (pc := 76) F dX11_sheet_76 ?_
                  refine mh_callS0 (pc := 77) (As := [.ref (18 + k.toNat), .int (Int32.ofInt (0))]) (st := []) F (by omega) (kJ_fill (by omega) hF rfl (sc_Rk (k := k) (by omega))) ws_RX11_277 dX11_sheet_77 rfl rfl (Nat.le_of_ble_eq_true rfl) ⟨Nat.zero_le _, Nat.zero_le _⟩ (fun r30 h30 q30 => ?_)
                  obtain ⟨rfl, F30, frl30, qL⟩ := q30
                  have fr31 : mh_fr [18 + k.toNat] h h30 := (mh_fr.tr mh_fr.rf frl30).mono (by simp)
                  refine mh_aload0 (pc := 80) F dX11_sheet_80 ?_
                  refine mh_getr (b := 22) (pc := 81) F sh_0 (by decide) fw_RX11_58_11 dX11_sheet_81 rfl (fx_0_8 F30) ?_
                  refine mh_iload1 (pc := 84) F dX11_sheet_84 ?_
                  refine mh_iload2 (pc := 85) F dX11_sheet_85 ?_
                  refine mh_iastore (pc := 86) F sh_22 (by decide) (by omega) dX11_sheet_86 ?_
                  refine mh_nmh (fun h32 e32 => ?_)
                  have F32 : mh_FX h32 := by rw [e32]; exact F30.upa rfl
                  have fr32 : mh_fr [22, 18 + k.toNat] h h32 := mh_fr.up fr31 e32
                  refine mh_aload0 (pc := 87) F dX11_sheet_87 ?_
                  refine mh_getr (b := 23) (pc := 88) F sh_0 (by decide) fw_RX11_61_11 dX11_sheet_88 rfl (fx_0_9 F32) ?_
                  refine mh_iload1 (pc := 91) F dX11_sheet_91 ?_
                  refine mh_iload3 (pc := 92) F dX11_sheet_92 ?_
                  refine mh_iastore (pc := 93) F sh_23 (by decide) (by omega) dX11_sheet_93 ?_
                  refine mh_nmh (fun h33 e33 => ?_)
                  have F33 : mh_FX h33 := by rw [e33]; exact F32.upa rfl
                  have fr33 : mh_fr [23, 22, 18 + k.toNat] h h33 := mh_fr.up fr32 e33
                  have hSn : sc_S h33 (mh_ur b k w) (mh_ur z k n) (sp_zero k u) := sc_S_set hS (by omega) (by omega) (by omega) (by rw [e33, mh_up_row (by decide), e32, mh_up_rs, frl30 22 (by simp; omega)]) (by rw [e33, mh_up_rs, e32, mh_up_row (by decide), frl30 23 (by simp; omega)]) (fun i i0 i1 => by rw [e33, mh_up_row (by omega), e32, mh_up_row (by omega)]; exact qL i i0 i1) (fun j j0 j1 j2 => by rw [e33, mh_up_row (by omega), e32, mh_up_row (by omega), frl30 _ (by simp; omega)])
                  refine mh_iconst (pc := 94) F dX11_sheet_94 ?_
                  exact mh_ireturn F Z dX11_sheet_95 ⟨_, _, _, _, _, (by unfold sp_sheet; (repeat' split) <;> first | rfl | (exfalso; omega) | (rw [show w = 0 by omega]; done)), rfl, F33, (fr33.mono (by intro a ha; simp at ha ⊢; omega)), (hE.of (fr33 24 (by simp; try omega))), hSn⟩
                · refine mh_aload0 (pc := 64) F dX11_sheet_64 ?_
                  refine mh_iconst (pc := 65) F dX11_sheet_65 ?_
                  refine mh_callV0 (pc := 66) (As := [.int (Int32.ofInt (1))]) (st := []) F (by omega) (k8_refuse (by omega) hF rfl (by decide)) wv_RX11_90_yX11_refuse dX11_sheet_66 sh_0 rfl (by decide) rfl rfl (Nat.le_of_ble_eq_true rfl) ⟨Nat.zero_le _, Nat.zero_le _⟩ (fun r34 h34 q34 => ?_)
                  obtain ⟨rfl, F34, fr34, q34_0⟩ := q34
                  have fr35 : mh_fr [24] h h34 := (mh_fr.tr mh_fr.rf fr34).mono (by simp)
                  have hVr : sc_V h34 s := sc_V_fr hV (fun a a1 a2 a3 a4 => fr34 a (by simp; omega))
                  have hEr : sc_E h34 (mh_ur er 1 (er 1 + 1)) := hE.up (by decide) q34_0
                  exact mh_ireturn F Z dX11_sheet_69 ⟨_, _, _, _, _, (by unfold sp_sheet; (repeat' split) <;> first | rfl | (exfalso; omega) | (rw [show w = 0 by omega]; done)), rfl, F34, (fr35.mono (by intro a ha; simp at ha ⊢; omega)), hEr, (hS.fr (fun a a1 a2 => fr35 a (by simp; omega)))⟩
              · refine mh_aload0 (pc := 52) F dX11_sheet_52 ?_
                refine mh_iconst (pc := 53) F dX11_sheet_53 ?_
                refine mh_callV0 (pc := 54) (As := [.int (Int32.ofInt (3))]) (st := []) F (by omega) (k8_refuse (by omega) hF rfl (by decide)) wv_RX11_90_yX11_refuse dX11_sheet_54 sh_0 rfl (by decide) rfl rfl (Nat.le_of_ble_eq_true rfl) ⟨Nat.zero_le _, Nat.zero_le _⟩ (fun r36 h36 q36 => ?_)
                obtain ⟨rfl, F36, fr36, q36_0⟩ := q36
                have fr37 : mh_fr [24] h h36 := (mh_fr.tr mh_fr.rf fr36).mono (by simp)
                have hVr : sc_V h36 s := sc_V_fr hV (fun a a1 a2 a3 a4 => fr36 a (by simp; omega))
                have hEr : sc_E h36 (mh_ur er 3 (er 3 + 1)) := hE.up (by decide) q36_0
                exact mh_ireturn F Z dX11_sheet_57 ⟨_, _, _, _, _, (by unfold sp_sheet; (repeat' split) <;> first | rfl | (exfalso; omega) | (rw [show w = 0 by omega]; done)), rfl, F36, (fr37.mono (by intro a ha; simp at ha ⊢; omega)), hEr, (hS.fr (fun a a1 a2 => fr37 a (by simp; omega)))⟩
            · refine mh_aload0 (pc := 39) F dX11_sheet_39 ?_
              refine mh_getr (b := 22) (pc := 40) F sh_0 (by decide) fw_RX11_58_11 dX11_sheet_40 rfl (fx_0_8 hF) ?_
              refine mh_iload1 (pc := 43) F dX11_sheet_43 ?_
              refine mh_iconst (pc := 44) F dX11_sheet_44 ?_
              refine mh_iastore (pc := 45) F sh_22 (by decide) (by omega) dX11_sheet_45 ?_
              refine mh_nmh (fun h38 e38 => ?_)
              have F38 : mh_FX h38 := by rw [e38]; exact hF.upa rfl
              have fr38 : mh_fr [22] h h38 := mh_fr.up mh_fr.rf e38
              have hSn : sc_S h38 (mh_ur b k 0) (mh_ur z k 0) (sp_zero k u) := sc_S_none hS (by omega) e38
              refine mh_iconst (pc := 46) F dX11_sheet_46 ?_
              exact mh_ireturn F Z dX11_sheet_47 ⟨_, _, _, _, _, (by unfold sp_sheet; (repeat' split) <;> first | rfl | (exfalso; omega) | (rw [show w = 0 by omega]; done)), rfl, F38, (fr38.mono (by intro a ha; simp at ha ⊢; omega)), (hE.of (fr38 24 (by simp; try omega))), hSn⟩
          · refine mh_aload0 (pc := 29) F dX11_sheet_29 ?_
            refine mh_iconst (pc := 30) F dX11_sheet_30 ?_
            refine mh_callV0 (pc := 31) (As := [.int (Int32.ofInt (1))]) (st := []) F (by omega) (k8_refuse (by omega) hF rfl (by decide)) wv_RX11_90_yX11_refuse dX11_sheet_31 sh_0 rfl (by decide) rfl rfl (Nat.le_of_ble_eq_true rfl) ⟨Nat.zero_le _, Nat.zero_le _⟩ (fun r39 h39 q39 => ?_)
            obtain ⟨rfl, F39, fr39, q39_0⟩ := q39
            have fr40 : mh_fr [24] h h39 := (mh_fr.tr mh_fr.rf fr39).mono (by simp)
            have hVr : sc_V h39 s := sc_V_fr hV (fun a a1 a2 a3 a4 => fr39 a (by simp; omega))
            have hEr : sc_E h39 (mh_ur er 1 (er 1 + 1)) := hE.up (by decide) q39_0
            exact mh_ireturn F Z dX11_sheet_34 ⟨_, _, _, _, _, (by unfold sp_sheet; (repeat' split) <;> first | rfl | (exfalso; omega) | (rw [show w = 0 by omega]; done)), rfl, F39, (fr40.mono (by intro a ha; simp at ha ⊢; omega)), hEr, (hS.fr (fun a a1 a2 => fr40 a (by simp; omega)))⟩

set_option maxRecDepth 100000 in
set_option maxHeartbeats 2000000 in
theorem q_put {g : mh_G} {d : Nat} (hd : 8 ≤ d) {h : Nat → Int → Int} (hF : mh_FX h) {s er b z u : Int → Int} {k i x : Int} (hk : -2147483648 ≤ k ∧ k < 2147483648) (hi : -2147483648 ≤ i ∧ i < 2147483648) (hx : -2147483648 ≤ x ∧ x < 2147483648) (hV : sc_V h s) (hE : sc_E h er) (hS : sc_S h b z u) : mh_M g d yX11_put cX11_put 4 (some .int) 96 0 0 [.ref 0, .int (Int32.ofInt (k)), .int (Int32.ofInt (i)), .int (Int32.ofInt (x))] h (fun r h2 => ∃ (vv : Int) (ee uu : Int → Int), (vv, ee, uu) = sp_put k i x er b z u ∧ r = some (.int (Int32.ofInt vv)) ∧ mh_FX h2 ∧ mh_fr [18, 19, 20, 21, 24] h h2 ∧ sc_E h2 ee ∧ sc_S h2 b z uu) := by
  refine mh_M_of RX11 rfl (by decide +kernel) [some (.ref 0), some (.int (Int32.ofInt (k))), some (.int (Int32.ofInt (i))), some (.int (Int32.ofInt (x)))] rfl (Nat.le_of_ble_eq_true rfl) (fun f F Z hn0 hR => ?_)
  refine mh_iload1 (pc := 0) F dX11_put_0 ?_
  refine mh_callSp (pc := 1) (As := [.int (Int32.ofInt (k))]) (st := []) F (by omega) (k4_isSheet (by omega) (by omega)) ws_RX11_274 dX11_put_1 rfl rfl (Nat.le_of_ble_eq_true rfl) ⟨Nat.zero_le _, Nat.zero_le _⟩ ?_
  refine mh_ifb_ne (pc := 4) (tgt := 13) F dX11_put_4 rfl (fun c_4 => ?_) (fun c_4 => ?_)
  · obtain ⟨s1, s2, s3, s4⟩ := hS k (by omega) (by omega)
    refine mh_aload0 (pc := 13) F dX11_put_13 ?_
    refine mh_getr (b := 22) (pc := 14) F sh_0 (by decide) fw_RX11_58_11 dX11_put_14 rfl (fx_0_8 hF) ?_
    refine mh_iload1 (pc := 17) F dX11_put_17 ?_
    refine mh_iaload (pc := 18) F sh_22 (by decide) (by omega) dX11_put_18 ?_
    refine mh_top (y := b k) (mh_eqI s3) ?_
    refine mh_if_ne (pc := 19) (tgt := 28) F dX11_put_19 rfl (by omega) (fun c_19 => ?_) (fun c_19 => ?_)
    · refine mh_iload2 (pc := 28) F dX11_put_28 ?_
      refine mh_iconst (pc := 29) F dX11_put_29 ?_
      refine mh_aload0 (pc := 30) F dX11_put_30 ?_
      refine mh_getr (b := 23) (pc := 31) F sh_0 (by decide) fw_RX11_61_11 dX11_put_31 rfl (fx_0_9 hF) ?_
      refine mh_iload1 (pc := 34) F dX11_put_34 ?_
      refine mh_iaload (pc := 35) F sh_23 (by decide) (by omega) dX11_put_35 ?_
      refine mh_top (y := z k) (mh_eqI (s4 (by omega)).1) ?_
      refine mh_iconst (pc := 36) F dX11_put_36 ?_
      refine mh_isub (pc := 37) F dX11_put_37 ?_
      refine mh_callSp (pc := 38) (As := [.int (Int32.ofInt (i)), .int (Int32.ofInt (0)), .int (Int32.ofInt ((z k) - 1))]) (st := []) F (by omega) (k4_within (by omega) (by omega) (by omega) (by omega)) ws_RX11_82 dX11_put_38 rfl rfl (Nat.le_of_ble_eq_true rfl) ⟨Nat.zero_le _, Nat.zero_le _⟩ ?_
      refine mh_ifb_ne (pc := 41) (tgt := 50) F dX11_put_41 rfl (fun c_41 => ?_) (fun c_41 => ?_)
      · refine mh_aload0 (pc := 50) F dX11_put_50 ?_
        refine mh_getr (b := 17) (pc := 51) F sh_0 (by decide) fw_RX11_55_11 dX11_put_51 rfl (fx_0_7 hF) ?_
        refine mh_iload1 (pc := 54) F dX11_put_54 ?_
        refine mh_aaload (b := 18 + k.toNat) (pc := 55) F sh_17 (by decide) (by decide) (by omega) dX11_put_55 (fx_17 hF (by omega)) ?_
        refine mh_iload2 (pc := 56) F dX11_put_56 ?_
        refine mh_aload0 (pc := 57) F dX11_put_57 ?_
        refine mh_getr (b := 22) (pc := 58) F sh_0 (by decide) fw_RX11_58_11 dX11_put_58 rfl (fx_0_8 hF) ?_
        refine mh_iload1 (pc := 61) F dX11_put_61 ?_
        refine mh_iaload (pc := 62) F sh_22 (by decide) (by omega) dX11_put_62 ?_
        refine mh_top (y := b k) (mh_eqI s3) ?_
        refine mh_bipush (pc := 63) F dX11_put_63 rfl ?_
        refine mh_icmp_ne (pc := 65) (tgt := 72) F dX11_put_65 rfl (by omega) (by omega) (fun c_65 => ?_) (fun c_65 => ?_)
        · refine mh_iload3 (pc := 72) F dX11_put_72 ?_
          refine mh_iconst (pc := 73) F dX11_put_73 ?_
          refine mh_aload0 (pc := 74) F dX11_put_74 ?_
          refine mh_getr (b := 22) (pc := 75) F sh_0 (by decide) fw_RX11_58_11 dX11_put_75 rfl (fx_0_8 hF) ?_
          refine mh_iload1 (pc := 78) F dX11_put_78 ?_
          refine mh_iaload (pc := 79) F sh_22 (by decide) (by omega) dX11_put_79 ?_
          refine mh_top (y := b k) (mh_eqI s3) ?_
          refine mh_ishl (pc := 80) F dX11_put_80 ?_
          refine mh_iconst (pc := 81) F dX11_put_81 ?_
          refine mh_isub (pc := 82) F dX11_put_82 ?_
          refine mh_iand (pc := 83) F dX11_put_83 ?_
          refine mh_iastore (pc := 84) F (sc_Rk (k := k) (by omega)).sh (by omega) (by omega) dX11_put_84 ?_
          refine mh_nmh (fun h1 e1 => ?_)
          have F1 : mh_FX h1 := by rw [e1]; exact hF.ups (sc_Rk (k := k) (by omega)).fx
          have fr1 : mh_fr [18 + k.toNat] h h1 := mh_fr.up mh_fr.rf e1
          have hSn : sc_S h1 b z (mh_ur u (40 * k + i) (if b k = 8 then mh_i8 x else if b k = 16 then mh_i16 x else x)) := sc_S_put hS (by omega) (by omega) e1 (by rcases (show b k = 8 ∨ b k = 16 by omega) with y | y; rw [if_pos y, y]; exact sc_i8_mod (by omega); rw [if_neg (by omega), if_pos y, y]; exact sc_i16_mod (by omega))
          refine mh_iconst (pc := 85) F dX11_put_85 ?_
          exact mh_ireturn F Z dX11_put_86 ⟨_, _, _, (by have hl : sp_lacks k b = 0 := (by unfold sp_lacks; rw [if_neg (by omega), if_neg (by omega)]); unfold sp_put; rw [hl]; exact ((if_neg (by decide)).trans (if_neg (by omega))).symm), rfl, F1, (fr1.mono (by intro a ha; simp at ha ⊢; omega)), (hE.of (fr1 24 (by simp; try omega))), hSn⟩
        · refine mh_iload3 (pc := 68) F dX11_put_68 ?_
          refine mh_goto (pc := 69) (tgt := 84) F dX11_put_69 rfl ?_
          refine mh_iastore (pc := 84) F (sc_Rk (k := k) (by omega)).sh (by omega) (by omega) dX11_put_84 ?_
          refine mh_nmh (fun h2 e2 => ?_)
          have F2 : mh_FX h2 := by rw [e2]; exact hF.ups (sc_Rk (k := k) (by omega)).fx
          have fr2 : mh_fr [18 + k.toNat] h h2 := mh_fr.up mh_fr.rf e2
          have hSn : sc_S h2 b z (mh_ur u (40 * k + i) (if b k = 8 then mh_i8 x else if b k = 16 then mh_i16 x else x)) := sc_S_put hS (by omega) (by omega) e2 (by rw [if_neg (by omega), if_neg (by omega), show b k = 32 by omega]; exact Or.inr (Or.inr ⟨rfl, by omega, by omega, rfl⟩))
          refine mh_iconst (pc := 85) F dX11_put_85 ?_
          exact mh_ireturn F Z dX11_put_86 ⟨_, _, _, (by have hl : sp_lacks k b = 0 := (by unfold sp_lacks; rw [if_neg (by omega), if_neg (by omega)]); unfold sp_put; rw [hl]; exact ((if_neg (by decide)).trans (if_neg (by omega))).symm), rfl, F2, (fr2.mono (by intro a ha; simp at ha ⊢; omega)), (hE.of (fr2 24 (by simp; try omega))), hSn⟩
      · refine mh_aload0 (pc := 44) F dX11_put_44 ?_
        refine mh_iconst (pc := 45) F dX11_put_45 ?_
        refine mh_callV0 (pc := 46) (As := [.int (Int32.ofInt (1))]) (st := []) F (by omega) (k8_refuse (by omega) hF rfl (by decide)) wv_RX11_90_yX11_refuse dX11_put_46 sh_0 rfl (by decide) rfl rfl (Nat.le_of_ble_eq_true rfl) ⟨Nat.zero_le _, Nat.zero_le _⟩ (fun r3 h3 q3 => ?_)
        obtain ⟨rfl, F3, fr3, q3_0⟩ := q3
        have fr4 : mh_fr [24] h h3 := (mh_fr.tr mh_fr.rf fr3).mono (by simp)
        have hVr : sc_V h3 s := sc_V_fr hV (fun a a1 a2 a3 a4 => fr3 a (by simp; omega))
        have hEr : sc_E h3 (mh_ur er 1 (er 1 + 1)) := hE.up (by decide) q3_0
        exact mh_ireturn F Z dX11_put_49 ⟨_, _, _, (by unfold sp_put sp_lacks; (repeat' split) <;> first | rfl | (exfalso; omega)), rfl, F3, (fr4.mono (by intro a ha; simp at ha ⊢; omega)), hEr, (hS.fr (fun a a1 a2 => fr4 a (by simp; omega)))⟩
    · refine mh_aload0 (pc := 22) F dX11_put_22 ?_
      refine mh_iconst (pc := 23) F dX11_put_23 ?_
      refine mh_callV0 (pc := 24) (As := [.int (Int32.ofInt (2))]) (st := []) F (by omega) (k8_refuse (by omega) hF rfl (by decide)) wv_RX11_90_yX11_refuse dX11_put_24 sh_0 rfl (by decide) rfl rfl (Nat.le_of_ble_eq_true rfl) ⟨Nat.zero_le _, Nat.zero_le _⟩ (fun r5 h5 q5 => ?_)
      obtain ⟨rfl, F5, fr5, q5_0⟩ := q5
      have fr6 : mh_fr [24] h h5 := (mh_fr.tr mh_fr.rf fr5).mono (by simp)
      have hVr : sc_V h5 s := sc_V_fr hV (fun a a1 a2 a3 a4 => fr5 a (by simp; omega))
      have hEr : sc_E h5 (mh_ur er 2 (er 2 + 1)) := hE.up (by decide) q5_0
      exact mh_ireturn F Z dX11_put_27 ⟨_, _, _, (by unfold sp_put sp_lacks; (repeat' split) <;> first | rfl | (exfalso; omega)), rfl, F5, (fr6.mono (by intro a ha; simp at ha ⊢; omega)), hEr, (hS.fr (fun a a1 a2 => fr6 a (by simp; omega)))⟩
  · refine mh_aload0 (pc := 7) F dX11_put_7 ?_
    refine mh_iconst (pc := 8) F dX11_put_8 ?_
    refine mh_callV0 (pc := 9) (As := [.int (Int32.ofInt (1))]) (st := []) F (by omega) (k8_refuse (by omega) hF rfl (by decide)) wv_RX11_90_yX11_refuse dX11_put_9 sh_0 rfl (by decide) rfl rfl (Nat.le_of_ble_eq_true rfl) ⟨Nat.zero_le _, Nat.zero_le _⟩ (fun r7 h7 q7 => ?_)
    obtain ⟨rfl, F7, fr7, q7_0⟩ := q7
    have fr8 : mh_fr [24] h h7 := (mh_fr.tr mh_fr.rf fr7).mono (by simp)
    have hVr : sc_V h7 s := sc_V_fr hV (fun a a1 a2 a3 a4 => fr7 a (by simp; omega))
    have hEr : sc_E h7 (mh_ur er 1 (er 1 + 1)) := hE.up (by decide) q7_0
    exact mh_ireturn F Z dX11_put_12 ⟨_, _, _, (by unfold sp_put sp_lacks; (repeat' split) <;> first | rfl | (exfalso; omega)), rfl, F7, (fr8.mono (by intro a ha; simp at ha ⊢; omega)), hEr, (hS.fr (fun a a1 a2 => fr8 a (by simp; omega)))⟩

