/-! the law: its script, its comparisons -/
def mh_cx (xs : Nat → Int32) (j : Int) : Int := (xs j.toNat).toInt
theorem mh_cxR (xs : Nat → Int32) (j : Int) : -2147483648 ≤ mh_cx xs j ∧ mh_cx xs j < 2147483648 := ⟨Int32.le_toInt _, Int32.toInt_lt _⟩
section
variable {g : mh_G} {f : mh_F} {own : String} {cc : ByteArray} {nL d n cl sl pc : Nat} {loc : List (Option Value)} {st : List Value} {h : Nat → Int → Int}
/-- where the script lies -/
def mh_scr (g : mh_G) (f : mh_F) (b L : Nat) (xs : Nat → Int32) : Prop := va_X b L xs (mh_s f) (mh_s f).heap ∧ b < (mh_s f).heap.size ∧ b < mh_b g ∧ mh_sa g 9 = b ∧ L ≤ 3072
theorem mh_sld (F : mh_Fr g f own cc nL d) {b L : Nat} {xs : Nat → Int32} (hX : mh_scr g f b L xs) {j : Int} (hj : 0 ≤ j ∧ j < (L : Int)) (hd : decode cc pc = .ok (.iaload, 1)) (k : mh_V g f nL n cl sl (pc + 1) loc (.int (Int32.ofInt (mh_cx xs j)) :: st) h) : mh_V g f nL n cl sl pc loc (.int (Int32.ofInt j) :: .ref 1000009 :: st) h := by
  intro H locs ls h1 h2 h3
  obtain ⟨x1, x2, x3, x4, x5⟩ := hX
  have k3 := k H locs ls h1 h2 h3
  have ea : mh_ad g 1000009 = b := (mh_S_ad g 9).trans x4
  show W _ _ _ _ _ _ _ _ _ _ _ _ _ _ _ (F0 _ _ _ (.int (Int32.ofInt j) :: .ref (mh_ad g 1000009) :: _))
  rw [ea]
  refine va_sld F.exec F.code x1 x2 (show ¬ mh_b g ≤ b by omega) h2 (mh_in hj.1 hj.2 (by omega)) hd ?_
  rw [mh_clamp hj.1 (by omega)]
  have e : Int32.ofInt (mh_cx xs j) = xs j.toNat := Int32.ofInt_toInt _
  rw [← e]
  exact k3
theorem mh_slen (F : mh_Fr g f own cc nL d) {b L : Nat} {xs : Nat → Int32} (hX : mh_scr g f b L xs) (hd : decode cc pc = .ok (.arraylength, 1)) (k : mh_V g f nL n cl sl (pc + 1) loc (.int (Int32.ofInt (L : Int)) :: st) h) : mh_V g f nL n cl sl pc loc (.ref 1000009 :: st) h := by
  intro H locs ls h1 h2 h3
  obtain ⟨x1, x2, x3, x4, x5⟩ := hX
  have k3 := k H locs ls h1 h2 h3
  have ea : mh_ad g 1000009 = b := (mh_S_ad g 9).trans x4
  show W _ _ _ _ _ _ _ _ _ _ _ _ _ _ _ (F0 _ _ _ (.ref (mh_ad g 1000009) :: _))
  rw [ea]
  refine va_slen F.exec F.code x1 x2 (show ¬ mh_b g ≤ b by omega) h2 hd ?_
  rw [← Int32.ofInt_eq_ofNat]
  exact k3
theorem mh_same (F : mh_Fr g f own cc nL d) {x off : Int} {tgt : Nat} (hd : decode cc pc = .ok (.if_icmp .eq off, 3)) (ht : (pc : Int) + off = (tgt : Int)) (k : mh_V g f nL n cl sl tgt loc st h) : mh_V g f nL n cl sl pc loc (.int (Int32.ofInt x) :: .int (Int32.ofInt x) :: st) h := fun H locs ls h1 h2 h3 =>
  lv_icmp_eq F.exec F.code hd ht (fun _ => k H locs ls h1 h2 h3) (fun z => absurd rfl z)
theorem mh_sameL (F : mh_Fr g f own cc nL d) {x : Int} (hd : decode cc pc = .ok (.lcmp, 1)) (k : mh_V g f nL n cl sl (pc + 1) loc (.int (Int32.ofInt 0) :: st) h) : mh_V g f nL n cl sl pc loc (.long (Int64.ofInt x) :: .long (Int64.ofInt x) :: st) h := fun H locs ls h1 h2 h3 => by
  refine W.lcmp F.exec F.code hd ?_
  have e : lg_cmp (Int64.ofInt x) (Int64.ofInt x) = Int32.ofInt 0 := by simp [lg_cmp]
  rw [e]
  exact k H locs ls h1 h2 h3
end
theorem sl_voice {k a x : Int} {s er o v : Int → Int} (h22 : 0 ≤ o 22 ∧ o 22 ≤ 40) : (sp_voice k a x s er o v).2.2.1 3 = o 3 ∧ (sp_voice k a x s er o v).2.2.1 4 = o 4 ∧ (0 ≤ (sp_voice k a x s er o v).2.2.1 22 ∧ (sp_voice k a x s er o v).2.2.1 22 ≤ 40) := by
  have key : ∀ (L : List Int) (κ n m : Int), (sp_rns L (sp_o5 o κ n m, v)).1 3 = o 3 ∧ (sp_rns L (sp_o5 o κ n m, v)).1 4 = o 4 ∧ (0 ≤ (sp_rns L (sp_o5 o κ n m, v)).1 22 ∧ (sp_rns L (sp_o5 o κ n m, v)).1 22 ≤ 40) := by
    intro L κ n m
    have e22 : sp_o5 o κ n m 22 = 0 := by unfold sp_o5; rw [mh_ur_ne (by decide), mh_ur_ne (by decide), mh_ur_ne (by decide), mh_ur_eq rfl]
    have q := sp_rns_out L (sp_o5 o κ n m, v) (by show 0 ≤ sp_o5 o κ n m 22 ∧ sp_o5 o κ n m 22 ≤ 40; omega)
    refine ⟨(q.1 3 (by decide)).trans ?_, (q.1 4 (by decide)).trans ?_, q.2⟩
    · show sp_o5 o κ n m 3 = _
      unfold sp_o5; rw [mh_ur_ne (by decide), mh_ur_ne (by decide), mh_ur_ne (by decide), mh_ur_ne (by decide)]
    · show sp_o5 o κ n m 4 = _
      unfold sp_o5; rw [mh_ur_ne (by decide), mh_ur_ne (by decide), mh_ur_ne (by decide), mh_ur_ne (by decide)]
  unfold sp_voice
  split
  · exact ⟨rfl, rfl, h22⟩
  · split
    · exact key _ _ _ _
    · split
      · exact key _ _ _ _
      · split
        · exact key _ _ _ _
        · exact key _ _ _ _
theorem sl_X_chk {h h2 : Nat → Int → Int} {s er : Int → Int} (H : sc_X h s) (e1 : h2 32 = h 32) : sc_X h2 (sp_checkP s er).2.1 := by
  show sc_X h2 (mh_ur s 5 0)
  refine ⟨fun i i0 i1 => ?_, fun i i0 i1 => ?_⟩
  · rw [mh_ur_ne (by decide)] at i1
    rw [e1, mh_ur_ne (by omega)]; exact H.1 i i0 i1
  · rw [mh_ur_eq rfl] at i1; omega
theorem sl_X_txt {h h2 : Nat → Int → Int} {s er fr : Int → Int} {u : Int} (hs : sl_A s) (H : sc_X h s) (e1 : h2 32 = h 32) (e2 : h2 43 = h 43) : sc_X h2 (sp_text u s er fr).2.1 := by
  have hb : sx_by s := ⟨hs.2.1.2.1, hs.2.1.2.2.2.1⟩
  have h5 := hs.2.1.2.2.1
  unfold sp_text
  split
  · exact H.of e1 e2
  · rename_i c1
    have hu : 0 ≤ u ∧ u ≤ 1 := Decidable.of_not_not c1
    have key : ∀ t : Int → Int, t 4 = 0 → t 5 = s 5 → (∀ i, 247 ≤ i → i < 267 → t i = s i) → sc_X h2 t := fun t t4 t5 te => ⟨fun i i0 i1 => by omega, fun i i0 i1 => by rw [e2, te _ (by omega) (by omega)]; exact H.2 i i0 (by omega)⟩
    split
    · show sc_X h2 (mh_ur s 4 0)
      exact key (mh_ur s 4 0) (mh_ur_eq rfl) (mh_ur_ne (by decide)) (fun i i0 i1 => mh_ur_ne (by omega))
    · rename_i c2
      have hg : sx_gr s (0, 0, 0, fr) (sx_r s fr u) := sx_r_ok hb
      generalize sx_r s fr u = q at c2 hg ⊢
      obtain ⟨p1, p2, p3⟩ := sx_pv_x hg.1
      have hb1 := hb.1
      show sc_X h2 (sx_cdx s q.2.2.2 u q.2.2.1 q.2.2.1)
      exact key (sx_cdx s q.2.2.2 u q.2.2.1 q.2.2.1) (by unfold sx_cdx; rw [if_pos rfl]) (sc_cdx_o hu (by omega) (by decide) (by omega) (by omega)) (fun i i0 i1 => sc_cdx_o hu (by omega) (by omega) (by omega) (by omega))
theorem sl_rest_A {s er kp o : Int → Int} (h : sl_A s) (hk : o 3 = 1 → sl_A kp) (h3 : o 3 = 0 ∨ o 3 = 1) : sl_A (sp_restore s er kp o).2.1 := by
  unfold sp_restore
  split
  · exact h
  · exact sl_cp (hk (by omega))

