/-! the law's loop: what holds at its head -/
theorem sl_ld {p : Int → Bool} (n : Nat) : (0 ≤ sp_ld p n ∧ sp_ld p n ≤ (n : Int)) ∧ ∀ i : Nat, (i : Int) < sp_ld p n → p (i : Int) = true := by
  induction n with
  | zero => exact ⟨⟨Int.le_refl _, Int.le_refl _⟩, fun i hi => absurd (show (i : Int) < 0 from hi) (by omega)⟩
  | succ n ih =>
    unfold sp_ld
    split
    · rename_i c
      refine ⟨⟨by omega, by omega⟩, fun i hi => ?_⟩
      rcases (show i = n ∨ i < n by omega) with z | z
      · rw [z]; exact c.2
      · exact ih.2 i (by omega)
    · exact ⟨⟨ih.1.1, by omega⟩, ih.2⟩
theorem sl_hts {s u : Int → Int} {k : Int} (h : sl_A s) (n : Nat) (hn : n ≤ 9) (hp : ∀ i : Nat, i < n → 0 ≤ u (40 * k + (i : Int)) ∧ u (40 * k + (i : Int)) ≤ 40) : sl_A (sp_hts s u k n) ∧ sl_X s (sp_hts s u k n) := by
  induction n with
  | zero => exact ⟨h, sl_X.rf⟩
  | succ n ih =>
    obtain ⟨a, b⟩ := ih (by omega) (fun i hi => hp i (by omega))
    have q := hp n (by omega)
    show sl_A (mh_ur (sp_hts s u k n) (6 + 3 * (n : Int) + 0) (u (40 * k + (n : Int)))) ∧ sl_X s (mh_ur (sp_hts s u k n) (6 + 3 * (n : Int) + 0) (u (40 * k + (n : Int))))
    have X : sl_X (sp_hts s u k n) (mh_ur (sp_hts s u k n) (6 + 3 * (n : Int) + 0) (u (40 * k + (n : Int)))) := ⟨mh_ur_ne (by omega), mh_ur_ne (by omega), fun i i0 i1 => mh_ur_ne (by omega)⟩
    exact ⟨a.to (sp_inv_hh a.1 (by omega) (by decide) (by rw [if_pos rfl]; exact q)) (by rw [mh_ur_ne (by omega)]; exact a.2.1.1) X (mh_ur_ne (by omega)) (sl_D.eq (fun i i0 i1 => mh_ur_ne (by omega))) (fun b b0 b1 => mh_ur_ne (by omega)), b.tr X⟩
theorem sl_heats {s er b z u : Int → Int} {k : Int} (h : sl_A s) : sl_A (sp_heats k s er b z u).2.1 ∧ sl_X s (sp_heats k s er b z u).2.1 := by
  unfold sp_heats
  split
  · exact ⟨h, sl_X.rf⟩
  · have q := sl_ld (p := sp_hp u k) (min (z k) 9).toNat
    exact sl_hts h _ (by omega) (fun i hi => of_decide_eq_true (q.2 i (by omega)))
theorem sl_A.cong {s t : Int → Int} (h : sl_A s) (e : ∀ i, 0 ≤ i → i < 267 → t i = s i) : sl_A t := by
  have X : sl_X s t := ⟨e 4 (by decide) (by decide), e 5 (by decide) (by decide), fun i i0 i1 => e i (by omega) (by omega)⟩
  obtain ⟨a1, a2, a3, ⟨a4, a5⟩, a6, a7, a8⟩ := h.1
  refine h.to ⟨by rw [e 3 (by decide) (by decide)]; exact a1, by rw [e 0 (by decide) (by decide)]; exact a2, by rw [e 1 (by decide) (by decide)]; exact a3, ⟨fun k k0 k1 => ?_, fun k k0 k1 => ?_⟩, fun k k0 k1 => ?_, ?_, ?_⟩ (by rw [e 0 (by decide) (by decide)]; exact h.2.1.1) X (e 3 (by decide) (by decide)) (sl_D.eq (fun i i0 i1 => e i (by omega) (by omega))) (fun a a0 a1 => e _ (by omega) (by omega))
  · rw [e _ (by omega) (by omega), e _ (by omega) (by omega), e _ (by omega) (by omega)]; exact a4 k k0 k1
  · rw [e _ (by omega) (by omega), e _ (by omega) (by omega)]; exact a5 k k0 k1
  · have q := a6 k k0 k1
    unfold sp_cok sp_row at q ⊢
    rw [e (41 + 9 * k + 0) (by omega) (by omega), e (41 + 9 * k + 1) (by omega) (by omega), e (41 + 9 * k + 2) (by omega) (by omega), e (41 + 9 * k + 3) (by omega) (by omega), e (41 + 9 * k + 4) (by omega) (by omega), e (41 + 9 * k + 5) (by omega) (by omega), e (41 + 9 * k + 6) (by omega) (by omega), e (41 + 9 * k + 7) (by omega) (by omega), e (41 + 9 * k + 8) (by omega) (by omega)]
    exact q
  · rw [e 95 (by decide) (by decide)]
    exact sp_wf_eq a7 (fun k hk => by have := a7.2.1; exact e _ (by omega) (by omega))
  · rw [e 96 (by decide) (by decide)]
    exact sp_wf_eq a8 (fun k hk => by have := a8.2.1; exact e _ (by omega) (by omega))
theorem sl_cp {s kp : Int → Int} (h : sl_A kp) : sl_A (mh_cp 267 kp s) := h.cong (fun i i0 i1 => if_pos ⟨i0, i1⟩)
/-- the sheets' numbers are ints -/
def sl_U (u : Int → Int) : Prop := ∀ p, 0 ≤ p → p < 160 → -2147483648 ≤ u p ∧ u p < 2147483648
theorem sl_U_sheet {k w n : Int} {er b z u : Int → Int} (h : sl_U u) : sl_U (sp_sheet k w n er b z u).2.2.2.2 := by
  unfold sp_sheet
  split
  · exact h
  · split
    · exact h
    · split
      · exact h
      · intro p p0 p1
        show -2147483648 ≤ sp_zero k u p ∧ sp_zero k u p < 2147483648
        unfold sp_zero
        split
        · decide
        · exact h p p0 p1
theorem sl_U_put {k i x : Int} {er b z u : Int → Int} (hx : -2147483648 ≤ x ∧ x < 2147483648) (h : sl_U u) : sl_U (sp_put k i x er b z u).2.2 := by
  unfold sp_put
  split
  · exact h
  · split
    · exact h
    · intro p p0 p1
      show -2147483648 ≤ mh_ur u _ _ p ∧ mh_ur u _ _ p < _
      by_cases y : p = 40 * k + i
      · rw [mh_ur_eq y]
        have e1 := sc_i8_rg x
        have a := (Int32.ofInt x).toInt16.le_toInt
        have b := (Int32.ofInt x).toInt16.toInt_lt
        have e2 : -32768 ≤ mh_i16 x ∧ mh_i16 x < 32768 := ⟨a, b⟩
        split
        · omega
        · split <;> omega
      · rw [mh_ur_ne y]; exact h p p0 p1
theorem sl_U_move {k i l j n : Int} {er b z u : Int → Int} (hz : ∀ j, 0 ≤ j → j < 4 → 0 ≤ z j ∧ z j ≤ 40) (h : sl_U u) : sl_U (sp_move k i l j n er b z u).2.2 := by
  unfold sp_move
  split
  · exact h
  · split
    · exact h
    · split
      · exact h
      · split
        · exact h
        · rename_i c1 c2 c3 c4
          intro p p0 p1
          have d1 : (0 ≤ k ∧ k ≤ 3) ∧ (0 ≤ l ∧ l ≤ 3) := Decidable.of_not_not c1
          have d4 : 0 ≤ n ∧ 0 ≤ i ∧ 0 ≤ j ∧ i + n ≤ z k ∧ j + n ≤ z l := Decidable.of_not_not c4
          have z1 := hz k d1.1.1 (by omega)
          show -2147483648 ≤ (if _ then _ else _) ∧ (if _ then _ else _) < _
          split
          · exact h _ (by omega) (by omega)
          · exact h p p0 p1
/-- the class's side -/
def sl_C (h : Nat → Int → Int) (s er o kp b z u v : Int → Int) : Prop := sc_V h s ∧ sc_E h er ∧ sc_KN h ∧ sc_X h s ∧ sc_KP h ∧ sc_I h o ∧ sc_K h kp o ∧ sc_S h b z u ∧ sc_Tr h o v
theorem sc_KP.fr2 {h h2 : Nat → Int → Int} (H : sc_KP h) (e : ∀ a, a = 32 ∨ (50 ≤ a ∧ a ≤ 74) → h2 a = h a) : sc_KP h2 := by
  obtain ⟨a1, a2, a3, a4, a5⟩ := H
  exact ⟨fun j j0 j1 => by rw [e _ (by omega)]; exact a1 j j0 j1, by rw [e _ (by omega)]; exact a2, by rw [e _ (by omega)]; exact a3, by rw [e 32 (by omega)]; exact a4, by rw [e 57 (by omega)]; exact a5⟩
theorem sc_K.fr2 {h h2 : Nat → Int → Int} {kp o : Int → Int} (H : sc_K h kp o) (e : ∀ a, 50 ≤ a ∧ a ≤ 74 → h2 a = h a) : sc_K h2 kp o := fun z => by
  obtain ⟨a, ⟨b1, b2, b3⟩, c1, c2⟩ := H z
  refine ⟨a, ⟨b1.of (fun x hx => e x (by omega)), fun j j0 j1 => ?_, ?_⟩, ?_, ?_⟩
  · rw [e _ (by omega)]; exact b2 j j0 j1
  · unfold sc_N; rw [e 50 (by omega)]; exact b3
  · rw [e (50 + 7) (by omega)]; exact c1
  · rw [e (50 + 18) (by omega)]; exact c2
theorem sc_Tr.fr2 {h h2 : Nat → Int → Int} {o v : Int → Int} (H : sc_Tr h o v) (e : h2 16 = h 16) : sc_Tr h2 o v := by unfold sc_Tr; rw [e]; exact H
theorem sc_I.fr2 {h h2 : Nat → Int → Int} {o : Int → Int} (H : sc_I h o) (e : h2 0 = h 0) : sc_I h2 o := by unfold sc_I; rw [e]; exact H
theorem sl_C.step {h h2 : Nat → Int → Int} {s t er ee o kp b z u v : Int → Int} (H : sl_C h s er o kp b z u v) (e : ∀ a, a ≤ 8 ∨ a = 16 ∨ (18 ≤ a ∧ a ≤ 23) ∨ a = 32 ∨ (50 ≤ a ∧ a ≤ 74) → h2 a = h a) (hV : sc_V h2 t) (hE : sc_E h2 ee) (hX : sc_X h2 t) : sl_C h2 t ee o kp b z u v := by
  obtain ⟨a1, a2, a3, a4, a5, a6, a7, a8, a9⟩ := H
  exact ⟨hV, hE, a3.fr (fun a ha => e a (by omega)), hX, a5.fr2 (fun a ha => e a (by omega)), a6.fr2 (e 0 (by omega)), a7.fr2 (fun a ha => e a (by omega)), a8.fr (fun a a0 a1 => e a (by omega)), a9.fr2 (e 16 (by omega))⟩
theorem sc_X_of {h h2 : Nat → Int → Int} {s t : Int → Int} (H : sc_X h s) (e1 : h2 32 = h 32) (e2 : h2 43 = h 43) (X : sl_X s t) (h4 : s 4 ≤ 50) (h5 : s 5 ≤ 20) : sc_X h2 t := by
  obtain ⟨x4, x5, xi⟩ := X
  refine ⟨fun i i0 i1 => ?_, fun i i0 i1 => ?_⟩
  · rw [e1, xi _ (by omega) (by omega)]; exact H.1 i i0 (by omega)
  · rw [e2, xi _ (by omega) (by omega)]; exact H.2 i i0 (by omega)
theorem sl_C.fr {h h2 : Nat → Int → Int} {s er o kp b z u v : Int → Int} (H : sl_C h s er o kp b z u v) (e : ∀ a, a ≤ 80 → h2 a = h a) : sl_C h2 s er o kp b z u v :=
  H.step (fun a ha => e a (by omega)) (sc_V_fr H.1 (fun a a0 a1 a2 a3 => e a (by omega))) (H.2.1.of (e 24 (by decide))) (H.2.2.2.1.of (e 32 (by decide)) (e 43 (by decide)))
theorem sl_C.o {h : Nat → Int → Int} {s er o o2 kp b z u v : Int → Int} (H : sl_C h s er o kp b z u v) (e3 : o2 3 = o 3) (e4 : o2 4 = o 4) (e22 : o2 22 = o 22) : sl_C h s er o2 kp b z u v := by
  obtain ⟨a1, a2, a3, a4, a5, a6, a7, a8, a9⟩ := H
  refine ⟨a1, a2, a3, a4, a5, ?_, ?_, a8, ?_⟩
  · unfold sc_I; rw [e3, e4]; exact a6
  · unfold sc_K; rw [e3]; exact a7
  · unfold sc_Tr; rw [e22]; exact a9
def LIx (i : Int) (h : Nat → Int → Int) (s er o kp b z u v : Int → Int) : Prop := mh_FX h ∧ (h 82 = s ∧ h 85 = er ∧ h 81 = o ∧ h 83 = kp ∧ h 91 = v ∧ h 92 = b ∧ h 93 = z ∧ h 94 = u) ∧ sl_C h s er o kp b z u v ∧ sl_A s ∧ (o 3 = 1 → sl_A kp) ∧ (0 ≤ o 22 ∧ o 22 ≤ 40) ∧ sl_U u ∧ o 4 ≤ i
def LI (i : Int) (h : Nat → Int → Int) : Prop := ∃ s er o kp b z u v, LIx i h s er o kp b z u v

