/-! relays: the table -/
theorem sp_lby_rg2 {s wm T : Int → Int} {k n a t x b c : Int} (hk : 0 ≤ k ∧ k < 6) (hi : sp_inv s) (hx : 0 ≤ x ∧ x < 60) (hc : 0 ≤ c ∧ c < 4) : 0 ≤ sp_then s k x c ∧ 1 ≤ s (33 + 2 * c) := by
  have hcc := hi.2.2.2.2.1 k hk.1 hk.2
  obtain ⟨hH, hC⟩ := hi.2.2.2.1
  obtain ⟨c0, c1, c2⟩ := hcc
  unfold sp_row at c0 c1
  have hsh := (hC c hc.1 hc.2).2
  have hpc := (hC c hc.1 hc.2).1
  have hjl := sp_jolts_rg (k := s (41 + 9 * k + 0)) c1 hsh
  have hpj := mh_mulp (p := s (33 + 2 * c)) (q := sp_jolts (s (41 + 9 * k + 0)) (s (41 + 9 * k + 1)) (s (33 + 2 * c + 1))) (by omega) (by omega)
  unfold sp_then
  omega
/-- two tables say the same of a hill, as far as n -/
def sp_lsame (T V : Int → Int) (n a : Int) : Prop := ∀ t x, 0 ≤ t → t ≤ n → 0 ≤ x → x < 60 → T ((a * 61 + t) * 60 + x) = V ((a * 61 + t) * 60 + x)
theorem sp_lby_same {s wm T V : Int → Int} {k n a t x b c : Int} (hk : 0 ≤ k ∧ k < 6) (hi : sp_inv s) (ht : 0 ≤ t) (hx : 0 ≤ x ∧ x < 60) (hb : 0 ≤ b ∧ b < 3) (hc : 0 ≤ c ∧ c < 4) (h : sp_lsame T V n (a + 1)) : sp_lby s wm T k n a t x b c = sp_lby s wm V k n a t x b c := by
  have hq := sp_lby_rg2 (T := T) (wm := wm) (n := n) (a := a) (t := t) (b := b) hk hi hx hc
  unfold sp_lby sp_lbr
  by_cases hz : n < t + b + s (33 + 2 * c) ∨ 60 ≤ sp_then s k x c
  · rw [if_pos hz, if_pos hz]
  · rw [if_neg hz, if_neg hz, h (t + b + s (33 + 2 * c)) (sp_then s k x c) (by omega) (by omega) (by omega) (by omega)]
theorem sp_lf_same {s wm T V : Int → Int} {k n a t x : Int} (hk : 0 ≤ k ∧ k < 6) (hi : sp_inv s) (ht : 0 ≤ t) (hx : 0 ≤ x ∧ x < 60) (h : sp_lsame T V n (a + 1)) (w : Nat) (hw : w ≤ 12) : sp_lf s wm T k n a t x w = sp_lf s wm V k n a t x w := by
  induction w with
  | zero => rfl
  | succ w ih =>
    show sp_lfw s wm T k n a t x (w : Int) (sp_lf s wm T k n a t x w) = sp_lfw s wm V k n a t x (w : Int) (sp_lf s wm V k n a t x w)
    rw [ih (by omega)]
    unfold sp_lfw
    have hw4 : (w : Int).tdiv 4 = (w : Int) / 4 := Int.tdiv_eq_ediv_of_nonneg (by omega)
    have hw5 : (w : Int).tmod 4 = (w : Int) % 4 := Int.tmod_eq_emod_of_nonneg (by omega)
    rw [sp_lby_same (V := V) hk hi ht hx (by omega) (by omega) h]
theorem sp_lf_rg {s wm T : Int → Int} {k n a t x : Int} (hk : 0 ≤ k ∧ k < 6) (hi : sp_inv s) (hn : 0 ≤ n ∧ n ≤ 60) (ha : 0 ≤ a ∧ a < 9) (ht : 0 ≤ t ∧ t ≤ 60) (hx : 0 ≤ x ∧ x < 60) (hwm : sp_wmr wm) (hT : sp_lok T n (a + 1)) (w : Nat) (hw : w ≤ 12) : 0 ≤ (sp_lf s wm T k n a t x w).1 ∧ (sp_lf s wm T k n a t x w).1 ≤ 1000000 ∧ -1 ≤ (sp_lf s wm T k n a t x w).2 ∧ ((sp_lf s wm T k n a t x w).1 = 1000000 ∨ (0 ≤ (sp_lf s wm T k n a t x w).2 ∧ (sp_lf s wm T k n a t x w).2 ≤ 23)) := by
  induction w with
  | zero => exact ⟨(by decide : (0 : Int) ≤ 1000000), Int.le_refl _, Int.le_refl _, Or.inl rfl⟩
  | succ w ih =>
    have ih := ih (by omega)
    have hw4 : (w : Int).tdiv 4 = (w : Int) / 4 := Int.tdiv_eq_ediv_of_nonneg (by omega)
    have hw5 : (w : Int).tmod 4 = (w : Int) % 4 := Int.tmod_eq_emod_of_nonneg (by omega)
    have hl := sp_lby_rg (s := s) (wm := wm) (T := T) (b := (w : Int).tdiv 4) (c := (w : Int).tmod 4) hk hi hn ha ht hx (by omega) (by omega) hwm hT
    have e : sp_lf s wm T k n a t x (w + 1) = sp_lfw s wm T k n a t x (w : Int) (sp_lf s wm T k n a t x w) := rfl
    rw [e]
    unfold sp_lfw
    by_cases hz : sp_lby s wm T k n a t x ((w : Int).tdiv 4) ((w : Int).tmod 4) < (sp_lf s wm T k n a t x w).1
    · rw [if_pos hz]
      refine ⟨hl.1, hl.2, ?_, Or.inr ⟨?_, ?_⟩⟩ <;> show _ ≤ _ <;> simp only [] <;> omega
    · rw [if_neg hz]; exact ih
/-- the table of the hill that r hills lie from the town -/
def sp_tab (s wm : Int → Int) (k n : Int) : Nat → Int → Int
  | 0 => fun _ => 0
  | r + 1 => fun i => (sp_lf s wm (sp_tab s wm k n r) k n (8 - (r : Int)) ((i / 60) % 61) (i % 60) 12).1
theorem sp_place {a t x : Int} (ha : 0 ≤ a) (ht : 0 ≤ t ∧ t ≤ 60) (hx : 0 ≤ x ∧ x < 60) : (((a * 61 + t) * 60 + x) / 60) % 61 = t ∧ ((a * 61 + t) * 60 + x) % 60 = x := by omega
theorem sp_tab_at {s wm : Int → Int} {k n a t x : Int} (r : Nat) (ha : a = 8 - (r : Int)) (hr : r < 9) (ht : 0 ≤ t ∧ t ≤ 60) (hx : 0 ≤ x ∧ x < 60) : sp_tab s wm k n (r + 1) ((a * 61 + t) * 60 + x) = (sp_lf s wm (sp_tab s wm k n r) k n a t x 12).1 := by
  have hp := sp_place (a := a) (by omega) ht hx
  show (sp_lf s wm (sp_tab s wm k n r) k n (8 - (r : Int)) ((((a * 61 + t) * 60 + x) / 60) % 61) (((a * 61 + t) * 60 + x) % 60) 12).1 = _
  rw [hp.1, hp.2, ← ha]
