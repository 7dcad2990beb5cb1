/-! relays: the warmth read only where it is known -/
theorem sp_lby_wsame {s wm wn T : Int → Int} {k n a t x b c : Int} (hk : 0 ≤ k ∧ k < 6) (hi : sp_inv s) (hn : n ≤ 60) (ha : 0 ≤ a ∧ a < 9) (ht : 0 ≤ t ∧ t ≤ 60) (hx : 0 ≤ x ∧ x < 60) (hb : 0 ≤ b ∧ b < 3) (hc : 0 ≤ c ∧ c < 4) (hm : sp_wmok s k wm 9) (hm2 : sp_wmok s k wn 9) : sp_lby s wm T k n a t x b c = sp_lby s wn T k n a t x b c := by
  have hq := sp_lby_rg2 (T := T) (wm := wm) (n := n) (a := a) (t := t) (b := b) hk hi hx hc
  unfold sp_lby sp_lbr
  by_cases hz : n < t + b + s (33 + 2 * c) ∨ 60 ≤ sp_then s k x c
  · rw [if_pos hz, if_pos hz]
  · rw [if_neg hz, if_neg hz, hm a t ha.1 ha.2 ht.1 ht.2, hm2 a t ha.1 ha.2 ht.1 ht.2, hm a (t + b) ha.1 ha.2 (by omega) (by omega), hm2 a (t + b) ha.1 ha.2 (by omega) (by omega), hm a (t + b + s (33 + 2 * c)) ha.1 ha.2 (by omega) (by omega), hm2 a (t + b + s (33 + 2 * c)) ha.1 ha.2 (by omega) (by omega)]
theorem sp_lf_wsame {s wm wn T : Int → Int} {k n a t x : Int} (hk : 0 ≤ k ∧ k < 6) (hi : sp_inv s) (hn : n ≤ 60) (ha : 0 ≤ a ∧ a < 9) (ht : 0 ≤ t ∧ t ≤ 60) (hx : 0 ≤ x ∧ x < 60) (hm : sp_wmok s k wm 9) (hm2 : sp_wmok s k wn 9) (w : Nat) (hw : w ≤ 12) : sp_lf s wm T k n a t x w = sp_lf s wn T k n a t x w := by
  induction w with
  | zero => rfl
  | succ w ih =>
    show sp_lfw s wm T k n a t x (w : Int) (sp_lf s wm T k n a t x w) = sp_lfw s wn T k n a t x (w : Int) (sp_lf s wn T k n a t x w)
    rw [ih (by omega)]
    unfold sp_lfw
    have hw4 : (w : Int).tdiv 4 = (w : Int) / 4 := Int.tdiv_eq_ediv_of_nonneg (by omega)
    have hw5 : (w : Int).tmod 4 = (w : Int) % 4 := Int.tmod_eq_emod_of_nonneg (by omega)
    rw [sp_lby_wsame hk hi hn ha ht hx (by omega) (by omega) hm hm2]
theorem sp_tab_wsame {s wm wn : Int → Int} {k n : Int} (hk : 0 ≤ k ∧ k < 6) (hi : sp_inv s) (hn : n ≤ 60) (hm : sp_wmok s k wm 9) (hm2 : sp_wmok s k wn 9) (r : Nat) (hr : r ≤ 9) : sp_tab s wm k n r = sp_tab s wn k n r := by
  induction r with
  | zero => rfl
  | succ r ih =>
    funext i
    show (sp_lf s wm (sp_tab s wm k n r) k n (8 - (r : Int)) ((i / 60) % 61) (i % 60) 12).1 = (sp_lf s wn (sp_tab s wn k n r) k n (8 - (r : Int)) ((i / 60) % 61) (i % 60) 12).1
    rw [ih (by omega), sp_lf_wsame hk hi hn (by omega) (by omega) (by omega) hm hm2 12 (by decide)]
theorem sp_rel_wsame {s wm wn : Int → Int} {k n : Int} (hk : 0 ≤ k ∧ k < 6) (hi : sp_inv s) (hn : n ≤ 60) (hat : 0 ≤ s (41 + 9 * k + 2)) (hm : sp_wmok s k wm 9) (hm2 : sp_wmok s k wn 9) : sp_rel s wm k n = sp_rel s wn k n := by
  unfold sp_rel
  rw [sp_tab_wsame hk hi hn hm hm2 (9 - s (41 + 9 * k + 2)).toNat (by omega)]
/-- a way that is found: what it is -/
theorem sp_lf_way {s wm T : Int → Int} {k n a t x : Int} (w : Nat) (hw : w ≤ 12) : (sp_lf s wm T k n a t x w).1 = 1000000 ∨ ∃ b c, 0 ≤ b ∧ b < 3 ∧ 0 ≤ c ∧ c < 4 ∧ (sp_lf s wm T k n a t x w).2 = 10 * b + c ∧ (sp_lf s wm T k n a t x w).1 = sp_lby s wm T k n a t x b c := by
  induction w with
  | zero => exact Or.inl rfl
  | succ w ih =>
    have hw4 : (w : Int).tdiv 4 = (w : Int) / 4 := Int.tdiv_eq_ediv_of_nonneg (by omega)
    have hw5 : (w : Int).tmod 4 = (w : Int) % 4 := Int.tmod_eq_emod_of_nonneg (by omega)
    have e : sp_lf s wm T k n a t x (w + 1) = sp_lfw s wm T k n a t x (w : Int) (sp_lf s wm T k n a t x w) := rfl
    rw [e]
    unfold sp_lfw
    by_cases hz : sp_lby s wm T k n a t x ((w : Int).tdiv 4) ((w : Int).tmod 4) < (sp_lf s wm T k n a t x w).1
    · rw [if_pos hz]
      exact Or.inr ⟨(w : Int).tdiv 4, (w : Int).tmod 4, by omega, by omega, by omega, by omega, rfl, rfl⟩
    · rw [if_neg hz]; exact ih (by omega)
/-- the way goes on: behind a way that is found there is one -/
theorem sp_lby_on {s wm T : Int → Int} {k n a t x b c : Int} (hk : 0 ≤ k ∧ k < 6) (hi : sp_inv s) (hn : 0 ≤ n ∧ n ≤ 60) (ha : 0 ≤ a ∧ a < 9) (ht : 0 ≤ t ∧ t ≤ 60) (hx : 0 ≤ x ∧ x < 60) (hb : 0 ≤ b ∧ b < 3) (hc : 0 ≤ c ∧ c < 4) (hwm : sp_wmr wm) (h : sp_lby s wm T k n a t x b c < 1000000) : 0 ≤ t + b + s (33 + 2 * c) ∧ t + b + s (33 + 2 * c) ≤ n ∧ 0 ≤ sp_then s k x c ∧ sp_then s k x c < 60 ∧ T (((a + 1) * 61 + (t + b + s (33 + 2 * c))) * 60 + sp_then s k x c) < 1000000 := by
  have hq := sp_lby_rg2 (T := T) (wm := wm) (n := n) (a := a) (t := t) (b := b) hk hi hx hc
  unfold sp_lby sp_lbr at h
  by_cases hz : n < t + b + s (33 + 2 * c) ∨ 60 ≤ sp_then s k x c
  · rw [if_pos hz] at h; omega
  · rw [if_neg hz] at h
    have hw1 := (hwm a t ha.1 ha.2 ht.1 ht.2).2.1 (t + b) (by omega) (by omega)
    have hw2 := (hwm a (t + b) ha.1 ha.2 (by omega) (by omega)).2.1 (t + b + s (33 + 2 * c)) (by omega) (by omega)
    refine ⟨by omega, by omega, hq.1, by omega, ?_⟩
    split at h <;> omega
