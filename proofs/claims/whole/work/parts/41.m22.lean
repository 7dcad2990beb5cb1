/-! relays: the table as it fills -/
theorem sp_tab_ok {s wm : Int → Int} {k n : Int} (hk : 0 ≤ k ∧ k < 6) (hi : sp_inv s) (hn : 0 ≤ n ∧ n ≤ 60) (hwm : sp_wmr wm) (r : Nat) (hr : r ≤ 9) : sp_lok (sp_tab s wm k n r) n (9 - (r : Int)) := by
  induction r with
  | zero => exact fun t x _ _ _ _ => ⟨Int.le_refl _, (by decide : (0 : Int) ≤ 1000000)⟩
  | succ r ih =>
    intro t x h0 h1 h2 h3
    have e : (9 - ((r + 1 : Nat) : Int)) = 8 - (r : Int) := by omega
    rw [e, sp_tab_at (a := 8 - (r : Int)) r rfl (by omega) (by omega) (by omega)]
    have hT : sp_lok (sp_tab s wm k n r) n (8 - (r : Int) + 1) := by rw [show 8 - (r : Int) + 1 = 9 - (r : Int) by omega]; exact ih (by omega)
    have q := sp_lf_rg (t := t) (x := x) hk hi hn (a := 8 - (r : Int)) (by omega) (by omega) (by omega) hwm hT 12 (by decide)
    exact ⟨q.1, q.2.1⟩
def sp_tabs (s wm T : Int → Int) (k n j : Int) : Prop := ∀ b, j < b → b ≤ 9 → sp_lsame T (sp_tab s wm k n (9 - b).toNat) n b
def sp_tabu (s wm T : Int → Int) (k n j u : Int) : Prop := ∀ t x, 0 ≤ t → t < u → 0 ≤ x → x < 60 → T ((j * 61 + t) * 60 + x) = sp_tab s wm k n (9 - j).toNat ((j * 61 + t) * 60 + x)
def sp_tabx (s wm T : Int → Int) (k n j u x : Int) : Prop := ∀ y, 0 ≤ y → y < x → T ((j * 61 + u) * 60 + y) = sp_tab s wm k n (9 - j).toNat ((j * 61 + u) * 60 + y)
theorem sp_tabs_lok {s wm T : Int → Int} {k n j : Int} (hk : 0 ≤ k ∧ k < 6) (hi : sp_inv s) (hn : 0 ≤ n ∧ n ≤ 60) (hwm : sp_wmr wm) (hj : 0 ≤ j ∧ j < 9) (h : sp_tabs s wm T k n j) : sp_lok T n (j + 1) := by
  intro t x h0 h1 h2 h3
  rw [h (j + 1) (by omega) (by omega) t x h0 h1 h2 h3]
  have q := sp_tab_ok hk hi hn hwm (9 - (j + 1)).toNat (by omega)
  rw [show 9 - (((9 - (j + 1)).toNat : Nat) : Int) = j + 1 by omega] at q
  exact q t x h0 h1 h2 h3
theorem sp_tab_v {s wm T : Int → Int} {k n j u x : Int} (hk : 0 ≤ k ∧ k < 6) (hi : sp_inv s) (hj : 0 ≤ j ∧ j < 9) (hu : 0 ≤ u ∧ u ≤ 60) (hx : 0 ≤ x ∧ x < 60) (h : sp_tabs s wm T k n j) : (sp_lf s wm T k n j u x 12).1 = sp_tab s wm k n (9 - j).toNat ((j * 61 + u) * 60 + x) := by
  rw [show (9 - j).toNat = (9 - (j + 1)).toNat + 1 by omega, sp_tab_at (9 - (j + 1)).toNat (by omega) (by omega) hu hx, sp_lf_same (V := sp_tab s wm k n (9 - (j + 1)).toNat) hk hi hu.1 hx (h (j + 1) (by omega) (by omega)) 12 (Nat.le_refl _)]
theorem sp_tab_v9 {s wm : Int → Int} {k n j i : Int} (hj : j = 9) : (0 : Int) = sp_tab s wm k n (9 - j).toNat i := by
  rw [show (9 - j).toNat = 0 by omega]; rfl
theorem sp_tabs_st {s wm T : Int → Int} {k n j u x v : Int} (hn : n ≤ 60) (hu : 0 ≤ u ∧ u ≤ 60) (hx : 0 ≤ x ∧ x < 60) (h : sp_tabs s wm T k n j) : sp_tabs s wm (mh_ur T ((j * 61 + u) * 60 + x) v) k n j := by
  intro b h0 h1 t y h2 h3 h4 h5
  rw [mh_ur_ne (by omega)]
  exact h b h0 h1 t y h2 h3 h4 h5
theorem sp_tabu_st {s wm T : Int → Int} {k n j u x v : Int} (hu : 0 ≤ u ∧ u ≤ 60) (hx : 0 ≤ x ∧ x < 60) (h : sp_tabu s wm T k n j u) : sp_tabu s wm (mh_ur T ((j * 61 + u) * 60 + x) v) k n j u := by
  intro t y h2 h3 h4 h5
  rw [mh_ur_ne (by omega)]
  exact h t y h2 h3 h4 h5
theorem sp_tabx_st {s wm T : Int → Int} {k n j u x v : Int} (h : sp_tabx s wm T k n j u x) (hv : v = sp_tab s wm k n (9 - j).toNat ((j * 61 + u) * 60 + x)) : sp_tabx s wm (mh_ur T ((j * 61 + u) * 60 + x) v) k n j u (x + 1) := by
  intro y h2 h3
  rcases (show y < x ∨ y = x by omega) with q | q
  · rw [mh_ur_ne (by omega)]; exact h y h2 q
  · rw [q, mh_ur_eq rfl]; exact hv
theorem sp_tabu_nx {s wm T : Int → Int} {k n j u : Int} (h : sp_tabu s wm T k n j u) (g2 : sp_tabx s wm T k n j u 60) : sp_tabu s wm T k n j (u + 1) := by
  intro t y h2 h3 h4 h5
  rcases (show t < u ∨ t = u by omega) with q | q
  · exact h t y h2 q h4 h5
  · rw [q]; exact g2 y h4 h5
theorem sp_tabs_nx {s wm T : Int → Int} {k n j : Int} (h : sp_tabs s wm T k n j) (g2 : sp_tabu s wm T k n j (n + 1)) : sp_tabs s wm T k n (j - 1) := by
  intro b h0 h1
  rcases (show j < b ∨ b = j by omega) with q | q
  · exact h b q h1
  · rw [q]; exact fun t x a1 a2 a3 a4 => g2 t x a1 (by omega) a3 a4
theorem sp_wmr_of {s wm : Int → Int} {k : Int} (hm : 0 ≤ s (41 + 9 * k + 1) ∧ s (41 + 9 * k + 1) ≤ 9) (h : sp_wmok s k wm 9) : sp_wmr wm := by
  intro a t h0 h1 h2 h3
  have q := sp_ws_rg (s := s) (k := k) (a := a) hm t.toNat
  rw [h a t h0 h1 h2 h3]
  refine ⟨q.1, fun u h4 h5 => ?_, by omega⟩
  rw [h a u h0 h1 (by omega) h5]
  have q2 := sp_ws_mono (s := s) (k := k) (a := a) hm t.toNat (u.toNat - t.toNat)
  rw [show t.toNat + (u.toNat - t.toNat) = u.toNat by omega] at q2
  exact q2
