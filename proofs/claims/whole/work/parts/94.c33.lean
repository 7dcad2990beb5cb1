/-! the cellar: beyond the hill all is as it was -/
def sc_ag (s s2 wm wm2 : Int → Int) (z : Int) : Prop := (∀ i, i ≠ 6 + 3 * z + 0 → s2 i = s i) ∧ ∀ b j, z < b → b < 9 → 0 ≤ j → j ≤ 60 → wm2 (b * 61 + j) = wm (b * 61 + j)
theorem sc_then_ag {s s2 : Int → Int} {z k x c : Int} (hz : 0 ≤ z ∧ z < 9) (hk : 0 ≤ k) (hc : 0 ≤ c) (h : ∀ i, i ≠ 6 + 3 * z + 0 → s2 i = s i) : sp_then s2 k x c = sp_then s k x c := by
  unfold sp_then
  rw [h _ (by omega), h _ (by omega), h _ (by omega), h _ (by omega)]
theorem sc_lby_ag {s s2 wm wm2 T : Int → Int} {k n z a t x b c : Int} (hz : 0 ≤ z ∧ z < 9) (hk : 0 ≤ k ∧ k < 6) (hi : sp_inv s) (hn : n ≤ 60) (ha : z < a ∧ a < 9) (ht : 0 ≤ t ∧ t ≤ 60) (hx : 0 ≤ x ∧ x < 60) (hb : 0 ≤ b ∧ b < 3) (hc : 0 ≤ c ∧ c < 4) (h : sc_ag s s2 wm wm2 z) : sp_lby s2 wm2 T k n a t x b c = sp_lby s wm T k n a t x b c := by
  have hq := sp_lby_rg2 (T := T) (wm := wm) (n := n) (a := a) (t := t) (b := b) hk hi hx hc
  unfold sp_lby sp_lbr
  rw [sc_then_ag hz hk.1 hc.1 h.1, h.1 (33 + 2 * c) (by omega), h.1 (6 + 3 * a + 1) (by omega)]
  by_cases y : n < t + b + s (33 + 2 * c) ∨ 60 ≤ sp_then s k x c
  · rw [if_pos y, if_pos y]
  · rw [if_neg y, if_neg y, h.2 a t ha.1 ha.2 ht.1 ht.2, h.2 a (t + b) ha.1 ha.2 (by omega) (by omega), h.2 a (t + b + s (33 + 2 * c)) ha.1 ha.2 (by omega) (by omega)]
theorem sc_lf_ag {s s2 wm wm2 T : Int → Int} {k n z a t x : Int} (hz : 0 ≤ z ∧ z < 9) (hk : 0 ≤ k ∧ k < 6) (hi : sp_inv s) (hn : n ≤ 60) (ha : z < a ∧ a < 9) (ht : 0 ≤ t ∧ t ≤ 60) (hx : 0 ≤ x ∧ x < 60) (h : sc_ag s s2 wm wm2 z) (w : Nat) (hw : w ≤ 12) : sp_lf s2 wm2 T k n a t x w = sp_lf s wm T k n a t x w := by
  induction w with
  | zero => rfl
  | succ w ih =>
    show sp_lfw s2 wm2 T k n a t x (w : Int) (sp_lf s2 wm2 T k n a t x w) = sp_lfw s wm T k n a t x (w : Int) (sp_lf s wm T k n a t x w)
    rw [ih (by omega)]
    unfold sp_lfw
    have hw4 : (w : Int).tdiv 4 = (w : Int) / 4 := Int.tdiv_eq_ediv_of_nonneg (by omega)
    have hw5 : (w : Int).tmod 4 = (w : Int) % 4 := Int.tmod_eq_emod_of_nonneg (by omega)
    rw [sc_lby_ag hz hk hi hn ha ht hx (by omega) (by omega) h]
theorem sc_tab_ag {s s2 wm wm2 : Int → Int} {k n z : Int} (hz : 0 ≤ z ∧ z < 9) (hk : 0 ≤ k ∧ k < 6) (hi : sp_inv s) (hn : n ≤ 60) (h : sc_ag s s2 wm wm2 z) (r : Nat) (hr : z < 9 - (r : Int)) : sp_tab s2 wm2 k n r = sp_tab s wm k n r := by
  induction r with
  | zero => rfl
  | succ r ih =>
    funext i
    show (sp_lf s2 wm2 (sp_tab s2 wm2 k n r) k n (8 - (r : Int)) ((i / 60) % 61) (i % 60) 12).1 = (sp_lf s wm (sp_tab s wm k n r) k n (8 - (r : Int)) ((i / 60) % 61) (i % 60) 12).1
    rw [ih (by omega), sc_lf_ag hz hk hi hn (by omega) (by omega) (by omega) h 12 (by decide)]
theorem sc_H_ag {s s2 wm wm2 : Int → Int} {k n z a t x : Int} (hz : 0 ≤ z ∧ z < 9) (hk : 0 ≤ k ∧ k < 6) (hi : sp_inv s) (hn : n ≤ 60) (ha : z < a ∧ a ≤ 8) (ht : 0 ≤ t ∧ t ≤ 60) (hx : 0 ≤ x ∧ x < 60) (h : sc_ag s s2 wm wm2 z) : sc_H s2 wm2 k n a t x = sc_H s wm k n a t x := by
  unfold sc_H
  rw [sc_tab_ag hz hk hi hn h (8 - a).toNat (by omega), sc_lf_ag hz hk hi hn (by omega) ht hx h 12 (by decide)]
theorem sc_at_ag {u s s2 wm wm2 : Int → Int} {k n z a t x : Int} (hz : 0 ≤ z ∧ z < 9) (hk : 0 ≤ k ∧ k < 6) (hi : sp_inv s) (hn : 0 ≤ n ∧ n ≤ 60) (hwm : sp_wmr wm) (ha : z < a ∧ a ≤ 8) (ht : 0 ≤ t ∧ t ≤ 60) (hx : 0 ≤ x ∧ x < 60) (h : sc_ag s s2 wm wm2 z) : sc_at u s2 wm2 k n a t x ↔ sc_at u s wm k n a t x := by
  have e := sc_H_ag hz hk hi hn.2 ha ht hx h
  have q := sc_H_rg (a := a) (t := t) hk hi hn (by omega) ht hx hwm
  unfold sc_at sc_M1
  rw [e]
  refine and_congr Iff.rfl ⟨fun g l => ?_, fun g l => ?_⟩
  · have hm : 0 ≤ (sc_H s wm k n a t x).2.tmod 10 := Int.tmod_nonneg _ (by omega)
    have y := g l
    unfold sc_nx at *
    rw [sc_then_ag hz hk.1 hm h.1, h.1 (33 + 2 * (sc_H s wm k n a t x).2.tmod 10) (by omega)] at y
    exact y
  · have hm : 0 ≤ (sc_H s wm k n a t x).2.tmod 10 := Int.tmod_nonneg _ (by omega)
    have y := g l
    unfold sc_nx at *
    rw [sc_then_ag hz hk.1 hm h.1, h.1 (33 + 2 * (sc_H s wm k n a t x).2.tmod 10) (by omega)]
    exact y
theorem sc_ws_ag {s s2 : Int → Int} {k z b : Int} (hz : 0 ≤ z ∧ z < 9) (hk : 0 ≤ k) (hb : 0 ≤ b ∧ b < 9 ∧ b ≠ z) (h : ∀ i, i ≠ 6 + 3 * z + 0 → s2 i = s i) (t : Nat) : sp_ws s2 k b t = sp_ws s k b t := by
  induction t with
  | zero => rfl
  | succ t ih =>
    show sp_ws s2 k b t + sp_wq s2 k b (t : Int) = sp_ws s k b t + sp_wq s k b (t : Int)
    rw [ih]
    unfold sp_wq sp_warm
    rw [h (41 + 9 * k + 0) (by omega), h (41 + 9 * k + 1) (by omega), h 0 (by omega), h (6 + 3 * b + 0) (by omega), sp_law_same (s := s2) (t := s) (fun i hi => h i (by omega))]
theorem sc_ag_wmc {s s2 : Int → Int} {k z : Int} (hz : 0 ≤ z ∧ z < 9) (hk : 0 ≤ k) (h : ∀ i, i ≠ 6 + 3 * z + 0 → s2 i = s i) : sc_ag s s2 (sp_wmc s k) (sp_wmc s2 k) z := by
  refine ⟨h, fun b j b0 b1 j0 j1 => ?_⟩
  rw [sp_wmc_ok s2 k b j (by omega) b1 j0 j1, sp_wmc_ok s k b j (by omega) b1 j0 j1, sc_ws_ag hz hk (by omega) h]
theorem sc_at_u {u v s wm : Int → Int} {k n a t x B : Int} (hk : 0 ≤ k ∧ k < 6) (hi : sp_inv s) (hn : 0 ≤ n ∧ n ≤ 60) (hwm : sp_wmr wm) (ha : 0 ≤ a ∧ a ≤ 8) (ht : 0 ≤ t ∧ t ≤ 60) (hx : 0 ≤ x ∧ x < 60) (hB : B ≤ a * 3660) (e : ∀ j, B ≤ j → v j = u j) (h : sc_at u s wm k n a t x) : sc_at v s wm k n a t x := by
  have q := sc_H_rg (a := a) (t := t) hk hi hn ha ht hx hwm
  refine ⟨by rw [e _ (by omega)]; exact h.1, fun g l => ?_⟩
  have y := h.2 g l
  have hd : 0 ≤ (sc_H s wm k n a t x).2.tdiv 10 := by rw [Int.tdiv_eq_ediv_of_nonneg (by omega)]; omega
  have hm : 0 ≤ (sc_H s wm k n a t x).2.tmod 10 ∧ ((sc_H s wm k n a t x).2.tmod 10 < 10) := by rw [Int.tmod_eq_emod_of_nonneg (by omega)]; omega
  obtain ⟨b, c, b0, b1, cc0, cc1, e1⟩ : ∃ b c, 0 ≤ b ∧ b < 3 ∧ 0 ≤ c ∧ c < 4 ∧ (sc_H s wm k n a t x).2 = 10 * b + c := by
    rcases sp_lf_way (s := s) (wm := wm) (T := sp_tab s wm k n (8 - a).toNat) (k := k) (n := n) (a := a) (t := t) (x := x) 12 (by decide) with z | ⟨b, c, b0, b1, cc0, cc1, e1, e2⟩
    · have z : (sc_H s wm k n a t x).1 = 1000000 := z
      omega
    · exact ⟨b, c, b0, b1, cc0, cc1, e1⟩
  have hc10 : (sc_H s wm k n a t x).2.tmod 10 = c := by rw [e1, Int.tmod_eq_emod_of_nonneg (by omega)]; omega
  have r2 := sp_lby_rg2 (T := wm) (wm := wm) (n := n) (a := a) (t := t) (b := b) hk hi hx ⟨cc0, cc1⟩
  rw [hc10] at y ⊢
  rw [e _ (by omega)]; exact y
/-- forgotten up to the hill: the memo holds with its cellar -/
theorem sc_MI_in {u v s s2 : Int → Int} {k n f z : Int} (hz : 0 ≤ z ∧ z < 9) (hk : 0 ≤ k ∧ k < 6) (hi : sp_inv s) (hn : 0 ≤ n ∧ n ≤ 60) (hwm : sp_wmr (sp_wmc s k)) (hf : 0 ≤ f ∧ f ≤ z) (hs : ∀ i, i ≠ 6 + 3 * z + 0 → s2 i = s i) (H : sc_MI u s (sp_wmc s k) k n z) (v0 : ∀ j, f * 732 ≤ j → j < (z + 1) * 732 → v j = 0) (v1 : ∀ j, (j < f * 732 ∨ (z + 1) * 732 ≤ j) → v j = u j) : sc_MI v s2 (sp_wmc s2 k) k n f := by
  refine ⟨fun j j0 j1 => ?_, fun a t x a0 a1 t0 t1 x0 x1 => ?_⟩
  · by_cases y : j < (z + 1) * 732
    · rw [v0 j j0 y]; exact ⟨by decide, by decide⟩
    · rw [v1 j (by omega)]; exact H.1 j (by omega) j1
  · by_cases y : a ≤ z
    · exact Or.inl (sc_fv_0 (v0 _ (by omega) (by omega)))
    · rcases H.2 a t x (by omega) a1 t0 t1 x0 x1 with q | q
      · exact Or.inl (by rw [sc_fv_eq (v1 ((a * 3660 + t * 60 + x) / 5) (by omega))]; exact q)
      · exact Or.inr ((sc_at_ag hz hk hi hn hwm (by omega) (by omega) ⟨x0, x1⟩ (sc_ag_wmc hz hk.1 hs)).mpr (sc_at_u (B := (z + 1) * 3660) hk hi hn hwm (by omega) (by omega) ⟨x0, x1⟩ (by omega) (fun j hj => sc_fv_eq (v1 (j / 5) (by omega))) q))
theorem sc_MI_out {u s s2 : Int → Int} {k n f z : Int} (hz : 0 ≤ z ∧ z < 9) (hk : 0 ≤ k ∧ k < 6) (hi : sp_inv s) (hn : 0 ≤ n ∧ n ≤ 60) (hwm : sp_wmr (sp_wmc s k)) (hf : 0 ≤ f ∧ f ≤ z) (hs : ∀ i, i ≠ 6 + 3 * z + 0 → s2 i = s i) (H : sc_MI u s2 (sp_wmc s2 k) k n f) : sc_MI u s (sp_wmc s k) k n (z + 1) := by
  refine ⟨fun j j0 j1 => H.1 j (by omega) j1, fun a t x a0 a1 t0 t1 x0 x1 => ?_⟩
  rcases H.2 a t x (by omega) a1 t0 t1 x0 x1 with q | q
  · exact Or.inl q
  · exact Or.inr ((sc_at_ag hz hk hi hn hwm (by omega) (by omega) ⟨x0, x1⟩ (sc_ag_wmc hz hk.1 hs)).mp q)
theorem sc_MI_up {u s wm : Int → Int} {k n f z : Int} (H : sc_MI u s wm k n f) (h : f ≤ z) : sc_MI u s wm k n z := ⟨fun j j0 => H.1 j (by omega), fun a t x a0 => H.2 a t x (by omega)⟩
/-- hills ahead of the churn's: nothing of it is seen -/
theorem sc_rel_out {s s2 : Int → Int} {k n z : Int} (hz : 0 ≤ z ∧ z < s (41 + 9 * k + 2)) (h9 : s (41 + 9 * k + 2) ≤ 9) (hk : 0 ≤ k ∧ k < 6) (hi : sp_inv s) (hn : n ≤ 60) (hs : ∀ i, i ≠ 6 + 3 * z + 0 → s2 i = s i) : sp_rel s2 (sp_wmc s2 k) k n = sp_rel s (sp_wmc s k) k n := by
  have e := sc_tab_ag (by omega) hk hi hn (sc_ag_wmc (show 0 ≤ z ∧ z < 9 by omega) hk.1 hs) (9 - s (41 + 9 * k + 2)).toNat (by omega)
  unfold sp_rel
  rw [hs (41 + 9 * k + 5) (by omega), hs (41 + 9 * k + 2) (by omega), hs (41 + 9 * k + 6) (by omega), hs (41 + 9 * k + 0) (by omega), hs (41 + 9 * k + 1) (by omega), e]
