/-! relays: what the class leaves out comes to nothing -/
theorem sp_lf_none {s wm T : Int → Int} {k n a t x : Int} (H : ∀ b c, 0 ≤ b → b < 3 → 0 ≤ c → c < 4 → sp_lby s wm T k n a t x b c = 1000000) (w : Nat) (hw : w ≤ 12) : sp_lf s wm T k n a t x w = (1000000, -1) := by
  induction w with
  | zero => rfl
  | succ w ih =>
    have hw4 : (w : Int).tdiv 4 = (w : Int) / 4 := Int.tdiv_eq_ediv_of_nonneg (by omega)
    have hw5 : (w : Int).tmod 4 = (w : Int) % 4 := Int.tmod_eq_emod_of_nonneg (by omega)
    show sp_lfw s wm T k n a t x (w : Int) (sp_lf s wm T k n a t x w) = _
    rw [ih (by omega)]
    unfold sp_lfw
    rw [H _ _ (by omega) (by omega) (by omega) (by omega), if_neg (by decide)]
theorem sc_mul9 {q a : Int} : q * (9 - a) = q * (8 - a) + q := by
  rw [show (9 : Int) - a = (8 - a) + 1 by omega, Int.mul_add, Int.mul_one]
theorem sc_mulr {q a : Int} (hq : 0 ≤ q ∧ q ≤ 60) (ha : 0 ≤ a ∧ a ≤ 8) : 0 ≤ q * (8 - a) ∧ q * (8 - a) ≤ 480 := by
  refine ⟨Int.mul_nonneg hq.1 (by omega), Int.le_trans (Int.mul_le_mul hq.2 (show 8 - a ≤ 8 by omega) (by omega) (by decide)) (by decide)⟩
/-- too late for the quickest: none -/
theorem sc_late {s wm : Int → Int} {k n q : Int} (hk : 0 ≤ k ∧ k < 6) (hi : sp_inv s) (hn : 0 ≤ n ∧ n ≤ 60) (hwm : sp_wmr wm) (hq : 0 ≤ q ∧ q ≤ 60) (hp : ∀ c, 0 ≤ c → c < 4 → q ≤ s (33 + 2 * c)) (r : Nat) (hr : r < 9) : ∀ v y, 0 ≤ v → v ≤ n → 0 ≤ y → y < 60 → n < v + q * ((r : Int) + 1) → sp_tab s wm k n (r + 1) (((8 - (r : Int)) * 61 + v) * 60 + y) = 1000000 := by
  induction r with
  | zero =>
    intro v y v0 v1 y0 y1 h
    rw [sp_tab_at (a := 8 - ((0 : Nat) : Int)) 0 rfl (by omega) (by omega) (by omega), sp_lf_none (fun b c b0 b1 c0 c1 => ?_) 12 (Nat.le_refl _)]
    have := hp c c0 c1
    unfold sp_lby
    rw [if_pos (Or.inl (by omega))]
  | succ r ih =>
    intro v y v0 v1 y0 y1 h
    rw [sp_tab_at (a := 8 - ((r + 1 : Nat) : Int)) (r + 1) rfl (by omega) (by omega) (by omega), sp_lf_none (fun b c b0 b1 c0 c1 => ?_) 12 (Nat.le_refl _)]
    have hpc := hp c c0 c1
    have hth := (sp_lby_rg2 (T := wm) (wm := wm) (n := n) (a := 0) (t := v) (b := b) hk hi ⟨y0, y1⟩ ⟨c0, c1⟩).1
    unfold sp_lby
    by_cases z : n < v + b + s (33 + 2 * c) ∨ 60 ≤ sp_then s k y c
    · rw [if_pos z]
    · rw [if_neg z]
      have hm : q * (((r + 1 : Nat) : Int) + 1) = q * ((r : Int) + 1) + q := by
        rw [show (((r + 1 : Nat) : Int) + 1) = ((r : Int) + 1) + 1 by omega, Int.mul_add q ((r : Int) + 1) 1, Int.mul_one]
      have e := ih (by omega) (v + b + s (33 + 2 * c)) (sp_then s k y c) (by omega) (by omega) hth (by omega) (by omega)
      unfold sp_lbr
      rw [show (8 - ((r + 1 : Nat) : Int) + 1) = 8 - (r : Int) by omega, e]
      have hw1 := (hwm (8 - ((r + 1 : Nat) : Int)) v (by omega) (by omega) v0 (by omega)).2.1 (v + b) (by omega) (by omega)
      have hw2 := (hwm (8 - ((r + 1 : Nat) : Int)) (v + b) (by omega) (by omega) (by omega) (by omega)).2.1 (v + b + s (33 + 2 * c)) (by omega) (by omega)
      split <;> omega
theorem sc_prune {s wm : Int → Int} {k n q a t x b c : Int} (hk : 0 ≤ k ∧ k < 6) (hi : sp_inv s) (hn : 0 ≤ n ∧ n ≤ 60) (hwm : sp_wmr wm) (hq : 0 ≤ q ∧ q ≤ 60) (hp : ∀ c, 0 ≤ c → c < 4 → q ≤ s (33 + 2 * c)) (ha : 0 ≤ a ∧ a ≤ 8) (ht : 0 ≤ t ∧ t ≤ n) (hx : 0 ≤ x ∧ x < 60) (hb : 0 ≤ b ∧ b < 3) (hc : 0 ≤ c ∧ c < 4) (h : n - q * (8 - a) < t + b + s (33 + 2 * c) ∨ 60 ≤ sp_then s k x c) : sp_lby s wm (sp_tab s wm k n (8 - a).toNat) k n a t x b c = 1000000 := by
  have hth := (sp_lby_rg2 (T := wm) (wm := wm) (n := n) (a := 0) (t := t) (b := b) hk hi hx hc)
  unfold sp_lby
  by_cases z : n < t + b + s (33 + 2 * c) ∨ 60 ≤ sp_then s k x c
  · rw [if_pos z]
  · rw [if_neg z]
    by_cases y : a = 8
    · exfalso; subst y; rw [show (8 : Int) - 8 = 0 by decide, Int.mul_zero] at h; omega
    · have e := sc_late hk hi hn hwm hq hp (7 - a).toNat (by omega) (t + b + s (33 + 2 * c)) (sp_then s k x c) (by omega) (by omega) hth.1 (by omega) (by rw [show (((7 - a).toNat : Nat) : Int) + 1 = 8 - a by omega]; omega)
      rw [show (7 - a).toNat + 1 = (8 - a).toNat by omega, show (8 - (((7 - a).toNat : Nat) : Int)) = a + 1 by omega] at e
      unfold sp_lbr
      rw [e]
      have hw1 := (hwm a t ha.1 (by omega) ht.1 (by omega)).2.1 (t + b) (by omega) (by omega)
      have hw2 := (hwm a (t + b) ha.1 (by omega) (by omega) (by omega)).2.1 (t + b + s (33 + 2 * c)) (by omega) (by omega)
      split <;> omega
/-- what the class has found: no more than 126 is told -/
def sc_H (s wm : Int → Int) (k n a t x : Int) : Int × Int := sp_lf s wm (sp_tab s wm k n (8 - a).toNat) k n a t x 12
def sc_M1 (s wm : Int → Int) (k n a t x : Int) : Int := 1 + 32 * min 126 (sc_H s wm k n a t x).1 + (if 126 ≤ (sc_H s wm k n a t x).1 then 0 else (sc_H s wm k n a t x).2)
def sc_nx (u s : Int → Int) (k a t x ch : Int) : Prop := a < 8 → u ((a + 1) * 3660 + (t + ch.tdiv 10 + s (33 + 2 * ch.tmod 10)) * 60 + sp_then s k x (ch.tmod 10)) ≠ 0
def sc_at (u s wm : Int → Int) (k n a t x : Int) : Prop := u (a * 3660 + t * 60 + x) = sc_M1 s wm k n a t x ∧ ((sc_H s wm k n a t x).1 < 126 → sc_nx u s k a t x (sc_H s wm k n a t x).2)
def sc_MV (u s wm : Int → Int) (k n f : Int) : Prop := ∀ a t x, f ≤ a → a ≤ 8 → 0 ≤ t → t ≤ n → 0 ≤ x → x < 60 → u (a * 3660 + t * 60 + x) = 0 ∨ sc_at u s wm k n a t x
def sc_MI (r s wm : Int → Int) (k n f : Int) : Prop := (∀ j, f * 732 ≤ j → j < 6588 → sc_lo (r j)) ∧ sc_MV (sc_fv r) s wm k n f
def sc_mono (u v : Int → Int) : Prop := ∀ j, u j ≠ 0 → v j = u j
theorem sc_mono.rf {u : Int → Int} : sc_mono u u := fun _ _ => rfl
theorem sc_mono.tr {u v w : Int → Int} (a : sc_mono u v) (b : sc_mono v w) : sc_mono u w := fun j hj => by rw [b j (by rw [a j hj]; exact hj), a j hj]
theorem sc_mono.nz {u v : Int → Int} (a : sc_mono u v) {j : Int} (h : u j ≠ 0) : v j ≠ 0 := by rw [a j h]; exact h
theorem sc_nx.mono {u v s : Int → Int} {k a t x ch : Int} (h : sc_nx u s k a t x ch) (m : sc_mono u v) : sc_nx v s k a t x ch := fun q => m.nz (h q)
theorem sc_H_L {s wm : Int → Int} {k n a t x : Int} (ha : 0 ≤ a ∧ a ≤ 8) (ht : 0 ≤ t ∧ t ≤ 60) (hx : 0 ≤ x ∧ x < 60) : sp_tab s wm k n (9 - a).toNat ((a * 61 + t) * 60 + x) = (sc_H s wm k n a t x).1 := by
  rw [show (9 - a).toNat = (8 - a).toNat + 1 by omega]
  exact sp_tab_at (8 - a).toNat (by omega) (by omega) ht hx
theorem sc_MV_set {u s wm : Int → Int} {k n f a t x v : Int} (H : sc_MV u s wm k n f) (ha : 0 ≤ a ∧ a ≤ 8) (ht : 0 ≤ t ∧ t ≤ n ∧ n ≤ 60) (hx : 0 ≤ x ∧ x < 60) (hf : 0 ≤ f) (h0 : u (a * 3660 + t * 60 + x) = 0) (hv : v = sc_M1 s wm k n a t x) (hn : (sc_H s wm k n a t x).1 < 126 → sc_nx u s k a t x (sc_H s wm k n a t x).2) : sc_MV (mh_ur u (a * 3660 + t * 60 + x) v) s wm k n f ∧ sc_mono u (mh_ur u (a * 3660 + t * 60 + x) v) := by
  have hm : sc_mono u (mh_ur u (a * 3660 + t * 60 + x) v) := fun j hj => mh_ur_ne (fun z => hj (by rw [z]; exact h0))
  refine ⟨fun b w y b0 b1 w0 w1 y0 y1 => ?_, hm⟩
  by_cases z : b * 3660 + w * 60 + y = a * 3660 + t * 60 + x
  · have e1 : b = a := by omega
    have e2 : w = t := by omega
    have e3 : y = x := by omega
    subst e1; subst e2; subst e3
    exact Or.inr ⟨by rw [mh_ur_eq rfl]; exact hv, fun q => (hn q).mono hm⟩
  · rcases H b w y b0 b1 w0 w1 y0 y1 with q | q
    · exact Or.inl (by rw [mh_ur_ne z]; exact q)
    · exact Or.inr ⟨by rw [mh_ur_ne z]; exact q.1, fun g => (q.2 g).mono hm⟩
theorem sc_MI_set {r r2 s wm : Int → Int} {k n f a t x v : Int} (H : sc_MI r s wm k n f) (ha : f ≤ a ∧ a ≤ 8) (ht : 0 ≤ t ∧ t ≤ n ∧ n ≤ 60) (hx : 0 ≤ x ∧ x < 60) (hf : 0 ≤ f) (h0 : sc_fv r (a * 3660 + t * 60 + x) = 0) (hv : v = sc_M1 s wm k n a t x) (hv0 : 0 ≤ v ∧ v < 4096) (hn : (sc_H s wm k n a t x).1 < 126 → sc_nx (sc_fv r) s k a t x (sc_H s wm k n a t x).2) (e : r2 = mh_ur r ((a * 3660 + t * 60 + x) / 5) (r ((a * 3660 + t * 60 + x) / 5) + v * sc_pw ((a * 3660 + t * 60 + x) % 5))) : sc_MI r2 s wm k n f ∧ sc_mono (sc_fv r) (sc_fv r2) ∧ sc_fv r2 = mh_ur (sc_fv r) (a * 3660 + t * 60 + x) v := by
  obtain ⟨p1, p2⟩ := sc_fv_put (H.1 _ (by omega) (by omega)) hv0 h0 e
  have q := sc_MV_set H.2 (by omega) ht hx hf h0 hv hn
  rw [← p1] at q
  refine ⟨⟨fun j j0 j1 => ?_, q.1⟩, q.2, p1⟩
  by_cases z : j = (a * 3660 + t * 60 + x) / 5
  · rw [z]; exact p2
  · rw [e, mh_ur_ne z]; exact H.1 j j0 j1
theorem sc_H_rg {s wm : Int → Int} {k n a t x : Int} (hk : 0 ≤ k ∧ k < 6) (hi : sp_inv s) (hn : 0 ≤ n ∧ n ≤ 60) (ha : 0 ≤ a ∧ a ≤ 8) (ht : 0 ≤ t ∧ t ≤ 60) (hx : 0 ≤ x ∧ x < 60) (hwm : sp_wmr wm) : 0 ≤ (sc_H s wm k n a t x).1 ∧ (sc_H s wm k n a t x).1 ≤ 1000000 ∧ ((sc_H s wm k n a t x).1 = 1000000 ∨ (0 ≤ (sc_H s wm k n a t x).2 ∧ (sc_H s wm k n a t x).2 ≤ 23)) := by
  have hT := sp_tab_ok hk hi hn hwm (8 - a).toNat (by omega)
  rw [show 9 - (((8 - a).toNat : Nat) : Int) = a + 1 by omega] at hT
  have q := sp_lf_rg hk hi hn (show 0 ≤ a ∧ a < 9 by omega) ht hx hwm hT 12 (Nat.le_refl _)
  exact ⟨q.1, q.2.1, q.2.2.2⟩
theorem sc_M1_rg {s wm : Int → Int} {k n a t x : Int} (hk : 0 ≤ k ∧ k < 6) (hi : sp_inv s) (hn : 0 ≤ n ∧ n ≤ 60) (ha : 0 ≤ a ∧ a ≤ 8) (ht : 0 ≤ t ∧ t ≤ 60) (hx : 0 ≤ x ∧ x < 60) (hwm : sp_wmr wm) : 0 < sc_M1 s wm k n a t x ∧ sc_M1 s wm k n a t x < 4096 ∧ (sc_M1 s wm k n a t x - 1).tdiv 32 = min 126 (sc_H s wm k n a t x).1 ∧ (sc_M1 s wm k n a t x - 1).tmod 32 = (if 126 ≤ (sc_H s wm k n a t x).1 then 0 else (sc_H s wm k n a t x).2) := by
  have q := sc_H_rg (t := t) hk hi hn ha ht hx hwm
  unfold sc_M1
  split
  · rw [Int.tdiv_eq_ediv_of_nonneg (by omega), Int.tmod_eq_emod_of_nonneg (by omega)]; omega
  · rw [Int.tdiv_eq_ediv_of_nonneg (by omega), Int.tmod_eq_emod_of_nonneg (by omega)]; omega
