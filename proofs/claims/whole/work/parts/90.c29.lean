section
variable {g : mh_G} {f : mh_F} {own : String} {cc : ByteArray} {nL d n cl sl pc : Nat} {st : List Value} {h : Nat → Int → Int}
theorem mh_iload14 (F : mh_Fr g f own cc nL d) {x0 x1 x2 x3 x4 x5 x6 x7 x8 x9 x10 x11 x12 x13 : Option Value} {r : List (Option Value)} {x : Int32} (hd : decode cc pc = .ok (.iload 14, 2)) (k : mh_V g f nL n cl sl (pc + 2) (x0 :: x1 :: x2 :: x3 :: x4 :: x5 :: x6 :: x7 :: x8 :: x9 :: x10 :: x11 :: x12 :: x13 :: some (.int x) :: r) (.int x :: st) h) : mh_V g f nL n cl sl pc (x0 :: x1 :: x2 :: x3 :: x4 :: x5 :: x6 :: x7 :: x8 :: x9 :: x10 :: x11 :: x12 :: x13 :: some (.int x) :: r) st h := mh_iload F hd rfl k
theorem mh_istore14 (F : mh_Fr g f own cc nL d) {x0 x1 x2 x3 x4 x5 x6 x7 x8 x9 x10 x11 x12 x13 : Option Value} {r : List (Option Value)} {y : Option Value} {x : Int32} (hd : decode cc pc = .ok (.istore 14, 2)) (hc : mh_c1 x13 = true) (hn : 14 < nL) (k : mh_V g f nL n cl sl (pc + 2) (x0 :: x1 :: x2 :: x3 :: x4 :: x5 :: x6 :: x7 :: x8 :: x9 :: x10 :: x11 :: x12 :: x13 :: some (.int x) :: r) st h) : mh_V g f nL n cl sl pc (x0 :: x1 :: x2 :: x3 :: x4 :: x5 :: x6 :: x7 :: x8 :: x9 :: x10 :: x11 :: x12 :: x13 :: y :: r) (.int x :: st) h := mh_istoreg (i := 14) F hd hn (by show mh_V g f nL n cl sl (pc + 2) (mh_st1 (x0 :: x1 :: x2 :: x3 :: x4 :: x5 :: x6 :: x7 :: x8 :: x9 :: x10 :: x11 :: x12 :: x13 :: y :: r) 14 (.int x)) st h; rw [show mh_st1 (x0 :: x1 :: x2 :: x3 :: x4 :: x5 :: x6 :: x7 :: x8 :: x9 :: x10 :: x11 :: x12 :: x13 :: y :: r) 14 (.int x) = x0 :: x1 :: x2 :: x3 :: x4 :: x5 :: x6 :: x7 :: x8 :: x9 :: x10 :: x11 :: x12 :: x13 :: some (.int x) :: r from (mh_st1_s (r := y :: r) [x0, x1, x2, x3, x4, x5, x6, x7, x8, x9, x10, x11, x12] x13 hc)] ; exact k)
theorem mh_drop14 {x0 x1 x2 x3 x4 x5 x6 x7 x8 x9 x10 x11 x12 x13 : Option Value} {r : List (Option Value)} {x : Option Value} (k : mh_V g f nL n cl sl pc (x0 :: x1 :: x2 :: x3 :: x4 :: x5 :: x6 :: x7 :: x8 :: x9 :: x10 :: x11 :: x12 :: x13 :: none :: r) st h) : mh_V g f nL n cl sl pc (x0 :: x1 :: x2 :: x3 :: x4 :: x5 :: x6 :: x7 :: x8 :: x9 :: x10 :: x11 :: x12 :: x13 :: x :: r) st h := mh_weak (fun j v q => by
  rcases j with _ | j
  · exact q
  rcases j with _ | j
  · exact q
  rcases j with _ | j
  · exact q
  rcases j with _ | j
  · exact q
  rcases j with _ | j
  · exact q
  rcases j with _ | j
  · exact q
  rcases j with _ | j
  · exact q
  rcases j with _ | j
  · exact q
  rcases j with _ | j
  · exact q
  rcases j with _ | j
  · exact q
  rcases j with _ | j
  · exact q
  rcases j with _ | j
  · exact q
  rcases j with _ | j
  · exact q
  rcases j with _ | j
  · exact q
  rcases j with _ | j
  · simp at q
  · exact q) k
theorem mh_iload15 (F : mh_Fr g f own cc nL d) {x0 x1 x2 x3 x4 x5 x6 x7 x8 x9 x10 x11 x12 x13 x14 : Option Value} {r : List (Option Value)} {x : Int32} (hd : decode cc pc = .ok (.iload 15, 2)) (k : mh_V g f nL n cl sl (pc + 2) (x0 :: x1 :: x2 :: x3 :: x4 :: x5 :: x6 :: x7 :: x8 :: x9 :: x10 :: x11 :: x12 :: x13 :: x14 :: some (.int x) :: r) (.int x :: st) h) : mh_V g f nL n cl sl pc (x0 :: x1 :: x2 :: x3 :: x4 :: x5 :: x6 :: x7 :: x8 :: x9 :: x10 :: x11 :: x12 :: x13 :: x14 :: some (.int x) :: r) st h := mh_iload F hd rfl k
theorem mh_istore15 (F : mh_Fr g f own cc nL d) {x0 x1 x2 x3 x4 x5 x6 x7 x8 x9 x10 x11 x12 x13 x14 : Option Value} {r : List (Option Value)} {y : Option Value} {x : Int32} (hd : decode cc pc = .ok (.istore 15, 2)) (hc : mh_c1 x14 = true) (hn : 15 < nL) (k : mh_V g f nL n cl sl (pc + 2) (x0 :: x1 :: x2 :: x3 :: x4 :: x5 :: x6 :: x7 :: x8 :: x9 :: x10 :: x11 :: x12 :: x13 :: x14 :: some (.int x) :: r) st h) : mh_V g f nL n cl sl pc (x0 :: x1 :: x2 :: x3 :: x4 :: x5 :: x6 :: x7 :: x8 :: x9 :: x10 :: x11 :: x12 :: x13 :: x14 :: y :: r) (.int x :: st) h := mh_istoreg (i := 15) F hd hn (by show mh_V g f nL n cl sl (pc + 2) (mh_st1 (x0 :: x1 :: x2 :: x3 :: x4 :: x5 :: x6 :: x7 :: x8 :: x9 :: x10 :: x11 :: x12 :: x13 :: x14 :: y :: r) 15 (.int x)) st h; rw [show mh_st1 (x0 :: x1 :: x2 :: x3 :: x4 :: x5 :: x6 :: x7 :: x8 :: x9 :: x10 :: x11 :: x12 :: x13 :: x14 :: y :: r) 15 (.int x) = x0 :: x1 :: x2 :: x3 :: x4 :: x5 :: x6 :: x7 :: x8 :: x9 :: x10 :: x11 :: x12 :: x13 :: x14 :: some (.int x) :: r from (mh_st1_s (r := y :: r) [x0, x1, x2, x3, x4, x5, x6, x7, x8, x9, x10, x11, x12, x13] x14 hc)] ; exact k)
theorem mh_drop15 {x0 x1 x2 x3 x4 x5 x6 x7 x8 x9 x10 x11 x12 x13 x14 : Option Value} {r : List (Option Value)} {x : Option Value} (k : mh_V g f nL n cl sl pc (x0 :: x1 :: x2 :: x3 :: x4 :: x5 :: x6 :: x7 :: x8 :: x9 :: x10 :: x11 :: x12 :: x13 :: x14 :: none :: r) st h) : mh_V g f nL n cl sl pc (x0 :: x1 :: x2 :: x3 :: x4 :: x5 :: x6 :: x7 :: x8 :: x9 :: x10 :: x11 :: x12 :: x13 :: x14 :: x :: r) st h := mh_weak (fun j v q => by
  rcases j with _ | j
  · exact q
  rcases j with _ | j
  · exact q
  rcases j with _ | j
  · exact q
  rcases j with _ | j
  · exact q
  rcases j with _ | j
  · exact q
  rcases j with _ | j
  · exact q
  rcases j with _ | j
  · exact q
  rcases j with _ | j
  · exact q
  rcases j with _ | j
  · exact q
  rcases j with _ | j
  · exact q
  rcases j with _ | j
  · exact q
  rcases j with _ | j
  · exact q
  rcases j with _ | j
  · exact q
  rcases j with _ | j
  · exact q
  rcases j with _ | j
  · exact q
  rcases j with _ | j
  · simp at q
  · exact q) k
end
set_option maxRecDepth 100000 in
set_option maxHeartbeats 2000000 in
theorem k_found {g : mh_G} {d : Nat} (hd : 1 ≤ d) {h : Nat → Int → Int} (hF : mh_FX h) {p : Int} (hp : 0 ≤ p ∧ p < 32940) (hr : sc_lo (h 11 (p / 5))) : mh_MP g d yX6_foundAt cX6_foundAt 4 (some .int) 96 [.ref 10, .int (Int32.ofInt (p))] h (some (.int (Int32.ofInt (sc_fv (h 11) p)))) := by
  refine mh_M_of RX6 rfl (by decide +kernel) [some (.ref 10), some (.int (Int32.ofInt (p))), none, none] rfl (Nat.le_of_ble_eq_true rfl) (fun f F Z hn0 hR => ?_)
  refine mh_aload0 (pc := 0) F dX6_foundAt_0 ?_
  refine mh_getr (b := 11) (pc := 1) F sh_10 (by decide) fw_RX6_11_6 dX6_foundAt_1 rfl (fx_10_0 hF) ?_
  refine mh_iload1 (pc := 4) F dX6_foundAt_4 ?_
  refine mh_iconst (pc := 5) F dX6_foundAt_5 ?_
  refine mh_idiv (pc := 6) F dX6_foundAt_6 (by omega) (by omega) (by omega) ?_
  refine mh_top (y := p / 5) (mh_eqI (Int.tdiv_eq_ediv_of_nonneg hp.1)) ?_
  refine mh_laload (pc := 7) F sh_11 (by decide) (by omega) dX6_foundAt_7 ?_
  refine mh_lstore2 (pc := 8) F dX6_foundAt_8 rfl (by decide) ?_
  refine mh_lload2 (pc := 9) F dX6_foundAt_9 ?_
  refine mh_bipush (pc := 10) F dX6_foundAt_10 rfl ?_
  refine mh_iload1 (pc := 12) F dX6_foundAt_12 ?_
  refine mh_iconst (pc := 13) F dX6_foundAt_13 ?_
  refine mh_irem (pc := 14) F dX6_foundAt_14 (by omega) (by omega) (by omega) ?_
  refine mh_top (y := p % 5) (mh_eqI (Int.tmod_eq_emod_of_nonneg hp.1)) ?_
  refine mh_imul (pc := 15) F dX6_foundAt_15 ?_
  refine mh_rlushr (pc := 16) F dX6_foundAt_16 ?_
  refine mh_l2ir (pc := 17) F dX6_foundAt_17 ?_
  refine mh_sipush (pc := 18) F dX6_foundAt_18 rfl ?_
  refine mh_iand (pc := 21) F dX6_foundAt_21 ?_
  exact mh_ireturnp F Z dX6_foundAt_22 (sc_getp hr (by omega)) rfl

set_option maxRecDepth 100000 in
set_option maxHeartbeats 2000000 in
theorem k_keep {g : mh_G} {d : Nat} (hd : 1 ≤ d) {h : Nat → Int → Int} (hF : mh_FX h) {w0 : Int → Int} (r11 : h 11 = w0) {p v : Int} (hp : 0 ≤ p ∧ p < 32940) (hv : 0 ≤ v ∧ v < 4096) (hr : sc_lo (w0 (p / 5))) (hz : sc_fv w0 p = 0) : mh_M g d yX6_keep cX6_keep 3 none 96 0 0 [.ref 10, .int (Int32.ofInt (p)), .int (Int32.ofInt (v))] h (fun r h2 => r = none ∧ mh_FX h2 ∧ mh_fr [11] h h2 ∧ h2 11 = mh_ur w0 (p / 5) (w0 (p / 5) + v * sc_pw (p % 5))) := by
  refine mh_M_of RX6 rfl (by decide +kernel) [some (.ref 10), some (.int (Int32.ofInt (p))), some (.int (Int32.ofInt (v)))] rfl (Nat.le_of_ble_eq_true rfl) (fun f F Z hn0 hR => ?_)
  refine mh_aload0 (pc := 0) F dX6_keep_0 ?_
  refine mh_getr (b := 11) (pc := 1) F sh_10 (by decide) fw_RX6_11_6 dX6_keep_1 rfl (fx_10_0 hF) ?_
  refine mh_iload1 (pc := 4) F dX6_keep_4 ?_
  refine mh_iconst (pc := 5) F dX6_keep_5 ?_
  refine mh_idiv (pc := 6) F dX6_keep_6 (by omega) (by omega) (by omega) ?_
  refine mh_top (y := p / 5) (mh_eqI (Int.tdiv_eq_ediv_of_nonneg hp.1)) ?_
  refine mh_dup2 (pc := 7) F dX6_keep_7 rfl rfl ?_
  refine mh_laloadr (pc := 8) F sh_11 (by decide) (by omega) dX6_keep_8 r11 ?_
  refine mh_iload2 (pc := 9) F dX6_keep_9 ?_
  refine mh_i2l (pc := 10) F dX6_keep_10 (by omega) ?_
  refine mh_bipush (pc := 11) F dX6_keep_11 rfl ?_
  refine mh_iload1 (pc := 13) F dX6_keep_13 ?_
  refine mh_iconst (pc := 14) F dX6_keep_14 ?_
  refine mh_irem (pc := 15) F dX6_keep_15 (by omega) (by omega) (by omega) ?_
  refine mh_top (y := p % 5) (mh_eqI (Int.tmod_eq_emod_of_nonneg hp.1)) ?_
  refine mh_imul (pc := 16) F dX6_keep_16 ?_
  refine mh_rlshl (pc := 17) F dX6_keep_17 ?_
  refine mh_rlor (pc := 18) F dX6_keep_18 ?_
  refine mh_topl (y := w0 (p / 5) + v * sc_pw (p % 5)) (congrArg Int64.ofInt (sc_putp hr (by omega) hv hz)) ?_
  refine mh_lastore (pc := 19) F sh_11 (by decide) (by omega) dX6_keep_19 ?_
  refine mh_nmh (fun h1 e1 => ?_)
  have F1 : mh_FX h1 := by rw [e1]; exact hF.upa rfl
  have r11_1 : h1 11 = mh_ur w0 (p / 5) (w0 (p / 5) + v * sc_pw (p % 5)) := by rw [e1, mh_up_rs, r11]
  have fr1 : mh_fr [11] h h1 := mh_fr.up mh_fr.rf e1
  exact mh_return F Z dX6_keep_20 ⟨rfl, F1, fr1, r11_1⟩

/-! relays: least -/
def sc_Rl (h : Nat → Int → Int) (s wm : Int → Int) (k n fs : Int) : Prop := h 10 5 = n ∧ h 10 7 = fs ∧ (0 ≤ h 10 6 ∧ h 10 6 ≤ 60) ∧ (∀ j, 0 ≤ j → j < 4 → h 10 6 ≤ s (33 + 2 * j) ∧ h 14 j = s (33 + 2 * j) ∧ h 15 j = s (33 + 2 * j) * sp_jolts (s (41 + 9 * k + 0)) (s (41 + 9 * k + 1)) (s (33 + 2 * j + 1))) ∧ (∀ b, fs ≤ b → b < 9 → h 13 b = (if s (6 + 3 * b + 1) > 0 then 1 else 0) ∧ ∀ j, 0 ≤ j → j ≤ n → h 12 (b * 61 + j) = wm (b * 61 + j))
theorem sc_Rl.fr {h h2 : Nat → Int → Int} {s wm : Int → Int} {k n fs : Int} (H : sc_Rl h s wm k n fs) (e : ∀ a, a = 10 ∨ a = 12 ∨ a = 13 ∨ a = 14 ∨ a = 15 → h2 a = h a) : sc_Rl h2 s wm k n fs := by
  unfold sc_Rl at *
  rw [e 10 (by decide), e 12 (by decide), e 13 (by decide), e 14 (by decide), e 15 (by decide)]; exact H
def sc_low (u v : Int → Int) (b : Int) : Prop := ∀ j, j < b → v j = u j
theorem sc_low.tr {u v w : Int → Int} {b : Int} (x : sc_low u v b) (y : sc_low v w b) : sc_low u w b := fun j hj => (y j hj).trans (x j hj)
def sc_LP (s wm : Int → Int) (k n fs a t x : Int) (h : Nat → Int → Int) (r : Option Value) (h2 : Nat → Int → Int) : Prop := r = some (.int (Int32.ofInt (min 126 (sp_tab s wm k n (9 - a).toNat ((a * 61 + t) * 60 + x))))) ∧ mh_FX h2 ∧ mh_fr [11] h h2 ∧ sc_MI (h2 11) s wm k n fs ∧ sc_mono (sc_fv (h 11)) (sc_fv (h2 11)) ∧ (a ≤ 8 → sc_fv (h2 11) (a * 3660 + t * 60 + x) ≠ 0) ∧ sc_low (sc_fv (h 11)) (sc_fv (h2 11)) (a * 3660)
def sc_P (s wm : Int → Int) (k n a t x w : Int) : Int × Int := sp_lf s wm (sp_tab s wm k n (8 - a).toNat) k n a t x w.toNat
def sc_ch (be ch v : Int) : Prop := (be = 126 ∧ ch = 0) ∨ (be < 126 ∧ ch = v)
theorem sc_ch.le {be ch v : Int} (h : sc_ch be ch v) : be ≤ 126 := by unfold sc_ch at h; omega
def sc_nb (be : Int) (u s : Int → Int) (k a t x ch : Int) : Prop := be < 126 → sc_nx u s k a t x ch
theorem sc_P_at (s wm : Int → Int) (k n a t x : Int) {b c : Int} (hb : 0 ≤ b) (hc : 0 ≤ c ∧ c < 4) : sc_P s wm k n a t x (4 * b + (c + 1)) = if sp_lby s wm (sp_tab s wm k n (8 - a).toNat) k n a t x b c < (sc_P s wm k n a t x (4 * b + c)).1 then (sp_lby s wm (sp_tab s wm k n (8 - a).toNat) k n a t x b c, 10 * b + c) else sc_P s wm k n a t x (4 * b + c) := by
  have e4 : (4 * b + c).tdiv 4 = b := by rw [Int.tdiv_eq_ediv_of_nonneg (by omega)]; omega
  have e5 : (4 * b + c).tmod 4 = c := by rw [Int.tmod_eq_emod_of_nonneg (by omega)]; omega
  unfold sc_P
  rw [show 4 * b + (c + 1) = (4 * b + c) + 1 by omega, sp_lf_at _ _ _ _ _ _ _ _ (by omega)]
  unfold sp_lfw
  rw [e4, e5]
theorem sc_stepA {s wm : Int → Int} {k n a t x b c be v : Int} (hb : 0 ≤ b) (hc : 0 ≤ c ∧ c < 4) (hbe : be = min 126 (sc_P s wm k n a t x (4 * b + c)).1) (hv : sp_lby s wm (sp_tab s wm k n (8 - a).toNat) k n a t x b c = v) (h : v < be) : v = min 126 (sc_P s wm k n a t x (4 * b + (c + 1))).1 ∧ sc_ch v (10 * b + c) (sc_P s wm k n a t x (4 * b + (c + 1))).2 := by
  rw [sc_P_at s wm k n a t x hb hc, if_pos (by omega), hv]
  exact ⟨by show v = min 126 v; omega, Or.inr ⟨by omega, rfl⟩⟩
theorem sc_stepB {s wm : Int → Int} {k n a t x b c be ch v : Int} (hb : 0 ≤ b) (hc : 0 ≤ c ∧ c < 4) (hbe : be = min 126 (sc_P s wm k n a t x (4 * b + c)).1) (hch : sc_ch be ch (sc_P s wm k n a t x (4 * b + c)).2) (hv : sp_lby s wm (sp_tab s wm k n (8 - a).toNat) k n a t x b c = v) (h : be ≤ v) : be = min 126 (sc_P s wm k n a t x (4 * b + (c + 1))).1 ∧ sc_ch be ch (sc_P s wm k n a t x (4 * b + (c + 1))).2 := by
  rw [sc_P_at s wm k n a t x hb hc]
  by_cases z : sp_lby s wm (sp_tab s wm k n (8 - a).toNat) k n a t x b c < (sc_P s wm k n a t x (4 * b + c)).1
  · rw [if_pos z]
    unfold sc_ch at hch ⊢
    refine ⟨?_, ?_⟩
    · show be = min 126 (sp_lby s wm (sp_tab s wm k n (8 - a).toNat) k n a t x b c)
      omega
    · exact Or.inl (by omega)
  · rw [if_neg z]; exact ⟨hbe, hch⟩
theorem sc_nx_new {u s : Int → Int} {k a t x b c : Int} (hb : 0 ≤ b) (hc : 0 ≤ c ∧ c < 4) (H : a + 1 ≤ 8 → u ((a + 1) * 3660 + (t + b + s (33 + 2 * c)) * 60 + sp_then s k x c) ≠ 0) : sc_nx u s k a t x (10 * b + c) := fun q => by
  have e4 : (10 * b + c).tdiv 10 = b := by rw [Int.tdiv_eq_ediv_of_nonneg (by omega)]; omega
  have e5 : (10 * b + c).tmod 10 = c := by rw [Int.tmod_eq_emod_of_nonneg (by omega)]; omega
  rw [e4, e5]; exact H (by omega)
theorem sc_end {s wm : Int → Int} {k n a t x be ch : Int} (hbe : be = min 126 (sc_P s wm k n a t x 12).1) (hch : sc_ch be ch (sc_P s wm k n a t x 12).2) : be = min 126 (sc_H s wm k n a t x).1 ∧ 1 + 32 * be + ch = sc_M1 s wm k n a t x ∧ (be < 126 → ch = (sc_H s wm k n a t x).2) := by
  have e : sc_P s wm k n a t x 12 = sc_H s wm k n a t x := rfl
  rw [e] at hbe hch
  unfold sc_ch at hch
  refine ⟨hbe, ?_, fun q => by omega⟩
  unfold sc_M1
  rw [← hbe]
  split <;> omega
set_option maxRecDepth 100000 in
set_option maxHeartbeats 2000000 in
theorem k_betw {g : mh_G} {d : Nat} (hd : 1 ≤ d) {h : Nat → Int → Int} (hF : mh_FX h) {a t x : Int} {wm : Int → Int} (ha : 0 ≤ a ∧ a < 9) (ht : 0 ≤ t ∧ t ≤ 60) (hx : 0 ≤ x ∧ x ≤ 60) (e1 : h 12 (a * 61 + x) = wm (a * 61 + x)) (e2 : h 12 (a * 61 + t) = wm (a * 61 + t)) : mh_MP g d yX6_between cX6_between 4 (some .int) 96 [.ref 10, .int (Int32.ofInt (a)), .int (Int32.ofInt (t)), .int (Int32.ofInt (x))] h (some (.int (Int32.ofInt (wm (a * 61 + x) - wm (a * 61 + t))))) := by
  refine mh_M_of RX6 rfl (by decide +kernel) [some (.ref 10), some (.int (Int32.ofInt (a))), some (.int (Int32.ofInt (t))), some (.int (Int32.ofInt (x)))] rfl (Nat.le_of_ble_eq_true rfl) (fun f F Z hn0 hR => ?_)
  refine mh_aload0 (pc := 0) F dX6_between_0 ?_
  refine mh_getr (b := 12) (pc := 1) F sh_10 (by decide) fw_RX6_15_6 dX6_between_1 rfl (fx_10_1 hF) ?_
  refine mh_iload1 (pc := 4) F dX6_between_4 ?_
  refine mh_bipush (pc := 5) F dX6_between_5 rfl ?_
  refine mh_imul (pc := 7) F dX6_between_7 ?_
  refine mh_iload3 (pc := 8) F dX6_between_8 ?_
  refine mh_iadd (pc := 9) F dX6_between_9 ?_
  refine mh_iaload (pc := 10) F sh_12 (by decide) (by omega) dX6_between_10 ?_
  refine mh_aload0 (pc := 11) F dX6_between_11 ?_
  refine mh_getr (b := 12) (pc := 12) F sh_10 (by decide) fw_RX6_15_6 dX6_between_12 rfl (fx_10_1 hF) ?_
  refine mh_iload1 (pc := 15) F dX6_between_15 ?_
  refine mh_bipush (pc := 16) F dX6_between_16 rfl ?_
  refine mh_imul (pc := 18) F dX6_between_18 ?_
  refine mh_iload2 (pc := 19) F dX6_between_19 ?_
  refine mh_iadd (pc := 20) F dX6_between_20 ?_
  refine mh_iaload (pc := 21) F sh_12 (by decide) (by omega) dX6_between_21 ?_
  refine mh_isub (pc := 22) F dX6_between_22 ?_
  exact mh_ireturnp F Z dX6_between_23 (by rw [e1, e2]) rfl

set_option maxRecDepth 100000 in
set_option maxHeartbeats 2000000 in
theorem k_leastS {g : mh_G} {d : Nat} (hd : 4 ≤ d) {h : Nat → Int → Int} (hF : mh_FX h) {s wm : Int → Int} {k n fs a t x : Int} (hk : 0 ≤ k ∧ k < 6) (hi : sp_inv s) (hn : 0 ≤ n ∧ n ≤ 60) (hwm : sp_wmr wm) (hf0 : 0 ≤ fs) (ha : fs ≤ a ∧ a ≤ 9) (ht : 0 ≤ t ∧ t ≤ n) (hx : 0 ≤ x ∧ x < 60) (hRl : sc_Rl h s wm k n fs) (hMI : sc_MI (h 11) s wm k n fs) (IH : a ≤ 8 → ∀ {t x : Int} {h : Nat → Int → Int}, mh_FX h → sc_Rl h s wm k n fs → sc_MI (h 11) s wm k n fs → (0 ≤ t ∧ t ≤ n) → (0 ≤ x ∧ x < 60) → mh_M g (d - 1) yX6_least cX6_least 16 (some .int) 96 0 0 [.ref 10, .int (Int32.ofInt (a + 1)), .int (Int32.ofInt t), .int (Int32.ofInt x)] h (sc_LP s wm k n fs (a + 1) t x h)) : mh_M g d yX6_least cX6_least 16 (some .int) 96 0 0 [.ref 10, .int (Int32.ofInt (a)), .int (Int32.ofInt (t)), .int (Int32.ofInt (x))] h (sc_LP s wm k n fs a t x h) := by
  refine mh_M_of RX6 rfl (by decide +kernel) [some (.ref 10), some (.int (Int32.ofInt (a))), some (.int (Int32.ofInt (t))), some (.int (Int32.ofInt (x))), none, none, none, none, none, none, none, none, none, none, none, none] rfl (Nat.le_of_ble_eq_true rfl) (fun f F Z hn0 hR => ?_)
  refine mh_iload1 (pc := 0) F dX6_least_0 ?_
  refine mh_bipush (pc := 1) F dX6_least_1 rfl ?_
  refine mh_icmp_lt (pc := 3) (tgt := 8) F dX6_least_3 rfl (by omega) (by omega) (fun c_3 => ?_) (fun c_3 => ?_)
  · refine mh_iload1 (pc := 8) F dX6_least_8 ?_
    refine mh_iload2 (pc := 9) F dX6_least_9 ?_
    refine mh_iload3 (pc := 10) F dX6_least_10 ?_
    refine mh_callSp (pc := 11) (As := [.int (Int32.ofInt (a)), .int (Int32.ofInt (t)), .int (Int32.ofInt (x))]) (st := []) F (by omega) (k_place (by omega) (by omega) (by omega) (by omega)) ws_RX6_117 dX6_least_11 rfl rfl (Nat.le_of_ble_eq_true rfl) ⟨Nat.zero_le _, Nat.zero_le _⟩ ?_
    refine mh_top (y := a * 3660 + t * 60 + x) (mh_eqI (by rw [if_pos (by omega)])) ?_
    refine mh_istore4 (pc := 14) F dX6_least_14 rfl (by decide) ?_
    refine mh_iload4 (pc := 16) F dX6_least_16 ?_
    refine mh_if_ge (pc := 18) (tgt := 24) F dX6_least_18 rfl (by omega) (fun c_18 => ?_) (fun c_18 => ?_)
    · have hM1 := sc_M1_rg (s := s) (wm := wm) (k := k) (n := n) (a := a) (t := t) (x := x) hk hi hn (by omega) (by omega) hx hwm
      have hrow := hMI.1 ((a * 3660 + t * 60 + x) / 5) (by omega) (by omega)
      have hfr := sc_fv_rg (h 11) (a * 3660 + t * 60 + x)
      refine mh_aload0 (pc := 24) F dX6_least_24 ?_
      refine mh_iload4 (pc := 25) F dX6_least_25 ?_
      refine mh_callVp (pc := 27) (As := [.int (Int32.ofInt (a * 3660 + t * 60 + x))]) (st := []) F (by omega) (k_found (by omega) hF (by omega) hrow) wv_RX6_120_yX6_foundAt dX6_least_27 sh_10 rfl (by decide) rfl rfl (Nat.le_of_ble_eq_true rfl) ⟨Nat.zero_le _, Nat.zero_le _⟩ ?_
      refine mh_istore5 (pc := 30) F dX6_least_30 rfl (by decide) ?_
      refine mh_iload5 (pc := 32) F dX6_least_32 ?_
      refine mh_if_le (pc := 34) (tgt := 45) F dX6_least_34 rfl (by omega) (fun c_34 => ?_) (fun c_34 => ?_)
      · have hz0 : sc_fv (h 11) (a * 3660 + t * 60 + x) = 0 := by omega
        obtain ⟨R1, R2, hq6, R4, R5⟩ := id hRl
        have hqp : ∀ c, 0 ≤ c → c < 4 → h 10 6 ≤ s (33 + 2 * c) := fun c c0 c1 => (R4 c c0 c1).1
        have hmul := sc_mulr (q := h 10 6) (a := a) hq6 (by omega)
        have hH2 := hi.2.2.2.1.2
        have zc1 := (hi.2.2.2.2.1 k hk.1 hk.2).2.1
        unfold sp_row at zc1
        have hTok := sp_tab_ok hk hi hn hwm (8 - a).toNat (by omega)
        rw [show 9 - (((8 - a).toNat : Nat) : Int) = a + 1 by omega] at hTok
        refine mh_aload0 (pc := 45) F dX6_least_45 ?_
        refine mh_geti (pc := 46) F sh_10 (by decide) fw_RX6_38_6 dX6_least_46 rfl ?_
        refine mh_top (y := n) (mh_eqI R1) ?_
        refine mh_aload0 (pc := 49) F dX6_least_49 ?_
        refine mh_geti (pc := 50) F sh_10 (by decide) fw_RX6_73_6 dX6_least_50 rfl ?_
        refine mh_bipush (pc := 53) F dX6_least_53 rfl ?_
        refine mh_iload1 (pc := 55) F dX6_least_55 ?_
        refine mh_isub (pc := 56) F dX6_least_56 ?_
        refine mh_imul (pc := 57) F dX6_least_57 ?_
        refine mh_isub (pc := 58) F dX6_least_58 ?_
        refine mh_istore6 (pc := 59) F dX6_least_59 rfl (by decide) ?_
        refine mh_bipush (pc := 61) F dX6_least_61 rfl ?_
        refine mh_istore7 (pc := 63) F dX6_least_63 rfl (by decide) ?_
        refine mh_iconst (pc := 65) F dX6_least_65 ?_
        refine mh_istore8 (pc := 66) F dX6_least_66 rfl (by decide) ?_
        refine mh_iconst (pc := 68) F dX6_least_68 ?_
        refine mh_istore9 (pc := 69) F dX6_least_69 rfl (by decide) ?_
        have L71 : ∀ (m : Nat) (be : Int) (ch : Int) (wt : Int) (hg : Nat → Int → Int), (mh_FX hg) → (mh_fr [11] h hg) → (0 ≤ wt ∧ wt ≤ 3) → (be = min 126 (sc_P s wm k n a t x (4 * wt)).1) → (sc_ch be ch (sc_P s wm k n a t x (4 * wt)).2) → (sc_MI (hg 11) s wm k n fs) → (sc_mono (sc_fv (h 11)) (sc_fv (hg 11))) → (sc_low (sc_fv (h 11)) (sc_fv (hg 11)) ((a + 1) * 3660)) → (sc_nb be (sc_fv (hg 11)) s k a t x ch) → (3 - wt).toNat = m → mh_V g f 16 96 0 0 71 [some (.ref 10), some (.int (Int32.ofInt (a))), some (.int (Int32.ofInt (t))), some (.int (Int32.ofInt (x))), some (.int (Int32.ofInt (a * 3660 + t * 60 + x))), some (.int (Int32.ofInt (sc_fv (h 11) (a * 3660 + t * 60 + x)))), some (.int (Int32.ofInt (n - ((h 10 6) * (8 - a))))), some (.int (Int32.ofInt (be))), some (.int (Int32.ofInt (ch))), some (.int (Int32.ofInt (wt))), none, none, none, none, none, none] [] hg := by
          intro m
          induction m using Nat.strongRecOn with
          | _ m ihL71 =>
          intro be ch wt hg Fhg frhg hwt hbe hch hMg hmo hlo hnb hmz
          refine mh_iload9 (pc := 71) F dX6_least_71 ?_
          refine mh_iconst (pc := 73) F dX6_least_73 ?_
          refine mh_icmp_gt (pc := 74) (tgt := 214) F dX6_least_74 rfl (by omega) (by omega) (fun c_74 => ?_) (fun c_74 => ?_)
          · have hend := sc_end (s := s) (wm := wm) (k := k) (n := n) (a := a) (t := t) (x := x) (be := be) (ch := ch) (by rw [show (12 : Int) = 4 * wt by omega]; exact hbe) (by rw [show (12 : Int) = 4 * wt by omega]; exact hch)
            have hrow2 := hMg.1 ((a * 3660 + t * 60 + x) / 5) (by omega) (by omega)
            have hz2 : sc_fv (hg 11) (a * 3660 + t * 60 + x) = 0 := (hlo _ (by omega)).trans hz0
            refine mh_aload0 (pc := 214) F dX6_least_214 ?_
            refine mh_iload4 (pc := 215) F dX6_least_215 ?_
            refine mh_iconst (pc := 217) F dX6_least_217 ?_
            refine mh_bipush (pc := 218) F dX6_least_218 rfl ?_
            refine mh_iload7 (pc := 220) F dX6_least_220 ?_
            refine mh_imul (pc := 222) F dX6_least_222 ?_
            refine mh_iadd (pc := 223) F dX6_least_223 ?_
            refine mh_iload8 (pc := 224) F dX6_least_224 ?_
            refine mh_iadd (pc := 226) F dX6_least_226 ?_
            refine mh_callV0 (pc := 227) (As := [.int (Int32.ofInt (a * 3660 + t * 60 + x)), .int (Int32.ofInt ((1 + (32 * be)) + ch))]) (st := []) F (by omega) (k_keep (by omega) Fhg rfl (by omega) (by rw [hend.2.1]; omega) hrow2 hz2) wv_RX6_126_yX6_keep dX6_least_227 sh_10 rfl (by decide) rfl rfl (Nat.le_of_ble_eq_true rfl) ⟨Nat.zero_le _, Nat.zero_le _⟩ (fun r1 h1 q1 => ?_)
            obtain ⟨rfl, F1, frk1, qk1⟩ := q1
            have fr2 : mh_fr [11] h h1 := (mh_fr.tr frhg frk1).mono (by simp)
            have hset := sc_MI_set (v := 1 + 32 * be + ch) hMg (by omega) ⟨ht.1, ht.2, hn.2⟩ hx hf0 hz2 hend.2.1 (by rw [hend.2.1]; omega) (fun q => by rw [← hend.2.2 (by rw [hend.1]; omega)]; exact hnb (by rw [hend.1]; omega)) qk1
            refine mh_iload7 (pc := 230) F dX6_least_230 ?_
            exact mh_ireturn F Z dX6_least_232 ⟨mh_sv (by rw [sc_H_L (by omega) (by omega) hx, ← hend.1]), F1, fr2, hset.1, hmo.tr hset.2.1, (fun _ => by rw [hset.2.2, mh_ur_eq rfl, hend.2.1]; omega), (fun j hj => by rw [hset.2.2, mh_ur_ne (by omega)]; exact hlo j (by omega))⟩
          · refine mh_iload2 (pc := 77) F dX6_least_77 ?_
            refine mh_iload9 (pc := 78) F dX6_least_78 ?_
            refine mh_iadd (pc := 80) F dX6_least_80 ?_
            refine mh_istore10 (pc := 81) F dX6_least_81 rfl (by decide) ?_
            refine mh_iconst (pc := 83) F dX6_least_83 ?_
            refine mh_istore11 (pc := 84) F dX6_least_84 rfl (by decide) ?_
            have L86 : ∀ (m : Nat) (be : Int) (ch : Int) (ca : Int) (hm : Nat → Int → Int), (mh_FX hm) → (mh_fr [11] h hm) → (0 ≤ ca ∧ ca ≤ 4) → (be = min 126 (sc_P s wm k n a t x (4 * wt + ca)).1) → (sc_ch be ch (sc_P s wm k n a t x (4 * wt + ca)).2) → (sc_MI (hm 11) s wm k n fs) → (sc_mono (sc_fv (h 11)) (sc_fv (hm 11))) → (sc_low (sc_fv (h 11)) (sc_fv (hm 11)) ((a + 1) * 3660)) → (sc_nb be (sc_fv (hm 11)) s k a t x ch) → (4 - ca).toNat = m → mh_V g f 16 96 0 0 86 [some (.ref 10), some (.int (Int32.ofInt (a))), some (.int (Int32.ofInt (t))), some (.int (Int32.ofInt (x))), some (.int (Int32.ofInt (a * 3660 + t * 60 + x))), some (.int (Int32.ofInt (sc_fv (h 11) (a * 3660 + t * 60 + x)))), some (.int (Int32.ofInt (n - ((h 10 6) * (8 - a))))), some (.int (Int32.ofInt (be))), some (.int (Int32.ofInt (ch))), some (.int (Int32.ofInt (wt))), some (.int (Int32.ofInt (t + wt))), some (.int (Int32.ofInt (ca))), none, none, none, none] [] hm := by
              intro m
              induction m using Nat.strongRecOn with
              | _ m ihL86 =>
              intro be ch ca hm Fhm frhm hca hbe hch hMg hmo hlo hnb hmz
              refine mh_iload11 (pc := 86) F dX6_least_86 ?_
              refine mh_iconst (pc := 88) F dX6_least_88 ?_
              refine mh_icmp_ge (pc := 89) (tgt := 208) F dX6_least_89 rfl (by omega) (by omega) (fun c_89 => ?_) (fun c_89 => ?_)
              · refine mh_iinc9 (pc := 208) F dX6_least_208 rfl (by decide) ?_
                refine mh_goto (pc := 211) (tgt := 71) F dX6_least_211 rfl ?_
                refine mh_drop10 ?_
                refine mh_drop11 ?_
                exact ihL71 _ (by omega) be ch (wt + 1) hm Fhm (frhm.mono (by simp)) (by omega) (by rw [show 4 * (wt + 1) = 4 * wt + ca by omega]; exact hbe) (by rw [show 4 * (wt + 1) = 4 * wt + ca by omega]; exact hch) hMg hmo hlo hnb rfl
              · have hRm : sc_Rl hm s wm k n fs := hRl.fr (fun b hb => frhm b (by simp; omega))
                obtain ⟨-, -, -, hRj, hRb⟩ := hRm
                obtain ⟨j1, j2, j3⟩ := hRj ca (by omega) (by omega)
                obtain ⟨jc, hsum⟩ := hRb a (by omega) (by omega)
                have hpc := (hH2 ca (by omega) (by omega)).1
                have hsh := (hH2 ca (by omega) (by omega)).2
                have hjl := sp_jolts_rg (k := s (41 + 9 * k + 0)) zc1 hsh
                have hpj := mh_mulp (p := s (33 + 2 * ca)) (q := sp_jolts (s (41 + 9 * k + 0)) (s (41 + 9 * k + 1)) (s (33 + 2 * ca + 1))) (by omega) (by omega)
                have hth : 0 ≤ sp_then s k x ca ∧ sp_then s k x ca ≤ 20000 := by unfold sp_then; omega
                have hcool : (hm 13 a = 1 ∧ s (6 + 3 * a + 1) > 0) ∨ (hm 13 a = 0 ∧ ¬ s (6 + 3 * a + 1) > 0) := by rw [jc]; split <;> omega
                have hble := hch.le
                have hbe0 : 0 ≤ be := by rw [hbe]; have := (sp_lf_rg hk hi hn (show 0 ≤ a ∧ a < 9 by omega) (show 0 ≤ t ∧ t ≤ 60 by omega) hx hwm hTok (4 * wt + ca).toNat (by omega)).1; have : 0 ≤ (sc_P s wm k n a t x (4 * wt + ca)).1 := this; omega
                refine mh_iload10 (pc := 92) F dX6_least_92 ?_
                refine mh_aload0 (pc := 94) F dX6_least_94 ?_
                refine mh_getr (b := 14) (pc := 95) F sh_10 (by decide) fw_RX6_23_6 dX6_least_95 rfl (fx_10_3 Fhm) ?_
                refine mh_iload11 (pc := 98) F dX6_least_98 ?_
                refine mh_iaload (pc := 100) F sh_14 (by decide) (by omega) dX6_least_100 ?_
                refine mh_top (y := s (33 + 2 * ca)) (mh_eqI j2) ?_
                refine mh_iadd (pc := 101) F dX6_least_101 ?_
                refine mh_istore12 (pc := 102) F dX6_least_102 rfl (by decide) ?_
                refine mh_iload3 (pc := 104) F dX6_least_104 ?_
                refine mh_aload0 (pc := 105) F dX6_least_105 ?_
                refine mh_getr (b := 15) (pc := 106) F sh_10 (by decide) fw_RX6_26_6 dX6_least_106 rfl (fx_10_4 Fhm) ?_
                refine mh_iload11 (pc := 109) F dX6_least_109 ?_
                refine mh_iaload (pc := 111) F sh_15 (by decide) (by omega) dX6_least_111 ?_
                refine mh_top (y := s (33 + 2 * ca) * sp_jolts (s (41 + 9 * k + 0)) (s (41 + 9 * k + 1)) (s (33 + 2 * ca + 1))) (mh_eqI j3) ?_
                refine mh_iadd (pc := 112) F dX6_least_112 ?_
                refine mh_top (y := sp_then s k x ca) (mh_eqI rfl) ?_
                refine mh_istore13 (pc := 113) F dX6_least_113 rfl (by decide) ?_
                refine mh_iload12 (pc := 115) F dX6_least_115 ?_
                refine mh_iload6 (pc := 117) F dX6_least_117 ?_
                refine mh_icmp_gt (pc := 119) (tgt := 202) F dX6_least_119 rfl (by omega) (by omega) (fun c_119 => ?_) (fun c_119 => ?_)
                · have hpr : n - h 10 6 * (8 - a) < t + wt + s (33 + 2 * ca) ∨ 60 ≤ sp_then s k x ca := by omega
                  have hsp := sc_stepB (by omega) (show 0 ≤ ca ∧ ca < 4 by omega) hbe hch (sc_prune hk hi hn hwm hq6 hqp (by omega) ht hx (by omega) (by omega) hpr) (by omega)
                  refine mh_iinc11 (pc := 202) F dX6_least_202 rfl (by decide) ?_
                  refine mh_goto (pc := 205) (tgt := 86) F dX6_least_205 rfl ?_
                  refine mh_drop12 ?_
                  refine mh_drop13 ?_
                  exact ihL86 _ (by omega) be ch (ca + 1) hm Fhm (frhm.mono (by simp)) (by omega) hsp.1 hsp.2 hMg hmo hlo hnb rfl
                · refine mh_iload13 (pc := 122) F dX6_least_122 ?_
                  refine mh_bipush (pc := 124) F dX6_least_124 rfl ?_
                  refine mh_icmp_ge (pc := 126) (tgt := 202) F dX6_least_126 rfl (by omega) (by omega) (fun c_126 => ?_) (fun c_126 => ?_)
                  · have hpr : n - h 10 6 * (8 - a) < t + wt + s (33 + 2 * ca) ∨ 60 ≤ sp_then s k x ca := by omega
                    have hsp := sc_stepB (by omega) (show 0 ≤ ca ∧ ca < 4 by omega) hbe hch (sc_prune hk hi hn hwm hq6 hqp (by omega) ht hx (by omega) (by omega) hpr) (by omega)
                    refine mh_iinc11 (pc := 202) F dX6_least_202 rfl (by decide) ?_
                    refine mh_goto (pc := 205) (tgt := 86) F dX6_least_205 rfl ?_
                    refine mh_drop12 ?_
                    refine mh_drop13 ?_
                    exact ihL86 _ (by omega) be ch (ca + 1) hm Fhm (frhm.mono (by simp)) (by omega) hsp.1 hsp.2 hMg hmo hlo hnb rfl
                  · refine mh_aload0 (pc := 129) F dX6_least_129 ?_
                    refine mh_iload1 (pc := 130) F dX6_least_130 ?_
                    refine mh_aload0 (pc := 131) F dX6_least_131 ?_
                    refine mh_getr (b := 13) (pc := 132) F sh_10 (by decide) fw_RX6_19_6 dX6_least_132 rfl (fx_10_2 Fhm) ?_
                    refine mh_iload1 (pc := 135) F dX6_least_135 ?_
                    refine mh_zaload (pc := 136) F sh_13 (by decide) (by omega) dX6_least_136 ?_
                    refine mh_if_eq (pc := 137) (tgt := 145) F dX6_least_137 rfl (by omega) (fun c_137 => ?_) (fun c_137 => ?_)
                    · refine mh_iload2 (pc := 145) F dX6_least_145 ?_
                      refine mh_iload12 (pc := 146) F dX6_least_146 ?_
                      refine mh_callVp (pc := 148) (As := [.int (Int32.ofInt (a)), .int (Int32.ofInt (t)), .int (Int32.ofInt ((t + wt) + (s (33 + 2 * ca))))]) (st := []) F (by omega) (k_betw (wm := wm) (by omega) Fhm (by omega) (by omega) (by omega) (hsum _ (by omega) (by omega)) (hsum _ (by omega) (by omega))) wv_RX6_123_yX6_between dX6_least_148 sh_10 rfl (by decide) rfl rfl (Nat.le_of_ble_eq_true rfl) ⟨Nat.zero_le _, Nat.zero_le _⟩ ?_
                      refine mh_istore14 (pc := 151) F dX6_least_151 rfl (by decide) ?_
                      have hTv := hTok (t + wt + s (33 + 2 * ca)) (sp_then s k x ca) (by omega) (by omega) (by omega) (by omega)
                      have hw1 := (hwm a t (by omega) (by omega) (by omega) (by omega)).2.1 (t + wt) (by omega) (by omega)
                      have hw2 := (hwm a (t + wt) (by omega) (by omega) (by omega) (by omega)).2.1 (t + wt + s (33 + 2 * ca)) (by omega) (by omega)
                      have hw3 := (hwm a t (by omega) (by omega) (by omega) (by omega)).1
                      have hw4 := (hwm a (t + wt + s (33 + 2 * ca)) (by omega) (by omega) (by omega) (by omega)).2.2
                      obtain ⟨T, eT⟩ : ∃ z : Int, z = sp_tab s wm k n (8 - a).toNat (((a + 1) * 61 + (t + wt + s (33 + 2 * ca))) * 60 + sp_then s k x ca) := ⟨_, rfl⟩
                      rw [← eT] at hTv
                      have hlb : sp_lby s wm (sp_tab s wm k n (8 - a).toNat) k n a t x wt ca = min 1000000 (wm (a * 61 + ((t + wt) + (s (33 + 2 * ca)))) - wm (a * 61 + t) + T) := by rw [eT]; unfold sp_lby sp_lbr; rw [if_neg (by omega)]; first | (rw [if_pos (by omega)]; omega) | (rw [if_neg (by omega)]; omega)
                      refine mh_iload14 (pc := 153) F dX6_least_153 ?_
                      refine mh_iload7 (pc := 155) F dX6_least_155 ?_
                      refine mh_icmp_ge (pc := 157) (tgt := 177) F dX6_least_157 rfl (by omega) (by omega) (fun c_157 => ?_) (fun c_157 => ?_)
                      · refine mh_iload7 (pc := 177) F dX6_least_177 ?_
                        refine mh_istore15 (pc := 179) F dX6_least_179 rfl (by decide) ?_
                        refine mh_iload15 (pc := 181) F dX6_least_181 ?_
                        refine mh_iload7 (pc := 183) F dX6_least_183 ?_
                        refine mh_icmp_ge (pc := 185) (tgt := 202) F dX6_least_185 rfl (by omega) (by omega) (fun c_185 => ?_) (fun c_185 => ?_)
                        · have hsp := sc_stepB (by omega) (show 0 ≤ ca ∧ ca < 4 by omega) hbe hch hlb (by omega)
                          refine mh_iinc11 (pc := 202) F dX6_least_202 rfl (by decide) ?_
                          refine mh_goto (pc := 205) (tgt := 86) F dX6_least_205 rfl ?_
                          refine mh_drop12 ?_
                          refine mh_drop13 ?_
                          refine mh_drop14 ?_
                          refine mh_drop15 ?_
                          exact ihL86 _ (by omega) be ch (ca + 1) hm Fhm (frhm.mono (by simp)) (by omega) hsp.1 hsp.2 hMg hmo hlo hnb rfl
                        · exfalso; omega
                      · refine mh_iload14 (pc := 160) F dX6_least_160 ?_
                        refine mh_aload0 (pc := 162) F dX6_least_162 ?_
                        refine mh_iload1 (pc := 163) F dX6_least_163 ?_
                        refine mh_iconst (pc := 164) F dX6_least_164 ?_
                        refine mh_iadd (pc := 165) F dX6_least_165 ?_
                        refine mh_iload12 (pc := 166) F dX6_least_166 ?_
                        refine mh_iload13 (pc := 168) F dX6_least_168 ?_
                        refine mh_callV0 (pc := 170) (As := [.int (Int32.ofInt (a + 1)), .int (Int32.ofInt ((t + wt) + (s (33 + 2 * ca)))), .int (Int32.ofInt (sp_then s k x ca))]) (st := [.int (Int32.ofInt (wm (a * 61 + ((t + wt) + (s (33 + 2 * ca)))) - wm (a * 61 + t)))]) F (by omega) (IH (by omega) Fhm (hRl.fr (fun b hb => frhm b (by simp; omega))) hMg (by omega) (by omega)) wv_RX6_98_yX6_least dX6_least_170 sh_10 rfl (by decide) rfl rfl (Nat.le_of_ble_eq_true rfl) ⟨Nat.zero_le _, Nat.zero_le _⟩ (fun r3 h3 q3 => ?_)
                        obtain ⟨rfl, F3, frl3, hMg2, hmo2, hnz2, hlo2⟩ := q3
                        have fr4 : mh_fr [11] h h3 := (mh_fr.tr frhm frl3).mono (by simp)
                        have hV9 : sp_tab s wm k n (9 - (a + 1)).toNat (((a + 1) * 61 + ((t + wt) + (s (33 + 2 * ca)))) * 60 + (sp_then s k x ca)) = T := by rw [eT, show 9 - (a + 1) = 8 - a by omega]
                        refine mh_top (y := min 126 T) (mh_eqI (by rw [hV9])) ?_
                        refine mh_iadd (pc := 173) F dX6_least_173 ?_
                        refine mh_goto (pc := 174) (tgt := 179) F dX6_least_174 rfl ?_
                        refine mh_istore15 (pc := 179) F dX6_least_179 rfl (by decide) ?_
                        refine mh_iload15 (pc := 181) F dX6_least_181 ?_
                        refine mh_iload7 (pc := 183) F dX6_least_183 ?_
                        refine mh_icmp_ge (pc := 185) (tgt := 202) F dX6_least_185 rfl (by omega) (by omega) (fun c_185 => ?_) (fun c_185 => ?_)
                        · have hsp := sc_stepB (by omega) (show 0 ≤ ca ∧ ca < 4 by omega) hbe hch hlb (by omega)
                          refine mh_iinc11 (pc := 202) F dX6_least_202 rfl (by decide) ?_
                          refine mh_goto (pc := 205) (tgt := 86) F dX6_least_205 rfl ?_
                          refine mh_drop12 ?_
                          refine mh_drop13 ?_
                          refine mh_drop14 ?_
                          refine mh_drop15 ?_
                          exact ihL86 _ (by omega) be ch (ca + 1) h3 F3 (fr4.mono (by simp)) (by omega) hsp.1 hsp.2 hMg2 (hmo.tr hmo2) (hlo.tr hlo2) (fun q => (hnb q).mono hmo2) rfl
                        · have hsp := sc_stepA (by omega) (show 0 ≤ ca ∧ ca < 4 by omega) hbe (hlb.trans (show _ = (wm (a * 61 + ((t + wt) + (s (33 + 2 * ca)))) - wm (a * 61 + t)) + (min 126 T) by omega)) (by omega)
                          refine mh_iload15 (pc := 188) F dX6_least_188 ?_
                          refine mh_istore7 (pc := 190) F dX6_least_190 rfl (by decide) ?_
                          refine mh_bipush (pc := 192) F dX6_least_192 rfl ?_
                          refine mh_iload9 (pc := 194) F dX6_least_194 ?_
                          refine mh_imul (pc := 196) F dX6_least_196 ?_
                          refine mh_iload11 (pc := 197) F dX6_least_197 ?_
                          refine mh_iadd (pc := 199) F dX6_least_199 ?_
                          refine mh_istore8 (pc := 200) F dX6_least_200 rfl (by decide) ?_
                          refine mh_iinc11 (pc := 202) F dX6_least_202 rfl (by decide) ?_
                          refine mh_goto (pc := 205) (tgt := 86) F dX6_least_205 rfl ?_
                          refine mh_drop12 ?_
                          refine mh_drop13 ?_
                          refine mh_drop14 ?_
                          refine mh_drop15 ?_
                          exact ihL86 _ (by omega) ((wm (a * 61 + ((t + wt) + (s (33 + 2 * ca)))) - wm (a * 61 + t)) + (min 126 T)) ((10 * wt) + ca) (ca + 1) h3 F3 (fr4.mono (by simp)) (by omega) hsp.1 hsp.2 hMg2 (hmo.tr hmo2) (hlo.tr hlo2) (fun _ => sc_nx_new (by omega) (by omega) hnz2) rfl
                    · refine mh_iload10 (pc := 140) F dX6_least_140 ?_
                      refine mh_goto (pc := 142) (tgt := 146) F dX6_least_142 rfl ?_
                      refine mh_iload12 (pc := 146) F dX6_least_146 ?_
                      refine mh_callVp (pc := 148) (As := [.int (Int32.ofInt (a)), .int (Int32.ofInt (t + wt)), .int (Int32.ofInt ((t + wt) + (s (33 + 2 * ca))))]) (st := []) F (by omega) (k_betw (wm := wm) (by omega) Fhm (by omega) (by omega) (by omega) (hsum _ (by omega) (by omega)) (hsum _ (by omega) (by omega))) wv_RX6_123_yX6_between dX6_least_148 sh_10 rfl (by decide) rfl rfl (Nat.le_of_ble_eq_true rfl) ⟨Nat.zero_le _, Nat.zero_le _⟩ ?_
                      refine mh_istore14 (pc := 151) F dX6_least_151 rfl (by decide) ?_
                      have hTv := hTok (t + wt + s (33 + 2 * ca)) (sp_then s k x ca) (by omega) (by omega) (by omega) (by omega)
                      have hw1 := (hwm a t (by omega) (by omega) (by omega) (by omega)).2.1 (t + wt) (by omega) (by omega)
                      have hw2 := (hwm a (t + wt) (by omega) (by omega) (by omega) (by omega)).2.1 (t + wt + s (33 + 2 * ca)) (by omega) (by omega)
                      have hw3 := (hwm a t (by omega) (by omega) (by omega) (by omega)).1
                      have hw4 := (hwm a (t + wt + s (33 + 2 * ca)) (by omega) (by omega) (by omega) (by omega)).2.2
                      obtain ⟨T, eT⟩ : ∃ z : Int, z = sp_tab s wm k n (8 - a).toNat (((a + 1) * 61 + (t + wt + s (33 + 2 * ca))) * 60 + sp_then s k x ca) := ⟨_, rfl⟩
                      rw [← eT] at hTv
                      have hlb : sp_lby s wm (sp_tab s wm k n (8 - a).toNat) k n a t x wt ca = min 1000000 (wm (a * 61 + ((t + wt) + (s (33 + 2 * ca)))) - wm (a * 61 + (t + wt)) + T) := by rw [eT]; unfold sp_lby sp_lbr; rw [if_neg (by omega)]; first | (rw [if_pos (by omega)]; omega) | (rw [if_neg (by omega)]; omega)
                      refine mh_iload14 (pc := 153) F dX6_least_153 ?_
                      refine mh_iload7 (pc := 155) F dX6_least_155 ?_
                      refine mh_icmp_ge (pc := 157) (tgt := 177) F dX6_least_157 rfl (by omega) (by omega) (fun c_157 => ?_) (fun c_157 => ?_)
                      · refine mh_iload7 (pc := 177) F dX6_least_177 ?_
                        refine mh_istore15 (pc := 179) F dX6_least_179 rfl (by decide) ?_
                        refine mh_iload15 (pc := 181) F dX6_least_181 ?_
                        refine mh_iload7 (pc := 183) F dX6_least_183 ?_
                        refine mh_icmp_ge (pc := 185) (tgt := 202) F dX6_least_185 rfl (by omega) (by omega) (fun c_185 => ?_) (fun c_185 => ?_)
                        · have hsp := sc_stepB (by omega) (show 0 ≤ ca ∧ ca < 4 by omega) hbe hch hlb (by omega)
                          refine mh_iinc11 (pc := 202) F dX6_least_202 rfl (by decide) ?_
                          refine mh_goto (pc := 205) (tgt := 86) F dX6_least_205 rfl ?_
                          refine mh_drop12 ?_
                          refine mh_drop13 ?_
                          refine mh_drop14 ?_
                          refine mh_drop15 ?_
                          exact ihL86 _ (by omega) be ch (ca + 1) hm Fhm (frhm.mono (by simp)) (by omega) hsp.1 hsp.2 hMg hmo hlo hnb rfl
                        · exfalso; omega
                      · refine mh_iload14 (pc := 160) F dX6_least_160 ?_
                        refine mh_aload0 (pc := 162) F dX6_least_162 ?_
                        refine mh_iload1 (pc := 163) F dX6_least_163 ?_
                        refine mh_iconst (pc := 164) F dX6_least_164 ?_
                        refine mh_iadd (pc := 165) F dX6_least_165 ?_
                        refine mh_iload12 (pc := 166) F dX6_least_166 ?_
                        refine mh_iload13 (pc := 168) F dX6_least_168 ?_
                        refine mh_callV0 (pc := 170) (As := [.int (Int32.ofInt (a + 1)), .int (Int32.ofInt ((t + wt) + (s (33 + 2 * ca)))), .int (Int32.ofInt (sp_then s k x ca))]) (st := [.int (Int32.ofInt (wm (a * 61 + ((t + wt) + (s (33 + 2 * ca)))) - wm (a * 61 + (t + wt))))]) F (by omega) (IH (by omega) Fhm (hRl.fr (fun b hb => frhm b (by simp; omega))) hMg (by omega) (by omega)) wv_RX6_98_yX6_least dX6_least_170 sh_10 rfl (by decide) rfl rfl (Nat.le_of_ble_eq_true rfl) ⟨Nat.zero_le _, Nat.zero_le _⟩ (fun r5 h5 q5 => ?_)
                        obtain ⟨rfl, F5, frl5, hMg2, hmo2, hnz2, hlo2⟩ := q5
                        have fr6 : mh_fr [11] h h5 := (mh_fr.tr frhm frl5).mono (by simp)
                        have hV9 : sp_tab s wm k n (9 - (a + 1)).toNat (((a + 1) * 61 + ((t + wt) + (s (33 + 2 * ca)))) * 60 + (sp_then s k x ca)) = T := by rw [eT, show 9 - (a + 1) = 8 - a by omega]
                        refine mh_top (y := min 126 T) (mh_eqI (by rw [hV9])) ?_
                        refine mh_iadd (pc := 173) F dX6_least_173 ?_
                        refine mh_goto (pc := 174) (tgt := 179) F dX6_least_174 rfl ?_
                        refine mh_istore15 (pc := 179) F dX6_least_179 rfl (by decide) ?_
                        refine mh_iload15 (pc := 181) F dX6_least_181 ?_
                        refine mh_iload7 (pc := 183) F dX6_least_183 ?_
                        refine mh_icmp_ge (pc := 185) (tgt := 202) F dX6_least_185 rfl (by omega) (by omega) (fun c_185 => ?_) (fun c_185 => ?_)
                        · have hsp := sc_stepB (by omega) (show 0 ≤ ca ∧ ca < 4 by omega) hbe hch hlb (by omega)
                          refine mh_iinc11 (pc := 202) F dX6_least_202 rfl (by decide) ?_
                          refine mh_goto (pc := 205) (tgt := 86) F dX6_least_205 rfl ?_
                          refine mh_drop12 ?_
                          refine mh_drop13 ?_
                          refine mh_drop14 ?_
                          refine mh_drop15 ?_
                          exact ihL86 _ (by omega) be ch (ca + 1) h5 F5 (fr6.mono (by simp)) (by omega) hsp.1 hsp.2 hMg2 (hmo.tr hmo2) (hlo.tr hlo2) (fun q => (hnb q).mono hmo2) rfl
                        · have hsp := sc_stepA (by omega) (show 0 ≤ ca ∧ ca < 4 by omega) hbe (hlb.trans (show _ = (wm (a * 61 + ((t + wt) + (s (33 + 2 * ca)))) - wm (a * 61 + (t + wt))) + (min 126 T) by omega)) (by omega)
                          refine mh_iload15 (pc := 188) F dX6_least_188 ?_
                          refine mh_istore7 (pc := 190) F dX6_least_190 rfl (by decide) ?_
                          refine mh_bipush (pc := 192) F dX6_least_192 rfl ?_
                          refine mh_iload9 (pc := 194) F dX6_least_194 ?_
                          refine mh_imul (pc := 196) F dX6_least_196 ?_
                          refine mh_iload11 (pc := 197) F dX6_least_197 ?_
                          refine mh_iadd (pc := 199) F dX6_least_199 ?_
                          refine mh_istore8 (pc := 200) F dX6_least_200 rfl (by decide) ?_
                          refine mh_iinc11 (pc := 202) F dX6_least_202 rfl (by decide) ?_
                          refine mh_goto (pc := 205) (tgt := 86) F dX6_least_205 rfl ?_
                          refine mh_drop12 ?_
                          refine mh_drop13 ?_
                          refine mh_drop14 ?_
                          refine mh_drop15 ?_
                          exact ihL86 _ (by omega) ((wm (a * 61 + ((t + wt) + (s (33 + 2 * ca)))) - wm (a * 61 + (t + wt))) + (min 126 T)) ((10 * wt) + ca) (ca + 1) h5 F5 (fr6.mono (by simp)) (by omega) hsp.1 hsp.2 hMg2 (hmo.tr hmo2) (hlo.tr hlo2) (fun _ => sc_nx_new (by omega) (by omega) hnz2) rfl
            exact L86 _ be ch 0 hg Fhg (frhg.mono (by simp)) (by omega) (by rw [show 4 * wt + 0 = 4 * wt by omega]; exact hbe) (by rw [show 4 * wt + 0 = 4 * wt by omega]; exact hch) hMg hmo hlo hnb rfl
        exact L71 _ 126 0 0 h hF (mh_fr.rf.mono (by simp)) (by omega) (by show (126 : Int) = min 126 1000000; decide) (Or.inl ⟨rfl, rfl⟩) hMI sc_mono.rf (fun _ _ => rfl) (fun q => absurd q (by decide)) rfl
      · have hat := (hMI.2 a t x (by omega) (by omega) ht.1 ht.2 hx.1 hx.2).resolve_left (by omega)
        refine mh_iload5 (pc := 37) F dX6_least_37 ?_
        refine mh_top (y := sc_M1 s wm k n a t x) (mh_eqI hat.1) ?_
        refine mh_iconst (pc := 39) F dX6_least_39 ?_
        refine mh_isub (pc := 40) F dX6_least_40 ?_
        refine mh_bipush (pc := 41) F dX6_least_41 rfl ?_
        refine mh_idiv (pc := 43) F dX6_least_43 (by omega) (by omega) (by omega) ?_
        exact mh_ireturn F Z dX6_least_44 ⟨mh_sv (by rw [sc_H_L (by omega) (by omega) hx, hM1.2.2.1]), hF, mh_fr.rf.mono (by simp), hMI, sc_mono.rf, (fun _ => by rw [hat.1]; omega), (fun _ _ => rfl)⟩
    · exfalso; omega
  · refine mh_iconst (pc := 6) F dX6_least_6 ?_
    exact mh_ireturn F Z dX6_least_7 ⟨by rw [show a = 9 by omega]; rfl, hF, mh_fr.rf.mono (by simp), hMI, sc_mono.rf, (fun q => by omega), (fun _ _ => rfl)⟩

