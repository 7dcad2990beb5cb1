section
variable {g : mh_G} {f : mh_F} {own : String} {cc : ByteArray} {nL d n cl sl pc : Nat} {st : List Value} {h : Nat → Int → Int}
theorem mh_iload14 (F : mh_Fr g f own cc nL d) {x0 x1 x2 x3 x4 x5 x6 x7 x8 x9 x10 x11 x12 x13 : Option Value} {r : List (Option Value)} {x : Int32} (hd : decode cc pc = .ok (.iload 14, 2)) (k : mh_V g f nL n cl sl (pc + 2) (x0 :: x1 :: x2 :: x3 :: x4 :: x5 :: x6 :: x7 :: x8 :: x9 :: x10 :: x11 :: x12 :: x13 :: some (.int x) :: r) (.int x :: st) h) : mh_V g f nL n cl sl pc (x0 :: x1 :: x2 :: x3 :: x4 :: x5 :: x6 :: x7 :: x8 :: x9 :: x10 :: x11 :: x12 :: x13 :: some (.int x) :: r) st h := mh_iload F hd rfl k
theorem mh_istore14 (F : mh_Fr g f own cc nL d) {x0 x1 x2 x3 x4 x5 x6 x7 x8 x9 x10 x11 x12 x13 : Option Value} {r : List (Option Value)} {y : Option Value} {x : Int32} (hd : decode cc pc = .ok (.istore 14, 2)) (hc : mh_c1 x13 = true) (hn : 14 < nL) (k : mh_V g f nL n cl sl (pc + 2) (x0 :: x1 :: x2 :: x3 :: x4 :: x5 :: x6 :: x7 :: x8 :: x9 :: x10 :: x11 :: x12 :: x13 :: some (.int x) :: r) st h) : mh_V g f nL n cl sl pc (x0 :: x1 :: x2 :: x3 :: x4 :: x5 :: x6 :: x7 :: x8 :: x9 :: x10 :: x11 :: x12 :: x13 :: y :: r) (.int x :: st) h := mh_istoreg (i := 14) F hd hn (by show mh_V g f nL n cl sl (pc + 2) (mh_st1 (x0 :: x1 :: x2 :: x3 :: x4 :: x5 :: x6 :: x7 :: x8 :: x9 :: x10 :: x11 :: x12 :: x13 :: y :: r) 14 (.int x)) st h; rw [show mh_st1 (x0 :: x1 :: x2 :: x3 :: x4 :: x5 :: x6 :: x7 :: x8 :: x9 :: x10 :: x11 :: x12 :: x13 :: y :: r) 14 (.int x) = x0 :: x1 :: x2 :: x3 :: x4 :: x5 :: x6 :: x7 :: x8 :: x9 :: x10 :: x11 :: x12 :: x13 :: some (.int x) :: r from (mh_st1_s (r := y :: r) [x0, x1, x2, x3, x4, x5, x6, x7, x8, x9, x10, x11, x12] x13 hc)] ; exact k)
theorem mh_drop14 {x0 x1 x2 x3 x4 x5 x6 x7 x8 x9 x10 x11 x12 x13 : Option Value} {r : List (Option Value)} {x : Option Value} (k : mh_V g f nL n cl sl pc (x0 :: x1 :: x2 :: x3 :: x4 :: x5 :: x6 :: x7 :: x8 :: x9 :: x10 :: x11 :: x12 :: x13 :: none :: r) st h) : mh_V g f nL n cl sl pc (x0 :: x1 :: x2 :: x3 :: x4 :: x5 :: x6 :: x7 :: x8 :: x9 :: x10 :: x11 :: x12 :: x13 :: x :: r) st h := mh_weak (fun j v q => by
  rcases j with _ | j
  · exact q
  rcases j with _ | j
  · exact q
  rcases j with _ | j
  · exact q
  rcases j with _ | j
  · exact q
  rcases j with _ | j
  · exact q
  rcases j with _ | j
  · exact q
  rcases j with _ | j
  · exact q
  rcases j with _ | j
  · exact q
  rcases j with _ | j
  · exact q
  rcases j with _ | j
  · exact q
  rcases j with _ | j
  · exact q
  rcases j with _ | j
  · exact q
  rcases j with _ | j
  · exact q
  rcases j with _ | j
  · exact q
  rcases j with _ | j
  · simp at q
  · exact q) k
end
/-! relays: least -/
def sc_Rl (h : Nat → Int → Int) (s wm : Int → Int) (k n fs : Int) : Prop := h 10 5 = n ∧ h 10 7 = fs ∧ (0 ≤ h 10 6 ∧ h 10 6 ≤ 60) ∧ (∀ j, 0 ≤ j → j < 4 → h 10 6 ≤ s (33 + 2 * j) ∧ h 14 j = s (33 + 2 * j) ∧ h 15 j = s (33 + 2 * j) * sp_jolts (s (41 + 9 * k + 0)) (s (41 + 9 * k + 1)) (s (33 + 2 * j + 1))) ∧ (∀ b, fs ≤ b → b < 9 → h 13 b = (if s (6 + 3 * b + 1) > 0 then 1 else 0) ∧ ∀ j, 0 ≤ j → j ≤ n → h 12 (b * 61 + j) = wm (b * 61 + j))
theorem sc_Rl.fr {h h2 : Nat → Int → Int} {s wm : Int → Int} {k n fs : Int} (H : sc_Rl h s wm k n fs) (e : ∀ a, a = 10 ∨ a = 12 ∨ a = 13 ∨ a = 14 ∨ a = 15 → h2 a = h a) : sc_Rl h2 s wm k n fs := by
  unfold sc_Rl at *
  rw [e 10 (by decide), e 12 (by decide), e 13 (by decide), e 14 (by decide), e 15 (by decide)]; exact H
def sc_low (u v : Int → Int) (b : Int) : Prop := ∀ j, j < b → v j = u j
theorem sc_low.tr {u v w : Int → Int} {b : Int} (x : sc_low u v b) (y : sc_low v w b) : sc_low u w b := fun j hj => (y j hj).trans (x j hj)
def sc_LP (s wm : Int → Int) (k n fs a t x : Int) (h : Nat → Int → Int) (r : Option Value) (h2 : Nat → Int → Int) : Prop := r = some (.int (Int32.ofInt (sp_tab s wm k n (9 - a).toNat ((a * 61 + t) * 60 + x)))) ∧ mh_FX h2 ∧ mh_fr [11] h h2 ∧ sc_MI (h2 11) s wm k n fs ∧ sc_mono (h 11) (h2 11) ∧ (a ≤ 8 → h2 11 (a * 3660 + t * 60 + x) ≠ 0) ∧ sc_low (h 11) (h2 11) (a * 3660)
def sc_P (s wm : Int → Int) (k n a t x w : Int) : Int × Int := sp_lf s wm (sp_tab s wm k n (8 - a).toNat) k n a t x w.toNat
def sc_ch (be ch v : Int) : Prop := (be = 1000000 ∧ ch = 0) ∨ (be < 1000000 ∧ ch = v)
theorem sc_ch.le {be ch v : Int} (h : sc_ch be ch v) : be ≤ 1000000 := by unfold sc_ch at h; omega
def sc_nb (be : Int) (u s : Int → Int) (k a t x ch : Int) : Prop := be < 1000000 → sc_nx u s k a t x ch
theorem sc_P_at (s wm : Int → Int) (k n a t x : Int) {b c : Int} (hb : 0 ≤ b) (hc : 0 ≤ c ∧ c < 4) : sc_P s wm k n a t x (4 * b + (c + 1)) = if sp_lby s wm (sp_tab s wm k n (8 - a).toNat) k n a t x b c < (sc_P s wm k n a t x (4 * b + c)).1 then (sp_lby s wm (sp_tab s wm k n (8 - a).toNat) k n a t x b c, 10 * b + c) else sc_P s wm k n a t x (4 * b + c) := by
  have e4 : (4 * b + c).tdiv 4 = b := by rw [Int.tdiv_eq_ediv_of_nonneg (by omega)]; omega
  have e5 : (4 * b + c).tmod 4 = c := by rw [Int.tmod_eq_emod_of_nonneg (by omega)]; omega
  unfold sc_P
  rw [show 4 * b + (c + 1) = (4 * b + c) + 1 by omega, sp_lf_at _ _ _ _ _ _ _ _ (by omega)]
  unfold sp_lfw
  rw [e4, e5]
theorem sc_stepA {s wm : Int → Int} {k n a t x b c be v : Int} (hb : 0 ≤ b) (hc : 0 ≤ c ∧ c < 4) (hbe : be = (sc_P s wm k n a t x (4 * b + c)).1) (hle : be ≤ 1000000) (hv : sp_lby s wm (sp_tab s wm k n (8 - a).toNat) k n a t x b c = min 1000000 v) (h : v < be) : v = (sc_P s wm k n a t x (4 * b + (c + 1))).1 ∧ sc_ch v (10 * b + c) (sc_P s wm k n a t x (4 * b + (c + 1))).2 := by
  rw [sc_P_at s wm k n a t x hb hc, if_pos (by omega), hv]
  exact ⟨by show v = min 1000000 v; omega, Or.inr ⟨by omega, rfl⟩⟩
theorem sc_stepB {s wm : Int → Int} {k n a t x b c be ch v : Int} (hb : 0 ≤ b) (hc : 0 ≤ c ∧ c < 4) (hbe : be = (sc_P s wm k n a t x (4 * b + c)).1) (hch : sc_ch be ch (sc_P s wm k n a t x (4 * b + c)).2) (hv : sp_lby s wm (sp_tab s wm k n (8 - a).toNat) k n a t x b c = min 1000000 v) (h : be ≤ v) : be = (sc_P s wm k n a t x (4 * b + (c + 1))).1 ∧ sc_ch be ch (sc_P s wm k n a t x (4 * b + (c + 1))).2 := by
  have hle := hch.le
  rw [sc_P_at s wm k n a t x hb hc, if_neg (by omega)]
  exact ⟨hbe, hch⟩
theorem sc_nx_new {u s : Int → Int} {k a t x b c : Int} (hb : 0 ≤ b) (hc : 0 ≤ c ∧ c < 4) (H : a + 1 ≤ 8 → u ((a + 1) * 3660 + (t + b + s (33 + 2 * c)) * 60 + sp_then s k x c) ≠ 0) : sc_nx u s k a t x (10 * b + c) := fun q => by
  have e4 : (10 * b + c).tdiv 10 = b := by rw [Int.tdiv_eq_ediv_of_nonneg (by omega)]; omega
  have e5 : (10 * b + c).tmod 10 = c := by rw [Int.tmod_eq_emod_of_nonneg (by omega)]; omega
  rw [e4, e5]; exact H (by omega)
theorem sc_end {s wm : Int → Int} {k n a t x be ch : Int} (hbe : be = (sc_P s wm k n a t x 12).1) (hch : sc_ch be ch (sc_P s wm k n a t x 12).2) : be = (sc_H s wm k n a t x).1 ∧ 1 + 32 * be + ch = sc_M1 s wm k n a t x ∧ (be < 1000000 → ch = (sc_H s wm k n a t x).2) := by
  have e : sc_P s wm k n a t x 12 = sc_H s wm k n a t x := rfl
  rw [e] at hbe hch
  unfold sc_ch at hch
  refine ⟨hbe, ?_, fun q => by omega⟩
  unfold sc_M1
  rw [← hbe]
  split <;> omega
set_option maxRecDepth 100000 in
set_option maxHeartbeats 2000000 in
theorem k_betw {g : mh_G} {d : Nat} (hd : 1 ≤ d) {h : Nat → Int → Int} (hF : mh_FX h) {a t x : Int} {wm : Int → Int} (ha : 0 ≤ a ∧ a < 9) (ht : 0 ≤ t ∧ t ≤ 60) (hx : 0 ≤ x ∧ x ≤ 60) (e1 : h 12 (a * 61 + x) = wm (a * 61 + x)) (e2 : h 12 (a * 61 + t) = wm (a * 61 + t)) : mh_MP g d yX6_between cX6_between 4 (some .int) 96 [.ref 10, .int (Int32.ofInt (a)), .int (Int32.ofInt (t)), .int (Int32.ofInt (x))] h (some (.int (Int32.ofInt (wm (a * 61 + x) - wm (a * 61 + t))))) := by
  refine mh_M_of RX6 rfl (by decide +kernel) [some (.ref 10), some (.int (Int32.ofInt (a))), some (.int (Int32.ofInt (t))), some (.int (Int32.ofInt (x)))] rfl (Nat.le_of_ble_eq_true rfl) (fun f F Z hn0 hR => ?_)
  refine mh_aload0 (pc := 0) F dX6_between_0 ?_
  refine mh_getr (b := 12) (pc := 1) F sh_10 (by decide) fw_RX6_16_6 dX6_between_1 rfl (fx_10_1 hF) ?_
  refine mh_iload1 (pc := 4) F dX6_between_4 ?_
  refine mh_bipush (pc := 5) F dX6_between_5 rfl ?_
  refine mh_imul (pc := 7) F dX6_between_7 ?_
  refine mh_iload3 (pc := 8) F dX6_between_8 ?_
  refine mh_iadd (pc := 9) F dX6_between_9 ?_
  refine mh_iaload (pc := 10) F sh_12 (by decide) (by omega) dX6_between_10 ?_
  refine mh_aload0 (pc := 11) F dX6_between_11 ?_
  refine mh_getr (b := 12) (pc := 12) F sh_10 (by decide) fw_RX6_16_6 dX6_between_12 rfl (fx_10_1 hF) ?_
  refine mh_iload1 (pc := 15) F dX6_between_15 ?_
  refine mh_bipush (pc := 16) F dX6_between_16 rfl ?_
  refine mh_imul (pc := 18) F dX6_between_18 ?_
  refine mh_iload2 (pc := 19) F dX6_between_19 ?_
  refine mh_iadd (pc := 20) F dX6_between_20 ?_
  refine mh_iaload (pc := 21) F sh_12 (by decide) (by omega) dX6_between_21 ?_
  refine mh_isub (pc := 22) F dX6_between_22 ?_
  exact mh_ireturnp F Z dX6_between_23 (by rw [e1, e2]) rfl

set_option maxRecDepth 100000 in
set_option maxHeartbeats 2000000 in
theorem k_leastS {g : mh_G} {d : Nat} (hd : 4 ≤ d) {h : Nat → Int → Int} (hF : mh_FX h) {s wm : Int → Int} {k n fs a t x : Int} (hk : 0 ≤ k ∧ k < 6) (hi : sp_inv s) (hn : 0 ≤ n ∧ n ≤ 60) (hwm : sp_wmr wm) (hf0 : 0 ≤ fs) (ha : fs ≤ a ∧ a ≤ 9) (ht : 0 ≤ t ∧ t ≤ n) (hx : 0 ≤ x ∧ x < 60) (hRl : sc_Rl h s wm k n fs) (hMI : sc_MI (h 11) s wm k n fs) (IH : a ≤ 8 → ∀ {t x : Int} {h : Nat → Int → Int}, mh_FX h → sc_Rl h s wm k n fs → sc_MI (h 11) s wm k n fs → (0 ≤ t ∧ t ≤ n) → (0 ≤ x ∧ x < 60) → mh_M g (d - 1) yX6_least cX6_least 15 (some .int) 96 0 0 [.ref 10, .int (Int32.ofInt (a + 1)), .int (Int32.ofInt t), .int (Int32.ofInt x)] h (sc_LP s wm k n fs (a + 1) t x h)) : mh_M g d yX6_least cX6_least 15 (some .int) 96 0 0 [.ref 10, .int (Int32.ofInt (a)), .int (Int32.ofInt (t)), .int (Int32.ofInt (x))] h (sc_LP s wm k n fs a t x h) := by
  refine mh_M_of RX6 rfl (by decide +kernel) [some (.ref 10), some (.int (Int32.ofInt (a))), some (.int (Int32.ofInt (t))), some (.int (Int32.ofInt (x))), none, none, none, none, none, none, none, none, none, none, none] rfl (Nat.le_of_ble_eq_true rfl) (fun f F Z hn0 hR => ?_)
  refine mh_iload1 (pc := 0) F dX6_least_0 ?_
  refine mh_bipush (pc := 1) F dX6_least_1 rfl ?_
  refine mh_icmp_lt (pc := 3) (tgt := 8) F dX6_least_3 rfl (by omega) (by omega) (fun c_3 => ?_) (fun c_3 => ?_)
  · refine mh_iload1 (pc := 8) F dX6_least_8 ?_
    refine mh_iload2 (pc := 9) F dX6_least_9 ?_
    refine mh_iload3 (pc := 10) F dX6_least_10 ?_
    refine mh_callSp (pc := 11) (As := [.int (Int32.ofInt (a)), .int (Int32.ofInt (t)), .int (Int32.ofInt (x))]) (st := []) F (by omega) (k_place (by omega) (by omega) (by omega) (by omega)) ws_RX6_117 dX6_least_11 rfl rfl (Nat.le_of_ble_eq_true rfl) ⟨Nat.zero_le _, Nat.zero_le _⟩ ?_
    refine mh_top (y := a * 3660 + t * 60 + x) (mh_eqI (by rw [if_pos (by omega)])) ?_
    refine mh_istore4 (pc := 14) F dX6_least_14 rfl (by decide) ?_
    refine mh_iload4 (pc := 16) F dX6_least_16 ?_
    refine mh_if_ge (pc := 18) (tgt := 24) F dX6_least_18 rfl (by omega) (fun c_18 => ?_) (fun c_18 => ?_)
    · have hM1 := sc_M1_rg (s := s) (wm := wm) (k := k) (n := n) (a := a) (t := t) (x := x) hk hi hn (by omega) (by omega) hx hwm
      have hrg : -2147483648 ≤ h 11 (a * 3660 + t * 60 + x) ∧ h 11 (a * 3660 + t * 60 + x) < 2147483648 := by
        rcases hMI a t x (by omega) (by omega) ht.1 ht.2 hx.1 hx.2 with q | q
        · rw [q]; decide
        · rw [q.1]; omega
      refine mh_aload0 (pc := 24) F dX6_least_24 ?_
      refine mh_getr (b := 11) (pc := 25) F sh_10 (by decide) fw_RX6_12_6 dX6_least_25 rfl (fx_10_0 hF) ?_
      refine mh_iload4 (pc := 28) F dX6_least_28 ?_
      refine mh_iaload (pc := 30) F sh_11 (by decide) (by omega) dX6_least_30 ?_
      refine mh_if_le (pc := 31) (tgt := 47) F dX6_least_31 rfl (by omega) (fun c_31 => ?_) (fun c_31 => ?_)
      · have hz0 : h 11 (a * 3660 + t * 60 + x) = 0 := by
          rcases hMI a t x (by omega) (by omega) ht.1 ht.2 hx.1 hx.2 with q | q
          · exact q
          · exfalso; have := q.1; omega
        obtain ⟨R1, R2, hq6, R4, R5⟩ := id hRl
        have hqp : ∀ c, 0 ≤ c → c < 4 → h 10 6 ≤ s (33 + 2 * c) := fun c c0 c1 => (R4 c c0 c1).1
        have hmul := sc_mulr (q := h 10 6) (a := a) hq6 (by omega)
        have hH2 := hi.2.2.2.1.2
        have zc1 := (hi.2.2.2.2.1 k hk.1 hk.2).2.1
        unfold sp_row at zc1
        have hTok := sp_tab_ok hk hi hn hwm (8 - a).toNat (by omega)
        rw [show 9 - (((8 - a).toNat : Nat) : Int) = a + 1 by omega] at hTok
        refine mh_aload0 (pc := 47) F dX6_least_47 ?_
        refine mh_geti (pc := 48) F sh_10 (by decide) fw_RX6_38_6 dX6_least_48 rfl ?_
        refine mh_top (y := n) (mh_eqI R1) ?_
        refine mh_aload0 (pc := 51) F dX6_least_51 ?_
        refine mh_geti (pc := 52) F sh_10 (by decide) fw_RX6_73_6 dX6_least_52 rfl ?_
        refine mh_bipush (pc := 55) F dX6_least_55 rfl ?_
        refine mh_iload1 (pc := 57) F dX6_least_57 ?_
        refine mh_isub (pc := 58) F dX6_least_58 ?_
        refine mh_imul (pc := 59) F dX6_least_59 ?_
        refine mh_isub (pc := 60) F dX6_least_60 ?_
        refine mh_istore5 (pc := 61) F dX6_least_61 rfl (by decide) ?_
        refine mh_ldc (x := 1000000) (pc := 63) F dX6_least_63 tw_4_121 ?_
        refine mh_istore6 (pc := 65) F dX6_least_65 rfl (by decide) ?_
        refine mh_iconst (pc := 67) F dX6_least_67 ?_
        refine mh_istore7 (pc := 68) F dX6_least_68 rfl (by decide) ?_
        refine mh_iconst (pc := 70) F dX6_least_70 ?_
        refine mh_istore8 (pc := 71) F dX6_least_71 rfl (by decide) ?_
        have L73 : ∀ (m : Nat) (be : Int) (ch : Int) (wt : Int) (hg : Nat → Int → Int), (mh_FX hg) → (mh_fr [11] h hg) → (0 ≤ wt ∧ wt ≤ 3) → (be = (sc_P s wm k n a t x (4 * wt)).1) → (sc_ch be ch (sc_P s wm k n a t x (4 * wt)).2) → (sc_MI (hg 11) s wm k n fs) → (sc_mono (h 11) (hg 11)) → (sc_low (h 11) (hg 11) ((a + 1) * 3660)) → (sc_nb be (hg 11) s k a t x ch) → (3 - wt).toNat = m → mh_V g f 15 96 0 0 73 [some (.ref 10), some (.int (Int32.ofInt (a))), some (.int (Int32.ofInt (t))), some (.int (Int32.ofInt (x))), some (.int (Int32.ofInt (a * 3660 + t * 60 + x))), some (.int (Int32.ofInt (n - ((h 10 6) * (8 - a))))), some (.int (Int32.ofInt (be))), some (.int (Int32.ofInt (ch))), some (.int (Int32.ofInt (wt))), none, none, none, none, none, none] [] hg := by
          intro m
          induction m using Nat.strongRecOn with
          | _ m ihL73 =>
          intro be ch wt hg Fhg frhg hwt hbe hch hMg hmo hlo hnb hmz
          refine mh_iload8 (pc := 73) F dX6_least_73 ?_
          refine mh_iconst (pc := 75) F dX6_least_75 ?_
          refine mh_icmp_gt (pc := 76) (tgt := 213) F dX6_least_76 rfl (by omega) (by omega) (fun c_76 => ?_) (fun c_76 => ?_)
          · have hend := sc_end (s := s) (wm := wm) (k := k) (n := n) (a := a) (t := t) (x := x) (be := be) (ch := ch) (by rw [show (12 : Int) = 4 * wt by omega]; exact hbe) (by rw [show (12 : Int) = 4 * wt by omega]; exact hch)
            have hset := sc_MI_set (v := 1 + 32 * be + ch) hMg (by omega) ⟨ht.1, ht.2, hn.2⟩ hx hf0 (by rw [hlo _ (by omega)]; exact hz0) hend.2.1 (by rw [hend.2.1]; omega) (fun q => by rw [← hend.2.2 (by rw [hend.1]; exact q)]; exact hnb (by rw [hend.1]; exact q))
            refine mh_aload0 (pc := 213) F dX6_least_213 ?_
            refine mh_getr (b := 11) (pc := 214) F sh_10 (by decide) fw_RX6_12_6 dX6_least_214 rfl (fx_10_0 Fhg) ?_
            refine mh_iload4 (pc := 217) F dX6_least_217 ?_
            refine mh_iconst (pc := 219) F dX6_least_219 ?_
            refine mh_bipush (pc := 220) F dX6_least_220 rfl ?_
            refine mh_iload6 (pc := 222) F dX6_least_222 ?_
            refine mh_imul (pc := 224) F dX6_least_224 ?_
            refine mh_iadd (pc := 225) F dX6_least_225 ?_
            refine mh_iload7 (pc := 226) F dX6_least_226 ?_
            refine mh_iadd (pc := 228) F dX6_least_228 ?_
            refine mh_iastore (pc := 229) F sh_11 (by decide) (by omega) dX6_least_229 ?_
            refine mh_nmh (fun h1 e1 => ?_)
            have F1 : mh_FX h1 := by rw [e1]; exact Fhg.upa rfl
            have fr1 : mh_fr [11] h h1 := mh_fr.upi frhg e1 (by simp)
            refine mh_iload6 (pc := 230) F dX6_least_230 ?_
            exact mh_ireturn F Z dX6_least_232 ⟨mh_sv (by rw [sc_H_L (by omega) (by omega) hx, ← hend.1]), F1, fr1, (by rw [e1, mh_up_rs]; exact hset.1), (by rw [e1, mh_up_rs]; exact hmo.tr hset.2), (fun _ => by rw [e1, mh_up_rs, mh_ur_eq rfl, hend.2.1]; omega), (fun j hj => by rw [e1, mh_up_rs, mh_ur_ne (by omega)]; exact hlo j (by omega))⟩
          · refine mh_iload2 (pc := 79) F dX6_least_79 ?_
            refine mh_iload8 (pc := 80) F dX6_least_80 ?_
            refine mh_iadd (pc := 82) F dX6_least_82 ?_
            refine mh_istore9 (pc := 83) F dX6_least_83 rfl (by decide) ?_
            refine mh_iconst (pc := 85) F dX6_least_85 ?_
            refine mh_istore10 (pc := 86) F dX6_least_86 rfl (by decide) ?_
            have L88 : ∀ (m : Nat) (be : Int) (ch : Int) (ca : Int) (hm : Nat → Int → Int), (mh_FX hm) → (mh_fr [11] h hm) → (0 ≤ ca ∧ ca ≤ 4) → (be = (sc_P s wm k n a t x (4 * wt + ca)).1) → (sc_ch be ch (sc_P s wm k n a t x (4 * wt + ca)).2) → (sc_MI (hm 11) s wm k n fs) → (sc_mono (h 11) (hm 11)) → (sc_low (h 11) (hm 11) ((a + 1) * 3660)) → (sc_nb be (hm 11) s k a t x ch) → (4 - ca).toNat = m → mh_V g f 15 96 0 0 88 [some (.ref 10), some (.int (Int32.ofInt (a))), some (.int (Int32.ofInt (t))), some (.int (Int32.ofInt (x))), some (.int (Int32.ofInt (a * 3660 + t * 60 + x))), some (.int (Int32.ofInt (n - ((h 10 6) * (8 - a))))), some (.int (Int32.ofInt (be))), some (.int (Int32.ofInt (ch))), some (.int (Int32.ofInt (wt))), some (.int (Int32.ofInt (t + wt))), some (.int (Int32.ofInt (ca))), none, none, none, none] [] hm := by
              intro m
              induction m using Nat.strongRecOn with
              | _ m ihL88 =>
              intro be ch ca hm Fhm frhm hca hbe hch hMg hmo hlo hnb hmz
              refine mh_iload10 (pc := 88) F dX6_least_88 ?_
              refine mh_iconst (pc := 90) F dX6_least_90 ?_
              refine mh_icmp_ge (pc := 91) (tgt := 207) F dX6_least_91 rfl (by omega) (by omega) (fun c_91 => ?_) (fun c_91 => ?_)
              · refine mh_iinc8 (pc := 207) F dX6_least_207 rfl (by decide) ?_
                refine mh_goto (pc := 210) (tgt := 73) F dX6_least_210 rfl ?_
                refine mh_drop9 ?_
                refine mh_drop10 ?_
                exact ihL73 _ (by omega) be ch (wt + 1) hm Fhm (frhm.mono (by simp)) (by omega) (by rw [show 4 * (wt + 1) = 4 * wt + ca by omega]; exact hbe) (by rw [show 4 * (wt + 1) = 4 * wt + ca by omega]; exact hch) hMg hmo hlo hnb rfl
              · have hRm : sc_Rl hm s wm k n fs := hRl.fr (fun b hb => frhm b (by simp; omega))
                obtain ⟨-, -, -, hRj, hRb⟩ := hRm
                obtain ⟨j1, j2, j3⟩ := hRj ca (by omega) (by omega)
                obtain ⟨jc, hsum⟩ := hRb a (by omega) (by omega)
                have hpc := (hH2 ca (by omega) (by omega)).1
                have hsh := (hH2 ca (by omega) (by omega)).2
                have hjl := sp_jolts_rg (k := s (41 + 9 * k + 0)) zc1 hsh
                have hpj := mh_mulp (p := s (33 + 2 * ca)) (q := sp_jolts (s (41 + 9 * k + 0)) (s (41 + 9 * k + 1)) (s (33 + 2 * ca + 1))) (by omega) (by omega)
                have hth : 0 ≤ sp_then s k x ca ∧ sp_then s k x ca ≤ 20000 := by unfold sp_then; omega
                have hcool : (hm 13 a = 1 ∧ s (6 + 3 * a + 1) > 0) ∨ (hm 13 a = 0 ∧ ¬ s (6 + 3 * a + 1) > 0) := by rw [jc]; split <;> omega
                have hble := hch.le
                have hbe0 : 0 ≤ be := by rw [hbe]; exact (sp_lf_rg hk hi hn (show 0 ≤ a ∧ a < 9 by omega) (show 0 ≤ t ∧ t ≤ 60 by omega) hx hwm hTok (4 * wt + ca).toNat (by omega)).1
                refine mh_iload9 (pc := 94) F dX6_least_94 ?_
                refine mh_aload0 (pc := 96) F dX6_least_96 ?_
                refine mh_getr (b := 14) (pc := 97) F sh_10 (by decide) fw_RX6_23_6 dX6_least_97 rfl (fx_10_3 Fhm) ?_
                refine mh_iload10 (pc := 100) F dX6_least_100 ?_
                refine mh_iaload (pc := 102) F sh_14 (by decide) (by omega) dX6_least_102 ?_
                refine mh_top (y := s (33 + 2 * ca)) (mh_eqI j2) ?_
                refine mh_iadd (pc := 103) F dX6_least_103 ?_
                refine mh_istore11 (pc := 104) F dX6_least_104 rfl (by decide) ?_
                refine mh_iload3 (pc := 106) F dX6_least_106 ?_
                refine mh_aload0 (pc := 107) F dX6_least_107 ?_
                refine mh_getr (b := 15) (pc := 108) F sh_10 (by decide) fw_RX6_26_6 dX6_least_108 rfl (fx_10_4 Fhm) ?_
                refine mh_iload10 (pc := 111) F dX6_least_111 ?_
                refine mh_iaload (pc := 113) F sh_15 (by decide) (by omega) dX6_least_113 ?_
                refine mh_top (y := s (33 + 2 * ca) * sp_jolts (s (41 + 9 * k + 0)) (s (41 + 9 * k + 1)) (s (33 + 2 * ca + 1))) (mh_eqI j3) ?_
                refine mh_iadd (pc := 114) F dX6_least_114 ?_
                refine mh_top (y := sp_then s k x ca) (mh_eqI rfl) ?_
                refine mh_istore12 (pc := 115) F dX6_least_115 rfl (by decide) ?_
                refine mh_iload11 (pc := 117) F dX6_least_117 ?_
                refine mh_iload5 (pc := 119) F dX6_least_119 ?_
                refine mh_icmp_gt (pc := 121) (tgt := 201) F dX6_least_121 rfl (by omega) (by omega) (fun c_121 => ?_) (fun c_121 => ?_)
                · have hpr : n - h 10 6 * (8 - a) < t + wt + s (33 + 2 * ca) ∨ 60 ≤ sp_then s k x ca := by omega
                  have hsp := sc_stepB (v := 1000000) (by omega) (show 0 ≤ ca ∧ ca < 4 by omega) hbe hch (by rw [sc_prune hk hi hn hwm hq6 hqp (by omega) ht hx (by omega) (by omega) (hpr)]; rfl) (by omega)
                  refine mh_iinc10 (pc := 201) F dX6_least_201 rfl (by decide) ?_
                  refine mh_goto (pc := 204) (tgt := 88) F dX6_least_204 rfl ?_
                  refine mh_drop11 ?_
                  refine mh_drop12 ?_
                  exact ihL88 _ (by omega) be ch (ca + 1) hm Fhm (frhm.mono (by simp)) (by omega) hsp.1 hsp.2 hMg hmo hlo hnb rfl
                · refine mh_iload12 (pc := 124) F dX6_least_124 ?_
                  refine mh_bipush (pc := 126) F dX6_least_126 rfl ?_
                  refine mh_icmp_ge (pc := 128) (tgt := 201) F dX6_least_128 rfl (by omega) (by omega) (fun c_128 => ?_) (fun c_128 => ?_)
                  · have hpr : n - h 10 6 * (8 - a) < t + wt + s (33 + 2 * ca) ∨ 60 ≤ sp_then s k x ca := by omega
                    have hsp := sc_stepB (v := 1000000) (by omega) (show 0 ≤ ca ∧ ca < 4 by omega) hbe hch (by rw [sc_prune hk hi hn hwm hq6 hqp (by omega) ht hx (by omega) (by omega) (hpr)]; rfl) (by omega)
                    refine mh_iinc10 (pc := 201) F dX6_least_201 rfl (by decide) ?_
                    refine mh_goto (pc := 204) (tgt := 88) F dX6_least_204 rfl ?_
                    refine mh_drop11 ?_
                    refine mh_drop12 ?_
                    exact ihL88 _ (by omega) be ch (ca + 1) hm Fhm (frhm.mono (by simp)) (by omega) hsp.1 hsp.2 hMg hmo hlo hnb rfl
                  · refine mh_aload0 (pc := 131) F dX6_least_131 ?_
                    refine mh_getr (b := 13) (pc := 132) F sh_10 (by decide) fw_RX6_19_6 dX6_least_132 rfl (fx_10_2 Fhm) ?_
                    refine mh_iload1 (pc := 135) F dX6_least_135 ?_
                    refine mh_zaload (pc := 136) F sh_13 (by decide) (by omega) dX6_least_136 ?_
                    refine mh_if_eq (pc := 137) (tgt := 144) F dX6_least_137 rfl (by omega) (fun c_137 => ?_) (fun c_137 => ?_)
                    · refine mh_aload0 (pc := 144) F dX6_least_144 ?_
                      refine mh_iload1 (pc := 145) F dX6_least_145 ?_
                      refine mh_iload2 (pc := 146) F dX6_least_146 ?_
                      refine mh_iload9 (pc := 147) F dX6_least_147 ?_
                      refine mh_callVp (pc := 149) (As := [.int (Int32.ofInt (a)), .int (Int32.ofInt (t)), .int (Int32.ofInt (t + wt))]) (st := []) F (by omega) (k_betw (wm := wm) (by omega) Fhm (by omega) (by omega) (by omega) (hsum _ (by omega) (by omega)) (hsum _ (by omega) (by omega))) wv_RX6_121_yX6_between dX6_least_149 sh_10 rfl (by decide) rfl rfl (Nat.le_of_ble_eq_true rfl) ⟨Nat.zero_le _, Nat.zero_le _⟩ ?_
                      refine mh_istore13 (pc := 152) F dX6_least_152 rfl (by decide) ?_
                      refine mh_iload13 (pc := 154) F dX6_least_154 ?_
                      refine mh_aload0 (pc := 156) F dX6_least_156 ?_
                      refine mh_iload1 (pc := 157) F dX6_least_157 ?_
                      refine mh_iload9 (pc := 158) F dX6_least_158 ?_
                      refine mh_iload11 (pc := 160) F dX6_least_160 ?_
                      refine mh_callVp (pc := 162) (As := [.int (Int32.ofInt (a)), .int (Int32.ofInt (t + wt)), .int (Int32.ofInt ((t + wt) + (s (33 + 2 * ca))))]) (st := [.int (Int32.ofInt (wm (a * 61 + (t + wt)) - wm (a * 61 + t)))]) F (by omega) (k_betw (wm := wm) (by omega) Fhm (by omega) (by omega) (by omega) (hsum _ (by omega) (by omega)) (hsum _ (by omega) (by omega))) wv_RX6_121_yX6_between dX6_least_162 sh_10 rfl (by decide) rfl rfl (Nat.le_of_ble_eq_true rfl) ⟨Nat.zero_le _, Nat.zero_le _⟩ ?_
                      refine mh_iadd (pc := 165) F dX6_least_165 ?_
                      refine mh_aload0 (pc := 166) F dX6_least_166 ?_
                      refine mh_iload1 (pc := 167) F dX6_least_167 ?_
                      refine mh_iconst (pc := 168) F dX6_least_168 ?_
                      refine mh_iadd (pc := 169) F dX6_least_169 ?_
                      refine mh_iload11 (pc := 170) F dX6_least_170 ?_
                      refine mh_iload12 (pc := 172) F dX6_least_172 ?_
                      refine mh_callV0 (pc := 174) (As := [.int (Int32.ofInt (a + 1)), .int (Int32.ofInt ((t + wt) + (s (33 + 2 * ca)))), .int (Int32.ofInt (sp_then s k x ca))]) (st := [.int (Int32.ofInt ((wm (a * 61 + (t + wt)) - wm (a * 61 + t)) + (wm (a * 61 + ((t + wt) + (s (33 + 2 * ca)))) - wm (a * 61 + (t + wt)))))]) F (by omega) (IH (by omega) Fhm (hRl.fr (fun b hb => frhm b (by simp; omega))) hMg (by omega) (by omega)) wv_RX6_98_yX6_least dX6_least_174 sh_10 rfl (by decide) rfl rfl (Nat.le_of_ble_eq_true rfl) ⟨Nat.zero_le _, Nat.zero_le _⟩ (fun r2 h2 q2 => ?_)
                      obtain ⟨rfl, F2, frl2, hMg2, hmo2, hnz2, hlo2⟩ := q2
                      have fr3 : mh_fr [11] h h2 := (mh_fr.tr frhm frl2).mono (by simp)
                      have hV9 : sp_tab s wm k n (9 - (a + 1)).toNat (((a + 1) * 61 + ((t + wt) + (s (33 + 2 * ca)))) * 60 + (sp_then s k x ca)) = sp_tab s wm k n (8 - a).toNat (((a + 1) * 61 + (t + wt + s (33 + 2 * ca))) * 60 + sp_then s k x ca) := by rw [show 9 - (a + 1) = 8 - a by omega]
                      refine mh_top (y := sp_tab s wm k n (8 - a).toNat (((a + 1) * 61 + (t + wt + s (33 + 2 * ca))) * 60 + sp_then s k x ca)) (mh_eqI hV9) ?_
                      have hTv := hTok (t + wt + s (33 + 2 * ca)) (sp_then s k x ca) (by omega) (by omega) (by omega) (by omega)
                      have hw1 := (hwm a t (by omega) (by omega) (by omega) (by omega)).2.1 (t + wt) (by omega) (by omega)
                      have hw2 := (hwm a (t + wt) (by omega) (by omega) (by omega) (by omega)).2.1 (t + wt + s (33 + 2 * ca)) (by omega) (by omega)
                      have hw3 := (hwm a t (by omega) (by omega) (by omega) (by omega)).1
                      have hw4 := (hwm a (t + wt + s (33 + 2 * ca)) (by omega) (by omega) (by omega) (by omega)).2.2
                      refine mh_iadd (pc := 177) F dX6_least_177 ?_
                      refine mh_istore14 (pc := 178) F dX6_least_178 rfl (by decide) ?_
                      have hlb : sp_lby s wm (sp_tab s wm k n (8 - a).toNat) k n a t x wt ca = min 1000000 (((wm (a * 61 + (t + wt)) - wm (a * 61 + t)) + (wm (a * 61 + ((t + wt) + (s (33 + 2 * ca)))) - wm (a * 61 + (t + wt)))) + (sp_tab s wm k n (8 - a).toNat (((a + 1) * 61 + (t + wt + s (33 + 2 * ca))) * 60 + sp_then s k x ca))) := by unfold sp_lby sp_lbr; rw [if_neg (by omega)]; first | (rw [if_pos (by omega)]; done) | (rw [if_neg (by omega)]; done)
                      refine mh_iload14 (pc := 180) F dX6_least_180 ?_
                      refine mh_iload6 (pc := 182) F dX6_least_182 ?_
                      refine mh_icmp_ge (pc := 184) (tgt := 201) F dX6_least_184 rfl (by omega) (by omega) (fun c_184 => ?_) (fun c_184 => ?_)
                      · have hsp := sc_stepB (by omega) (show 0 ≤ ca ∧ ca < 4 by omega) hbe hch hlb (by omega)
                        refine mh_iinc10 (pc := 201) F dX6_least_201 rfl (by decide) ?_
                        refine mh_goto (pc := 204) (tgt := 88) F dX6_least_204 rfl ?_
                        refine mh_drop11 ?_
                        refine mh_drop12 ?_
                        refine mh_drop13 ?_
                        refine mh_drop14 ?_
                        exact ihL88 _ (by omega) be ch (ca + 1) h2 F2 (fr3.mono (by simp)) (by omega) hsp.1 hsp.2 hMg2 (hmo.tr hmo2) (hlo.tr hlo2) (fun q => (hnb q).mono hmo2) rfl
                      · have hsp := sc_stepA (by omega) (show 0 ≤ ca ∧ ca < 4 by omega) hbe hble hlb (by omega)
                        refine mh_iload14 (pc := 187) F dX6_least_187 ?_
                        refine mh_istore6 (pc := 189) F dX6_least_189 rfl (by decide) ?_
                        refine mh_bipush (pc := 191) F dX6_least_191 rfl ?_
                        refine mh_iload8 (pc := 193) F dX6_least_193 ?_
                        refine mh_imul (pc := 195) F dX6_least_195 ?_
                        refine mh_iload10 (pc := 196) F dX6_least_196 ?_
                        refine mh_iadd (pc := 198) F dX6_least_198 ?_
                        refine mh_istore7 (pc := 199) F dX6_least_199 rfl (by decide) ?_
                        refine mh_iinc10 (pc := 201) F dX6_least_201 rfl (by decide) ?_
                        refine mh_goto (pc := 204) (tgt := 88) F dX6_least_204 rfl ?_
                        refine mh_drop11 ?_
                        refine mh_drop12 ?_
                        refine mh_drop13 ?_
                        refine mh_drop14 ?_
                        exact ihL88 _ (by omega) (((wm (a * 61 + (t + wt)) - wm (a * 61 + t)) + (wm (a * 61 + ((t + wt) + (s (33 + 2 * ca)))) - wm (a * 61 + (t + wt)))) + (sp_tab s wm k n (8 - a).toNat (((a + 1) * 61 + (t + wt + s (33 + 2 * ca))) * 60 + sp_then s k x ca))) ((10 * wt) + ca) (ca + 1) h2 F2 (fr3.mono (by simp)) (by omega) hsp.1 hsp.2 hMg2 (hmo.tr hmo2) (hlo.tr hlo2) (fun _ => sc_nx_new (by omega) (by omega) hnz2) rfl
                    · refine mh_iconst (pc := 140) F dX6_least_140 ?_
                      refine mh_goto (pc := 141) (tgt := 152) F dX6_least_141 rfl ?_
                      refine mh_istore13 (pc := 152) F dX6_least_152 rfl (by decide) ?_
                      refine mh_iload13 (pc := 154) F dX6_least_154 ?_
                      refine mh_aload0 (pc := 156) F dX6_least_156 ?_
                      refine mh_iload1 (pc := 157) F dX6_least_157 ?_
                      refine mh_iload9 (pc := 158) F dX6_least_158 ?_
                      refine mh_iload11 (pc := 160) F dX6_least_160 ?_
                      refine mh_callVp (pc := 162) (As := [.int (Int32.ofInt (a)), .int (Int32.ofInt (t + wt)), .int (Int32.ofInt ((t + wt) + (s (33 + 2 * ca))))]) (st := [.int (Int32.ofInt (0))]) F (by omega) (k_betw (wm := wm) (by omega) Fhm (by omega) (by omega) (by omega) (hsum _ (by omega) (by omega)) (hsum _ (by omega) (by omega))) wv_RX6_121_yX6_between dX6_least_162 sh_10 rfl (by decide) rfl rfl (Nat.le_of_ble_eq_true rfl) ⟨Nat.zero_le _, Nat.zero_le _⟩ ?_
                      refine mh_iadd (pc := 165) F dX6_least_165 ?_
                      refine mh_aload0 (pc := 166) F dX6_least_166 ?_
                      refine mh_iload1 (pc := 167) F dX6_least_167 ?_
                      refine mh_iconst (pc := 168) F dX6_least_168 ?_
                      refine mh_iadd (pc := 169) F dX6_least_169 ?_
                      refine mh_iload11 (pc := 170) F dX6_least_170 ?_
                      refine mh_iload12 (pc := 172) F dX6_least_172 ?_
                      refine mh_callV0 (pc := 174) (As := [.int (Int32.ofInt (a + 1)), .int (Int32.ofInt ((t + wt) + (s (33 + 2 * ca)))), .int (Int32.ofInt (sp_then s k x ca))]) (st := [.int (Int32.ofInt (0 + (wm (a * 61 + ((t + wt) + (s (33 + 2 * ca)))) - wm (a * 61 + (t + wt)))))]) F (by omega) (IH (by omega) Fhm (hRl.fr (fun b hb => frhm b (by simp; omega))) hMg (by omega) (by omega)) wv_RX6_98_yX6_least dX6_least_174 sh_10 rfl (by decide) rfl rfl (Nat.le_of_ble_eq_true rfl) ⟨Nat.zero_le _, Nat.zero_le _⟩ (fun r4 h4 q4 => ?_)
                      obtain ⟨rfl, F4, frl4, hMg2, hmo2, hnz2, hlo2⟩ := q4
                      have fr5 : mh_fr [11] h h4 := (mh_fr.tr frhm frl4).mono (by simp)
                      have hV9 : sp_tab s wm k n (9 - (a + 1)).toNat (((a + 1) * 61 + ((t + wt) + (s (33 + 2 * ca)))) * 60 + (sp_then s k x ca)) = sp_tab s wm k n (8 - a).toNat (((a + 1) * 61 + (t + wt + s (33 + 2 * ca))) * 60 + sp_then s k x ca) := by rw [show 9 - (a + 1) = 8 - a by omega]
                      refine mh_top (y := sp_tab s wm k n (8 - a).toNat (((a + 1) * 61 + (t + wt + s (33 + 2 * ca))) * 60 + sp_then s k x ca)) (mh_eqI hV9) ?_
                      have hTv := hTok (t + wt + s (33 + 2 * ca)) (sp_then s k x ca) (by omega) (by omega) (by omega) (by omega)
                      have hw1 := (hwm a t (by omega) (by omega) (by omega) (by omega)).2.1 (t + wt) (by omega) (by omega)
                      have hw2 := (hwm a (t + wt) (by omega) (by omega) (by omega) (by omega)).2.1 (t + wt + s (33 + 2 * ca)) (by omega) (by omega)
                      have hw3 := (hwm a t (by omega) (by omega) (by omega) (by omega)).1
                      have hw4 := (hwm a (t + wt + s (33 + 2 * ca)) (by omega) (by omega) (by omega) (by omega)).2.2
                      refine mh_iadd (pc := 177) F dX6_least_177 ?_
                      refine mh_istore14 (pc := 178) F dX6_least_178 rfl (by decide) ?_
                      have hlb : sp_lby s wm (sp_tab s wm k n (8 - a).toNat) k n a t x wt ca = min 1000000 ((0 + (wm (a * 61 + ((t + wt) + (s (33 + 2 * ca)))) - wm (a * 61 + (t + wt)))) + (sp_tab s wm k n (8 - a).toNat (((a + 1) * 61 + (t + wt + s (33 + 2 * ca))) * 60 + sp_then s k x ca))) := by unfold sp_lby sp_lbr; rw [if_neg (by omega)]; first | (rw [if_pos (by omega)]; done) | (rw [if_neg (by omega)]; done)
                      refine mh_iload14 (pc := 180) F dX6_least_180 ?_
                      refine mh_iload6 (pc := 182) F dX6_least_182 ?_
                      refine mh_icmp_ge (pc := 184) (tgt := 201) F dX6_least_184 rfl (by omega) (by omega) (fun c_184 => ?_) (fun c_184 => ?_)
                      · have hsp := sc_stepB (by omega) (show 0 ≤ ca ∧ ca < 4 by omega) hbe hch hlb (by omega)
                        refine mh_iinc10 (pc := 201) F dX6_least_201 rfl (by decide) ?_
                        refine mh_goto (pc := 204) (tgt := 88) F dX6_least_204 rfl ?_
                        refine mh_drop11 ?_
                        refine mh_drop12 ?_
                        refine mh_drop13 ?_
                        refine mh_drop14 ?_
                        exact ihL88 _ (by omega) be ch (ca + 1) h4 F4 (fr5.mono (by simp)) (by omega) hsp.1 hsp.2 hMg2 (hmo.tr hmo2) (hlo.tr hlo2) (fun q => (hnb q).mono hmo2) rfl
                      · have hsp := sc_stepA (by omega) (show 0 ≤ ca ∧ ca < 4 by omega) hbe hble hlb (by omega)
                        refine mh_iload14 (pc := 187) F dX6_least_187 ?_
                        refine mh_istore6 (pc := 189) F dX6_least_189 rfl (by decide) ?_
                        refine mh_bipush (pc := 191) F dX6_least_191 rfl ?_
                        refine mh_iload8 (pc := 193) F dX6_least_193 ?_
                        refine mh_imul (pc := 195) F dX6_least_195 ?_
                        refine mh_iload10 (pc := 196) F dX6_least_196 ?_
                        refine mh_iadd (pc := 198) F dX6_least_198 ?_
                        refine mh_istore7 (pc := 199) F dX6_least_199 rfl (by decide) ?_
                        refine mh_iinc10 (pc := 201) F dX6_least_201 rfl (by decide) ?_
                        refine mh_goto (pc := 204) (tgt := 88) F dX6_least_204 rfl ?_
                        refine mh_drop11 ?_
                        refine mh_drop12 ?_
                        refine mh_drop13 ?_
                        refine mh_drop14 ?_
                        exact ihL88 _ (by omega) ((0 + (wm (a * 61 + ((t + wt) + (s (33 + 2 * ca)))) - wm (a * 61 + (t + wt)))) + (sp_tab s wm k n (8 - a).toNat (((a + 1) * 61 + (t + wt + s (33 + 2 * ca))) * 60 + sp_then s k x ca))) ((10 * wt) + ca) (ca + 1) h4 F4 (fr5.mono (by simp)) (by omega) hsp.1 hsp.2 hMg2 (hmo.tr hmo2) (hlo.tr hlo2) (fun _ => sc_nx_new (by omega) (by omega) hnz2) rfl
            exact L88 _ be ch 0 hg Fhg (frhg.mono (by simp)) (by omega) (by rw [show 4 * wt + 0 = 4 * wt by omega]; exact hbe) (by rw [show 4 * wt + 0 = 4 * wt by omega]; exact hch) hMg hmo hlo hnb rfl
        exact L73 _ 1000000 0 0 h hF (mh_fr.rf.mono (by simp)) (by omega) rfl (Or.inl ⟨rfl, rfl⟩) hMI sc_mono.rf (fun _ _ => rfl) (fun q => absurd q (by decide)) rfl
      · have hat := (hMI a t x (by omega) (by omega) ht.1 ht.2 hx.1 hx.2).resolve_left (by omega)
        refine mh_aload0 (pc := 34) F dX6_least_34 ?_
        refine mh_getr (b := 11) (pc := 35) F sh_10 (by decide) fw_RX6_12_6 dX6_least_35 rfl (fx_10_0 hF) ?_
        refine mh_iload4 (pc := 38) F dX6_least_38 ?_
        refine mh_iaload (pc := 40) F sh_11 (by decide) (by omega) dX6_least_40 ?_
        refine mh_top (y := sc_M1 s wm k n a t x) (mh_eqI hat.1) ?_
        refine mh_iconst (pc := 41) F dX6_least_41 ?_
        refine mh_isub (pc := 42) F dX6_least_42 ?_
        refine mh_bipush (pc := 43) F dX6_least_43 rfl ?_
        refine mh_idiv (pc := 45) F dX6_least_45 (by omega) (by omega) (by omega) ?_
        exact mh_ireturn F Z dX6_least_46 ⟨mh_sv (by rw [sc_H_L (by omega) (by omega) hx, hM1.2.2.1]), hF, mh_fr.rf.mono (by simp), hMI, sc_mono.rf, (fun _ => by rw [hat.1]; omega), (fun _ _ => rfl)⟩
    · exfalso; omega
  · refine mh_iconst (pc := 6) F dX6_least_6 ?_
    exact mh_ireturn F Z dX6_least_7 ⟨by rw [show a = 9 by omega]; rfl, hF, mh_fr.rf.mono (by simp), hMI, sc_mono.rf, (fun q => by omega), (fun _ _ => rfl)⟩

