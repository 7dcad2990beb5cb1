/-! the texts: the model reads them -/
def sx_is (o fr : Int → Int) (p : sx_S) (u x : Int) : Prop := o 10 = p.1 ∧ o 13 = p.2.1 ∧ o 9 = p.2.2.1 ∧ fr = p.2.2.2 ∧ o 12 = u ∧ o 11 = x
def sx_fo (o t : Int → Int) : Prop := ∀ i, i ≠ 9 → i ≠ 10 → i ≠ 11 → i ≠ 12 → i ≠ 13 → t i = o i
theorem sx_fo.rf {o : Int → Int} : sx_fo o o := fun _ _ _ _ _ _ => rfl
theorem sx_fo.tr {o t v : Int → Int} (h1 : sx_fo o t) (h2 : sx_fo t v) : sx_fo o v := fun i a b c d e => (h2 i a b c d e).trans (h1 i a b c d e)
theorem sx_fo.up {o t : Int → Int} {i v : Int} (h1 : sx_fo o t) (hi : 9 ≤ i ∧ i ≤ 13) : sx_fo o (mh_ur t i v) := fun j a b c d e => (mh_ur_ne (by omega)).trans (h1 j a b c d e)
theorem sx_is.pa {o fr : Int → Int} {p : sx_S} {u x v : Int} (h : sx_is o fr p u x) (hv : v = o 10 + 1) : sx_is (mh_ur o 10 v) fr (sx_pa p) u x :=
  ⟨(mh_ur_eq rfl).trans (by rw [hv, h.1]; rfl), (mh_ur_ne (by decide)).trans h.2.1, (mh_ur_ne (by decide)).trans h.2.2.1, h.2.2.2.1, (mh_ur_ne (by decide)).trans h.2.2.2.2.1, (mh_ur_ne (by decide)).trans h.2.2.2.2.2⟩
theorem sx_is.p0 {o fr : Int → Int} {p : sx_S} {u x v : Int} (h : sx_is o fr p u x) (hv : v = o 10) : sx_is (mh_ur o 10 v) fr p u x :=
  ⟨(mh_ur_eq rfl).trans (by rw [hv, h.1]), (mh_ur_ne (by decide)).trans h.2.1, (mh_ur_ne (by decide)).trans h.2.2.1, h.2.2.2.1, (mh_ur_ne (by decide)).trans h.2.2.2.2.1, (mh_ur_ne (by decide)).trans h.2.2.2.2.2⟩
theorem sx_is.pw {o fr : Int → Int} {p : sx_S} {u x : Int} (h : sx_is o fr p u x) : sx_is (mh_ur o 13 1) fr (sx_pw p) u x :=
  ⟨(mh_ur_ne (by decide)).trans h.1, mh_ur_eq rfl, (mh_ur_ne (by decide)).trans h.2.2.1, h.2.2.2.1, (mh_ur_ne (by decide)).trans h.2.2.2.2.1, (mh_ur_ne (by decide)).trans h.2.2.2.2.2⟩
theorem sx_is.w0 {o fr : Int → Int} {p : sx_S} {u x v : Int} (h : sx_is o fr p u x) (hv : v = p.2.1) : sx_is (mh_ur o 13 v) fr p u x :=
  ⟨(mh_ur_ne (by decide)).trans h.1, (mh_ur_eq rfl).trans hv, (mh_ur_ne (by decide)).trans h.2.2.1, h.2.2.2.1, (mh_ur_ne (by decide)).trans h.2.2.2.2.1, (mh_ur_ne (by decide)).trans h.2.2.2.2.2⟩
theorem sx_is.ox {o fr : Int → Int} {p : sx_S} {u x v : Int} (h : sx_is o fr p u x) : sx_is (mh_ur o 11 v) fr p u v :=
  ⟨(mh_ur_ne (by decide)).trans h.1, (mh_ur_ne (by decide)).trans h.2.1, (mh_ur_ne (by decide)).trans h.2.2.1, h.2.2.2.1, (mh_ur_ne (by decide)).trans h.2.2.2.2.1, mh_ur_eq rfl⟩
theorem sx_is.pp {o fr : Int → Int} {p : sx_S} {u x c v i : Int} (h : sx_is o fr p u x) (hw : p.2.1 = 0) (hv : v = o 9 + 1) (hi : i = o 9) : sx_is (mh_ur o 9 v) (mh_ur fr i c) (sx_pp c p) u x := by
  have e : sx_pp c p = (p.1, p.2.1, p.2.2.1 + 1, mh_ur p.2.2.2 p.2.2.1 c) := if_pos hw
  rw [e]
  exact ⟨(mh_ur_ne (by decide)).trans h.1, (mh_ur_ne (by decide)).trans h.2.1, (mh_ur_eq rfl).trans (by rw [hv, h.2.2.1]), by rw [hi, h.2.2.1, h.2.2.2.1], (mh_ur_ne (by decide)).trans h.2.2.2.2.1, (mh_ur_ne (by decide)).trans h.2.2.2.2.2⟩
theorem sx_is.eq {o fr : Int → Int} {p q : sx_S} {u x y : Int} (h : sx_is o fr p u x) (e : q = p) (e2 : y = x) : sx_is o fr q u y := by rw [e, e2]; exact h
def sx_w6 (x : Int) (p : sx_S) : Prop := x = 6 → p.2.1 = 1
def sx_m5 (p : sx_S) : Prop := p.2.1 = 0 → p.2.2.1 < 50
def sx_z (s : Int → Int) (p : sx_S) : Prop := sx_hr s p ≠ -1 → p.1 < s 4 ∧ p.2.1 = 0
theorem sx_hr_z {s : Int → Int} {p : sx_S} (hb : sx_by s) (hp : sx_pv s p) : (-1 ≤ sx_hr s p ∧ sx_hr s p ≤ 255) ∧ sx_z s p := ⟨⟨(sx_hr_rg hb hp).1, (sx_hr_rg hb hp).2.1⟩, (sx_hr_rg hb hp).2.2⟩
theorem sx_pv_x {s : Int → Int} {p : sx_S} (hp : sx_pv s p) : (0 ≤ p.1 ∧ p.1 ≤ s 4) ∧ (0 ≤ p.2.2.1 ∧ p.2.2.1 ≤ p.1) ∧ (0 ≤ p.2.1 ∧ p.2.1 ≤ 1) := ⟨hp.1, hp.2.1, by rcases hp.2.2 with z | z <;> omega⟩
def sx_po (h : Nat → Int → Int) (o : Int → Int) (q : sx_S) (u x : Int) : Option Value → (Nat → Int → Int) → Prop := fun r h2 => r = none ∧ mh_FX h2 ∧ mh_fr [81, 88] h h2 ∧ sx_is (h2 81) (h2 88) q u x ∧ sx_fo o (h2 81)
/-- the contract of one of the readers -/
def sx_K (g : mh_G) (d : Nat) (y : MethodName) (b : ByteArray) (nL : Nat) (s : Int → Int) (u x : Int) (F : sx_S → sx_S) : Prop := ∀ (h : Nat → Int → Int) (o fr : Int → Int) (p : sx_S), mh_FX h → h 82 = s → h 81 = o → h 88 = fr → sx_is o fr p u x → sx_pv s p → sx_w6 x p → mh_M g d y b nL none 96 0 0 [.ref 81] h (sx_po h o (F p) u x)
theorem sx_Q_dig {s : Int → Int} {u : Int} {p : sx_S} (n : Nat) (h : 48 ≤ sx_hr s p ∧ sx_hr s p ≤ 57) : sx_Q s u n p = sx_nu s p := by cases n <;> exact if_pos h
theorem sx_Q_nam {s : Int → Int} {u : Int} {p : sx_S} (n : Nat) (h : ¬ (48 ≤ sx_hr s p ∧ sx_hr s p ≤ 57)) (h2 : 0 ≤ sx_nm u (sx_hr s p)) : sx_Q s u n p = sx_pp (-1 - sx_nm u (sx_hr s p)) (sx_pa p) := by
  cases n <;> exact (if_neg h).trans (if_pos h2)
theorem sx_Q_oth {s : Int → Int} {u : Int} {p : sx_S} (n : Nat) (h : ¬ (48 ≤ sx_hr s p ∧ sx_hr s p ≤ 57)) (h2 : ¬ 0 ≤ sx_nm u (sx_hr s p)) (h3 : sx_hr s p ≠ 33) (h4 : sx_hr s p ≠ 40) : sx_Q s u n p = sx_pw p := by
  cases n with
  | zero => exact (if_neg h).trans (if_neg h2)
  | succ n => exact (if_neg h).trans ((if_neg h2).trans ((if_neg h3).trans (if_neg h4)))
theorem sx_Q_0 {s : Int → Int} {u : Int} {p : sx_S} (h : ¬ (48 ≤ sx_hr s p ∧ sx_hr s p ≤ 57)) (h2 : ¬ 0 ≤ sx_nm u (sx_hr s p)) : sx_Q s u 0 p = sx_pw p := (if_neg h).trans (if_neg h2)
theorem sx_Q_33 {s : Int → Int} {u : Int} {p : sx_S} (n : Nat) (h2 : ¬ 0 ≤ sx_nm u (sx_hr s p)) (h3 : sx_hr s p = 33) : sx_Q s u (n + 1) p = sx_pp (-133) (sx_Q s u n (sx_pa p)) := (if_neg (by omega)).trans ((if_neg h2).trans (if_pos h3))
theorem sx_Q_40 {s : Int → Int} {u : Int} {p : sx_S} (n : Nat) (h2 : ¬ 0 ≤ sx_nm u (sx_hr s p)) (h3 : sx_hr s p = 40) : sx_Q s u (n + 1) p = sx_cl s (sx_T s (sx_Q s u n) (sx_pa p)) := (if_neg (by omega)).trans ((if_neg h2).trans ((if_neg (by omega)).trans (if_pos h3)))
theorem sx_pp_w {c : Int} {p : sx_S} (h : p.2.1 = 1) : sx_pp c p = p := if_neg (by omega)
theorem sx_pw_w {p : sx_S} (h : p.2.1 = 1) : sx_pw p = p := by
  show (p.1, (1 : Int), p.2.2.1, p.2.2.2) = p
  rw [← h]
theorem sx_hr_w {s : Int → Int} {p : sx_S} (h : p.2.1 = 1) : sx_hr s p = -1 := if_neg (by omega)
set_option maxRecDepth 100000 in
set_option maxHeartbeats 4000000 in
theorem k_here {g : mh_G} {d : Nat} (hd : 1 ≤ d) {h : Nat → Int → Int} (hF : mh_FX h) {s : Int → Int} (r82 : h 82 = s) {o : Int → Int} (r81 : h 81 = o) {fr : Int → Int} {p : sx_S} {u x : Int} (hb : sx_by s) (hs : sx_is o fr p u x) (hp : sx_pv s p) : mh_MP g d yX12_here cX12_here 1 (some .int) 96 [.ref 81] h (some (.int (Int32.ofInt (sx_hr s p)))) := by
  refine mh_M_of RX12 rfl (by decide +kernel) [some (.ref 81)] rfl (Nat.le_of_ble_eq_true rfl) (fun f F Z hn0 hR => ?_)
  obtain ⟨hp1, hp2, hp3⟩ := sx_pv_x hp
  obtain ⟨hs1, hs2, hs3, hs4, hs5, hs6⟩ := id hs
  have hb1 := hb.1
  refine mh_aload0 (pc := 0) F dX12_here_0 ?_
  refine mh_getir (pc := 1) F sh_81 (by decide) fw_RX12_180_12 dX12_here_1 rfl r81 ?_
  refine mh_aload0 (pc := 4) F dX12_here_4 ?_
  refine mh_getr (b := 82) (pc := 5) F sh_81 (by decide) fw_RX12_9_12 dX12_here_5 rfl (fx_81_0 hF) ?_
  refine mh_iconst (pc := 8) F dX12_here_8 ?_
  refine mh_ialoadr (pc := 9) F sh_82 (by decide) (by omega) dX12_here_9 r82 ?_
  refine mh_icmp_ge (pc := 10) (tgt := 36) F dX12_here_10 rfl (by omega) (by omega) (fun c_10 => ?_) (fun c_10 => ?_)
  · refine mh_iconst (pc := 36) F dX12_here_36 ?_
    exact mh_ireturnp F Z dX12_here_37 (by unfold sx_hr; first | (rw [if_pos (by omega), ← hs1]; done) | (rw [if_neg (by omega)]; done)) rfl
  · refine mh_aload0 (pc := 13) F dX12_here_13 ?_
    refine mh_getir (pc := 14) F sh_81 (by decide) fw_RX12_184_12 dX12_here_14 rfl r81 ?_
    refine mh_if_ne (pc := 17) (tgt := 36) F dX12_here_17 rfl (by omega) (fun c_17 => ?_) (fun c_17 => ?_)
    · refine mh_iconst (pc := 36) F dX12_here_36 ?_
      exact mh_ireturnp F Z dX12_here_37 (by unfold sx_hr; first | (rw [if_pos (by omega), ← hs1]; done) | (rw [if_neg (by omega)]; done)) rfl
    · have hbi := hb.2 p.1 (by omega) (by omega)
      refine mh_aload0 (pc := 20) F dX12_here_20 ?_
      refine mh_getr (b := 82) (pc := 21) F sh_81 (by decide) fw_RX12_9_12 dX12_here_21 rfl (fx_81_0 hF) ?_
      refine mh_sipush (pc := 24) F dX12_here_24 rfl ?_
      refine mh_aload0 (pc := 27) F dX12_here_27 ?_
      refine mh_getir (pc := 28) F sh_81 (by decide) fw_RX12_180_12 dX12_here_28 rfl r81 ?_
      refine mh_iadd (pc := 31) F dX12_here_31 ?_
      refine mh_ialoadr (pc := 32) F sh_82 (by decide) (by omega) dX12_here_32 r82 ?_
      refine mh_goto (pc := 33) (tgt := 37) F dX12_here_33 rfl ?_
      exact mh_ireturnp F Z dX12_here_37 (by unfold sx_hr; first | (rw [if_pos (by omega), ← hs1]; done) | (rw [if_neg (by omega)]; done)) rfl

set_option maxRecDepth 100000 in
set_option maxHeartbeats 4000000 in
theorem k_isDigit {g : mh_G} {d : Nat} (hd : 2 ≤ d) {h : Nat → Int → Int} (hF : mh_FX h) {s : Int → Int} (r82 : h 82 = s) {o : Int → Int} (r81 : h 81 = o) {fr : Int → Int} {p : sx_S} {u x : Int} (hb : sx_by s) (hs : sx_is o fr p u x) (hp : sx_pv s p) : mh_MP g d yX12_isDigit cX12_isDigit 1 (some .boolean) 96 [.ref 81] h (some (.int (Int32.ofInt (mh_B (48 ≤ sx_hr s p ∧ sx_hr s p ≤ 57))))) := by
  refine mh_M_of RX12 rfl (by decide +kernel) [some (.ref 81)] rfl (Nat.le_of_ble_eq_true rfl) (fun f F Z hn0 hR => ?_)
  obtain ⟨hrr, hzz⟩ := sx_hr_z hb hp
  obtain ⟨hp1, hp2, hp3⟩ := sx_pv_x hp
  obtain ⟨hs1, hs2, hs3, hs4, hs5, hs6⟩ := id hs
  have hb1 := hb.1
  refine mh_aload0 (pc := 0) F dX12_isDigit_0 ?_
  refine mh_callVp (pc := 1) (As := []) (st := []) F (by omega) (k_here (by omega) hF r82 r81 hb hs hp) wv_RX12_188_yX12_here dX12_isDigit_1 sh_81 rfl (by decide) rfl rfl (Nat.le_of_ble_eq_true rfl) ⟨Nat.zero_le _, Nat.zero_le _⟩ ?_
  refine mh_i2l (pc := 4) F dX12_isDigit_4 (by omega) ?_
  refine mh_ldc2 (x := 48) (pc := 5) F dX12_isDigit_5 tw_6_183 ?_
  refine mh_ldc2 (x := 57) (pc := 8) F dX12_isDigit_8 tw_6_184 ?_
  refine mh_callSp (pc := 11) (As := [.long (Int64.ofInt (sx_hr s p)), .long (Int64.ofInt (48)), .long (Int64.ofInt (57))]) (st := []) F (by omega) (k_in (by omega) (by omega) (by omega) (by omega)) ws_RX12_69 dX12_isDigit_11 rfl rfl (Nat.le_of_ble_eq_true rfl) ⟨Nat.zero_le _, Nat.zero_le _⟩ ?_
  exact mh_zreturnp F Z dX12_isDigit_14 mh_Bx rfl

set_option maxRecDepth 100000 in
set_option maxHeartbeats 4000000 in
theorem k_nameHere {g : mh_G} {d : Nat} (hd : 2 ≤ d) {h : Nat → Int → Int} (hF : mh_FX h) {s : Int → Int} (r82 : h 82 = s) {o : Int → Int} (r81 : h 81 = o) {fr : Int → Int} {p : sx_S} {u x : Int} (hb : sx_by s) (hs : sx_is o fr p u x) (hp : sx_pv s p) (hu : 0 ≤ u ∧ u ≤ 1) : mh_MP g d yX12_nameHere cX12_nameHere 2 (some .int) 96 [.ref 81] h (some (.int (Int32.ofInt (sx_nm u (sx_hr s p))))) := by
  refine mh_M_of RX12 rfl (by decide +kernel) [some (.ref 81), none] rfl (Nat.le_of_ble_eq_true rfl) (fun f F Z hn0 hR => ?_)
  obtain ⟨hrr, hzz⟩ := sx_hr_z hb hp
  obtain ⟨hp1, hp2, hp3⟩ := sx_pv_x hp
  obtain ⟨hs1, hs2, hs3, hs4, hs5, hs6⟩ := id hs
  have hb1 := hb.1
  refine mh_aload0 (pc := 0) F dX12_nameHere_0 ?_
  refine mh_callVp (pc := 1) (As := []) (st := []) F (by omega) (k_here (by omega) hF r82 r81 hb hs hp) wv_RX12_188_yX12_here dX12_nameHere_1 sh_81 rfl (by decide) rfl rfl (Nat.le_of_ble_eq_true rfl) ⟨Nat.zero_le _, Nat.zero_le _⟩ ?_
  refine mh_istore1 (pc := 4) F dX12_nameHere_4 rfl (by decide) ?_
  refine mh_aload0 (pc := 5) F dX12_nameHere_5 ?_
  refine mh_getir (pc := 6) F sh_81 (by decide) fw_RX12_199_12 dX12_nameHere_6 rfl r81 ?_
  refine mh_if_ne (pc := 9) (tgt := 34) F dX12_nameHere_9 rfl (by omega) (fun c_9 => ?_) (fun c_9 => ?_)
  · refine mh_iload1 (pc := 34) F dX12_nameHere_34 ?_
    refine mh_bipush (pc := 35) F dX12_nameHere_35 rfl ?_
    refine mh_icmp_ne (pc := 37) (tgt := 44) F dX12_nameHere_37 rfl (by omega) (by omega) (fun c_37 => ?_) (fun c_37 => ?_)
    · refine mh_iload1 (pc := 44) F dX12_nameHere_44 ?_
      refine mh_bipush (pc := 45) F dX12_nameHere_45 rfl ?_
      refine mh_icmp_ne (pc := 47) (tgt := 54) F dX12_nameHere_47 rfl (by omega) (by omega) (fun c_47 => ?_) (fun c_47 => ?_)
      · refine mh_iload1 (pc := 54) F dX12_nameHere_54 ?_
        refine mh_bipush (pc := 55) F dX12_nameHere_55 rfl ?_
        refine mh_icmp_ne (pc := 57) (tgt := 64) F dX12_nameHere_57 rfl (by omega) (by omega) (fun c_57 => ?_) (fun c_57 => ?_)
        · refine mh_iconst (pc := 64) F dX12_nameHere_64 ?_
          exact mh_ireturnp F Z dX12_nameHere_65 (by unfold sx_nm; (repeat' split) <;> first | rfl | (exfalso; omega)) rfl
        · refine mh_iconst (pc := 60) F dX12_nameHere_60 ?_
          refine mh_goto (pc := 61) (tgt := 65) F dX12_nameHere_61 rfl ?_
          exact mh_ireturnp F Z dX12_nameHere_65 (by unfold sx_nm; (repeat' split) <;> first | rfl | (exfalso; omega)) rfl
      · refine mh_iconst (pc := 50) F dX12_nameHere_50 ?_
        refine mh_goto (pc := 51) (tgt := 65) F dX12_nameHere_51 rfl ?_
        exact mh_ireturnp F Z dX12_nameHere_65 (by unfold sx_nm; (repeat' split) <;> first | rfl | (exfalso; omega)) rfl
    · refine mh_iconst (pc := 40) F dX12_nameHere_40 ?_
      refine mh_goto (pc := 41) (tgt := 65) F dX12_nameHere_41 rfl ?_
      exact mh_ireturnp F Z dX12_nameHere_65 (by unfold sx_nm; (repeat' split) <;> first | rfl | (exfalso; omega)) rfl
  · refine mh_iload1 (pc := 12) F dX12_nameHere_12 ?_
    refine mh_bipush (pc := 13) F dX12_nameHere_13 rfl ?_
    refine mh_icmp_ne (pc := 15) (tgt := 22) F dX12_nameHere_15 rfl (by omega) (by omega) (fun c_15 => ?_) (fun c_15 => ?_)
    · refine mh_iload1 (pc := 22) F dX12_nameHere_22 ?_
      refine mh_bipush (pc := 23) F dX12_nameHere_23 rfl ?_
      refine mh_icmp_ne (pc := 25) (tgt := 32) F dX12_nameHere_25 rfl (by omega) (by omega) (fun c_25 => ?_) (fun c_25 => ?_)
      · refine mh_iconst (pc := 32) F dX12_nameHere_32 ?_
        exact mh_ireturnp F Z dX12_nameHere_33 (by unfold sx_nm; (repeat' split) <;> first | rfl | (exfalso; omega)) rfl
      · refine mh_iconst (pc := 28) F dX12_nameHere_28 ?_
        refine mh_goto (pc := 29) (tgt := 33) F dX12_nameHere_29 rfl ?_
        exact mh_ireturnp F Z dX12_nameHere_33 (by unfold sx_nm; (repeat' split) <;> first | rfl | (exfalso; omega)) rfl
    · refine mh_iconst (pc := 18) F dX12_nameHere_18 ?_
      refine mh_goto (pc := 19) (tgt := 33) F dX12_nameHere_19 rfl ?_
      exact mh_ireturnp F Z dX12_nameHere_33 (by unfold sx_nm; (repeat' split) <;> first | rfl | (exfalso; omega)) rfl

set_option maxRecDepth 100000 in
set_option maxHeartbeats 4000000 in
theorem k_puts {g : mh_G} {d : Nat} (hd : 1 ≤ d) {h : Nat → Int → Int} (hF : mh_FX h) {s : Int → Int} (r82 : h 82 = s) {o : Int → Int} (r81 : h 81 = o) {fr : Int → Int} (r88 : h 88 = fr) {p : sx_S} {u x : Int} {c : Int} (hb : sx_by s) (hs : sx_is o fr p u x) (hp : sx_pv s p) (hm : sx_m5 p) : mh_M g d yX12_puts cX12_puts 2 none 96 0 0 [.ref 81, .int (Int32.ofInt (c))] h (sx_po h o (sx_pp c p) u (x)) := by
  refine mh_M_of RX12 rfl (by decide +kernel) [some (.ref 81), some (.int (Int32.ofInt (c)))] rfl (Nat.le_of_ble_eq_true rfl) (fun f F Z hn0 hR => ?_)
  have hfo : sx_fo o o := sx_fo.rf
  obtain ⟨hrr, hzz⟩ := sx_hr_z hb hp
  obtain ⟨hp1, hp2, hp3⟩ := sx_pv_x hp
  obtain ⟨hs1, hs2, hs3, hs4, hs5, hs6⟩ := id hs
  have hb1 := hb.1
  refine mh_aload0 (pc := 0) F dX12_puts_0 ?_
  refine mh_getir (pc := 1) F sh_81 (by decide) fw_RX12_184_12 dX12_puts_1 rfl r81 ?_
  refine mh_if_ne (pc := 4) (tgt := 27) F dX12_puts_4 rfl (by omega) (fun c_4 => ?_) (fun c_4 => ?_)
  · exact mh_return F Z dX12_puts_27 ⟨rfl, hF, (mh_fr.rf.mono (by simp)), (by rw [r81, r88]; exact (by rw [sx_pp_w (by omega)]; exact hs)), (by rw [r81]; exact hfo)⟩
  · have hm5 := hm (by omega)
    refine mh_aload0 (pc := 7) F dX12_puts_7 ?_
    refine mh_getr (b := 88) (pc := 8) F sh_81 (by decide) fw_RX12_28_12 dX12_puts_8 rfl (fx_81_8 hF) ?_
    refine mh_aload0 (pc := 11) F dX12_puts_11 ?_
    refine mh_getir (pc := 12) F sh_81 (by decide) fw_RX12_196_12 dX12_puts_12 rfl r81 ?_
    refine mh_iload1 (pc := 15) F dX12_puts_15 ?_
    refine mh_iastore (pc := 16) F sh_88 (by decide) (by omega) dX12_puts_16 ?_
    refine mh_nmh (fun h1 e1 => ?_)
    have F1 : mh_FX h1 := by rw [e1]; exact hF.upa rfl
    have r82_1 : h1 82 = s := by rw [e1, mh_up_row (by decide)]; exact r82
    have r81_1 : h1 81 = o := by rw [e1, mh_up_row (by decide)]; exact r81
    have r88_1 : h1 88 = mh_ur fr (o 9) c := by rw [e1, mh_up_rs, r88]
    have fr1 : mh_fr [88] h h1 := mh_fr.up mh_fr.rf e1
    refine mh_aload0 (pc := 17) F dX12_puts_17 ?_
    refine mh_dup (pc := 18) F dX12_puts_18 rfl ?_
    refine mh_getir (pc := 19) F sh_81 (by decide) fw_RX12_196_12 dX12_puts_19 rfl r81_1 ?_
    refine mh_iconst (pc := 22) F dX12_puts_22 ?_
    refine mh_iadd (pc := 23) F dX12_puts_23 ?_
    refine mh_puti (pc := 24) F sh_81 (by decide) pw_RX12_196_12 dX12_puts_24 ?_
    refine mh_nmh (fun h2 e2 => ?_)
    have F2 : mh_FX h2 := by rw [e2]; exact F1.upz rfl
    have r82_2 : h2 82 = s := by rw [e2, mh_up_row (by decide)]; exact r82_1
    have r81_2 : h2 81 = mh_ur o 9 ((o 9) + 1) := by rw [e2, mh_up_rs, r81_1]
    have r88_2 : h2 88 = mh_ur fr (o 9) c := by rw [e2, mh_up_row (by decide)]; exact r88_1
    have fr2 : mh_fr [81, 88] h h2 := mh_fr.up fr1 e2
    have hs := hs.pp (c := c) (by omega) rfl rfl
    have hfo := hfo.up (i := 9) (v := o 9 + 1) (by decide)
    exact mh_return F Z dX12_puts_27 ⟨rfl, F2, (fr2.mono (by simp)), (by rw [r81_2, r88_2]; exact hs), (by rw [r81_2]; exact hfo)⟩

set_option maxRecDepth 100000 in
set_option maxHeartbeats 4000000 in
theorem k_takesX {g : mh_G} {d : Nat} (hd : 2 ≤ d) {h : Nat → Int → Int} (hF : mh_FX h) {s : Int → Int} (r82 : h 82 = s) {o : Int → Int} (r81 : h 81 = o) {fr : Int → Int} (r88 : h 88 = fr) {p : sx_S} {u x : Int} {c : Int} (hb : sx_by s) (hs : sx_is o fr p u x) (hp : sx_pv s p) (hc : 0 ≤ c ∧ c ≤ 255) : mh_M g d yX12_takes_ cX12_takes_ 3 (some .boolean) 96 0 0 [.ref 81, .int (Int32.ofInt (c))] h (fun r h2 => r = some (.int (Int32.ofInt (mh_B (sx_hr s p = c)))) ∧ mh_FX h2 ∧ mh_fr [81] h h2 ∧ sx_is (h2 81) fr (if sx_hr s p = c then sx_pa p else p) u x ∧ sx_fo o (h2 81)) := by
  refine mh_M_of RX12 rfl (by decide +kernel) [some (.ref 81), some (.int (Int32.ofInt (c))), none] rfl (Nat.le_of_ble_eq_true rfl) (fun f F Z hn0 hR => ?_)
  obtain ⟨hrr, hzz⟩ := sx_hr_z hb hp
  obtain ⟨hp1, hp2, hp3⟩ := sx_pv_x hp
  obtain ⟨hs1, hs2, hs3, hs4, hs5, hs6⟩ := id hs
  have hb1 := hb.1
  refine mh_aload0 (pc := 0) F dX12_takes__0 ?_
  refine mh_callVp (pc := 1) (As := []) (st := []) F (by omega) (k_here (by omega) hF r82 r81 hb hs hp) wv_RX12_188_yX12_here dX12_takes__1 sh_81 rfl (by decide) rfl rfl (Nat.le_of_ble_eq_true rfl) ⟨Nat.zero_le _, Nat.zero_le _⟩ ?_
  refine mh_iload1 (pc := 4) F dX12_takes__4 ?_
  refine mh_icmp_ne (pc := 5) (tgt := 12) F dX12_takes__5 rfl (by omega) (by omega) (fun c_5 => ?_) (fun c_5 => ?_)
  · refine mh_iconst (pc := 12) F dX12_takes__12 ?_
    refine mh_istore2 (pc := 13) F dX12_takes__13 rfl (by decide) ?_
    refine mh_aload0 (pc := 14) F dX12_takes__14 ?_
    refine mh_dup (pc := 15) F dX12_takes__15 rfl ?_
    refine mh_getir (pc := 16) F sh_81 (by decide) fw_RX12_180_12 dX12_takes__16 rfl r81 ?_
    refine mh_iload2 (pc := 19) F dX12_takes__19 ?_
    refine mh_if_eq (pc := 20) (tgt := 27) F dX12_takes__20 rfl (by omega) (fun c_20 => ?_) (fun c_20 => ?_)
    · refine mh_iconst (pc := 27) F dX12_takes__27 ?_
      refine mh_iadd (pc := 28) F dX12_takes__28 ?_
      refine mh_puti (pc := 29) F sh_81 (by decide) pw_RX12_180_12 dX12_takes__29 ?_
      refine mh_nmh (fun h1 e1 => ?_)
      have F1 : mh_FX h1 := by rw [e1]; exact hF.upz rfl
      have r82_1 : h1 82 = s := by rw [e1, mh_up_row (by decide)]; exact r82
      have r81_1 : h1 81 = mh_ur o 10 ((o 10) + 0) := by rw [e1, mh_up_rs, r81]
      have r88_1 : h1 88 = fr := by rw [e1, mh_up_row (by decide)]; exact r88
      have fr1 : mh_fr [81] h h1 := mh_fr.up mh_fr.rf e1
      refine mh_iload2 (pc := 32) F dX12_takes__32 ?_
      exact mh_zreturn F Z dX12_takes__33 (by omega) ⟨mh_sv (by first | (rw [mh_B1 (by omega)]; done) | (rw [mh_B0 (by omega)]; done)), F1, fr1.mono (by simp), (by rw [r81_1]; first | (rw [if_pos (by omega)]; exact hs.pa rfl) | (rw [if_neg (by omega)]; exact hs.p0 (by omega))), (by rw [r81_1]; exact sx_fo.rf.up (by decide))⟩
    · exact absurd c_20 (by decide)
  · refine mh_iconst (pc := 8) F dX12_takes__8 ?_
    refine mh_goto (pc := 9) (tgt := 13) F dX12_takes__9 rfl ?_
    refine mh_istore2 (pc := 13) F dX12_takes__13 rfl (by decide) ?_
    refine mh_aload0 (pc := 14) F dX12_takes__14 ?_
    refine mh_dup (pc := 15) F dX12_takes__15 rfl ?_
    refine mh_getir (pc := 16) F sh_81 (by decide) fw_RX12_180_12 dX12_takes__16 rfl r81 ?_
    refine mh_iload2 (pc := 19) F dX12_takes__19 ?_
    refine mh_if_eq (pc := 20) (tgt := 27) F dX12_takes__20 rfl (by omega) (fun c_20 => ?_) (fun c_20 => ?_)
    · exact absurd c_20 (by decide)
    · refine mh_iconst (pc := 23) F dX12_takes__23 ?_
      refine mh_goto (pc := 24) (tgt := 28) F dX12_takes__24 rfl ?_
      refine mh_iadd (pc := 28) F dX12_takes__28 ?_
      refine mh_puti (pc := 29) F sh_81 (by decide) pw_RX12_180_12 dX12_takes__29 ?_
      refine mh_nmh (fun h2 e2 => ?_)
      have F2 : mh_FX h2 := by rw [e2]; exact hF.upz rfl
      have r82_2 : h2 82 = s := by rw [e2, mh_up_row (by decide)]; exact r82
      have r81_2 : h2 81 = mh_ur o 10 ((o 10) + 1) := by rw [e2, mh_up_rs, r81]
      have r88_2 : h2 88 = fr := by rw [e2, mh_up_row (by decide)]; exact r88
      have fr2 : mh_fr [81] h h2 := mh_fr.up mh_fr.rf e2
      refine mh_iload2 (pc := 32) F dX12_takes__32 ?_
      exact mh_zreturn F Z dX12_takes__33 (by omega) ⟨mh_sv (by first | (rw [mh_B1 (by omega)]; done) | (rw [mh_B0 (by omega)]; done)), F2, fr2.mono (by simp), (by rw [r81_2]; first | (rw [if_pos (by omega)]; exact hs.pa rfl) | (rw [if_neg (by omega)]; exact hs.p0 (by omega))), (by rw [r81_2]; exact sx_fo.rf.up (by decide))⟩

def sx_o0 (p : sx_S) (x : Int) : sx_S := if x = 5 then sx_pw p else if p.2.1 = 0 then sx_pa p else p
set_option maxRecDepth 100000 in
set_option maxHeartbeats 4000000 in
theorem k_opens {g : mh_G} {d : Nat} (hd : 1 ≤ d) {h : Nat → Int → Int} (hF : mh_FX h) {s : Int → Int} (r82 : h 82 = s) {o : Int → Int} (r81 : h 81 = o) {fr : Int → Int} (r88 : h 88 = fr) {p : sx_S} {u x : Int} (hb : sx_by s) (hs : sx_is o fr p u x) (hp : sx_pv s p) (hx : 0 ≤ x ∧ x ≤ 6) : mh_M g d yX12_opens cX12_opens 1 none 96 0 0 [.ref 81] h (sx_po h o (sx_o0 p x) u (x + 1)) := by
  refine mh_M_of RX12 rfl (by decide +kernel) [some (.ref 81)] rfl (Nat.le_of_ble_eq_true rfl) (fun f F Z hn0 hR => ?_)
  have hfo : sx_fo o o := sx_fo.rf
  obtain ⟨hrr, hzz⟩ := sx_hr_z hb hp
  obtain ⟨hp1, hp2, hp3⟩ := sx_pv_x hp
  obtain ⟨hs1, hs2, hs3, hs4, hs5, hs6⟩ := id hs
  have hb1 := hb.1
  refine mh_aload0 (pc := 0) F dX12_opens_0 ?_
  refine mh_aload0 (pc := 1) F dX12_opens_1 ?_
  refine mh_getir (pc := 2) F sh_81 (by decide) fw_RX12_184_12 dX12_opens_2 rfl r81 ?_
  refine mh_if_ne (pc := 5) (tgt := 16) F dX12_opens_5 rfl (by omega) (fun c_5 => ?_) (fun c_5 => ?_)
  · refine mh_iconst (pc := 16) F dX12_opens_16 ?_
    refine mh_goto (pc := 17) (tgt := 21) F dX12_opens_17 rfl ?_
    refine mh_putz (pc := 21) F sh_81 (by decide) pw_RX12_184_12 dX12_opens_21 (by omega) ?_
    refine mh_nmh (fun h1 e1 => ?_)
    have F1 : mh_FX h1 := by rw [e1]; exact hF.upz rfl
    have r82_1 : h1 82 = s := by rw [e1, mh_up_row (by decide)]; exact r82
    have r81_1 : h1 81 = mh_ur o 13 1 := by rw [e1, mh_up_rs, r81]
    obtain ⟨o1, eo1⟩ : ∃ z : Int → Int, z = mh_ur o 13 1 := ⟨_, rfl⟩
    rw [← eo1] at r81_1
    have r88_1 : h1 88 = fr := by rw [e1, mh_up_row (by decide)]; exact r88
    have fr1 : mh_fr [81] h h1 := mh_fr.up mh_fr.rf e1
    have hs := hs.pw
    have hfo := hfo.up (i := 13) (v := 1) (by decide)
    rw [← eo1] at hs hfo
    have z13 : o1 13 = 1 := by rw [eo1]; exact mh_ur_eq rfl
    refine mh_aload0 (pc := 24) F dX12_opens_24 ?_
    refine mh_dup (pc := 25) F dX12_opens_25 rfl ?_
    refine mh_getir (pc := 26) F sh_81 (by decide) fw_RX12_180_12 dX12_opens_26 rfl r81_1 ?_
    refine mh_aload0 (pc := 29) F dX12_opens_29 ?_
    refine mh_getir (pc := 30) F sh_81 (by decide) fw_RX12_184_12 dX12_opens_30 rfl r81_1 ?_
    refine mh_if_eq (pc := 33) (tgt := 40) F dX12_opens_33 rfl (by omega) (fun c_33 => ?_) (fun c_33 => ?_)
    · refine mh_iconst (pc := 40) F dX12_opens_40 ?_
      refine mh_iadd (pc := 41) F dX12_opens_41 ?_
      refine mh_puti (pc := 42) F sh_81 (by decide) pw_RX12_180_12 dX12_opens_42 ?_
      refine mh_nmh (fun h2 e2 => ?_)
      have F2 : mh_FX h2 := by rw [e2]; exact F1.upz rfl
      have r82_2 : h2 82 = s := by rw [e2, mh_up_row (by decide)]; exact r82_1
      have r81_2 : h2 81 = mh_ur o1 10 ((o1 10) + 1) := by rw [e2, mh_up_rs, r81_1]
      have r88_2 : h2 88 = fr := by rw [e2, mh_up_row (by decide)]; exact r88_1
      have fr2 : mh_fr [81] h h2 := mh_fr.upi fr1 e2 (by simp)
      have hs := hs.pa rfl
      have hfo := hfo.up (i := 10) (v := (o1 10) + 1) (by decide)
      refine mh_aload0 (pc := 45) F dX12_opens_45 ?_
      refine mh_dup (pc := 46) F dX12_opens_46 rfl ?_
      refine mh_getir (pc := 47) F sh_81 (by decide) fw_RX12_209_12 dX12_opens_47 rfl r81_2 ?_
      refine mh_iconst (pc := 50) F dX12_opens_50 ?_
      refine mh_iadd (pc := 51) F dX12_opens_51 ?_
      refine mh_puti (pc := 52) F sh_81 (by decide) pw_RX12_209_12 dX12_opens_52 ?_
      refine mh_nmh (fun h3 e3 => ?_)
      have F3 : mh_FX h3 := by rw [e3]; exact F2.upz rfl
      have r82_3 : h3 82 = s := by rw [e3, mh_up_row (by decide)]; exact r82_2
      have r81_3 : h3 81 = mh_ur (mh_ur o1 10 ((o1 10) + 1)) 11 (((mh_ur o1 10 ((o1 10) + 1)) 11) + 1) := by rw [e3, mh_up_rs, r81_2]
      have r88_3 : h3 88 = fr := by rw [e3, mh_up_row (by decide)]; exact r88_2
      have fr3 : mh_fr [81] h h3 := mh_fr.upi fr2 e3 (by simp)
      have hs := (hs.ox (v := ((mh_ur o1 10 ((o1 10) + 1)) 11) + 1)).eq rfl (show x + 1 = ((mh_ur o1 10 ((o1 10) + 1)) 11) + 1 by have q := hs.2.2.2.2.2; omega)
      have hfo := hfo.up (i := 11) (v := ((mh_ur o1 10 ((o1 10) + 1)) 11) + 1) (by decide)
      exact mh_return F Z dX12_opens_55 ⟨rfl, F3, (fr3.mono (by simp)), (by rw [r81_3, r88_3]; exact (hs.eq (by unfold sx_o0; first | (exfalso; omega) | (rw [if_pos (by omega)]; done) | (rw [if_neg (by omega), if_pos (by omega)]; done) | (rw [if_neg (by omega), if_neg (by omega), sx_pw_w (p := p) (by omega)]; done) | (rcases Classical.em (x = 5) with z5 | z5; exact if_pos z5; exact (if_neg z5).trans ((if_neg (by omega)).trans (sx_pw_w (p := p) (by omega)).symm))) rfl)), (by rw [r81_3]; exact hfo)⟩
    · refine mh_iconst (pc := 36) F dX12_opens_36 ?_
      refine mh_goto (pc := 37) (tgt := 41) F dX12_opens_37 rfl ?_
      refine mh_iadd (pc := 41) F dX12_opens_41 ?_
      refine mh_puti (pc := 42) F sh_81 (by decide) pw_RX12_180_12 dX12_opens_42 ?_
      refine mh_nmh (fun h4 e4 => ?_)
      have F4 : mh_FX h4 := by rw [e4]; exact F1.upz rfl
      have r82_4 : h4 82 = s := by rw [e4, mh_up_row (by decide)]; exact r82_1
      have r81_4 : h4 81 = mh_ur o1 10 ((o1 10) + 0) := by rw [e4, mh_up_rs, r81_1]
      have r88_4 : h4 88 = fr := by rw [e4, mh_up_row (by decide)]; exact r88_1
      have fr4 : mh_fr [81] h h4 := mh_fr.upi fr1 e4 (by simp)
      have hs := hs.p0 (v := o1 10 + 0) (Int.add_zero _)
      have hfo := hfo.up (i := 10) (v := (o1 10) + 0) (by decide)
      refine mh_aload0 (pc := 45) F dX12_opens_45 ?_
      refine mh_dup (pc := 46) F dX12_opens_46 rfl ?_
      refine mh_getir (pc := 47) F sh_81 (by decide) fw_RX12_209_12 dX12_opens_47 rfl r81_4 ?_
      refine mh_iconst (pc := 50) F dX12_opens_50 ?_
      refine mh_iadd (pc := 51) F dX12_opens_51 ?_
      refine mh_puti (pc := 52) F sh_81 (by decide) pw_RX12_209_12 dX12_opens_52 ?_
      refine mh_nmh (fun h5 e5 => ?_)
      have F5 : mh_FX h5 := by rw [e5]; exact F4.upz rfl
      have r82_5 : h5 82 = s := by rw [e5, mh_up_row (by decide)]; exact r82_4
      have r81_5 : h5 81 = mh_ur (mh_ur o1 10 ((o1 10) + 0)) 11 (((mh_ur o1 10 ((o1 10) + 0)) 11) + 1) := by rw [e5, mh_up_rs, r81_4]
      have r88_5 : h5 88 = fr := by rw [e5, mh_up_row (by decide)]; exact r88_4
      have fr5 : mh_fr [81] h h5 := mh_fr.upi fr4 e5 (by simp)
      have hs := (hs.ox (v := ((mh_ur o1 10 ((o1 10) + 0)) 11) + 1)).eq rfl (show x + 1 = ((mh_ur o1 10 ((o1 10) + 0)) 11) + 1 by have q := hs.2.2.2.2.2; omega)
      have hfo := hfo.up (i := 11) (v := ((mh_ur o1 10 ((o1 10) + 0)) 11) + 1) (by decide)
      exact mh_return F Z dX12_opens_55 ⟨rfl, F5, (fr5.mono (by simp)), (by rw [r81_5, r88_5]; exact (hs.eq (by unfold sx_o0; first | (exfalso; omega) | (rw [if_pos (by omega)]; done) | (rw [if_neg (by omega), if_pos (by omega)]; done) | (rw [if_neg (by omega), if_neg (by omega), sx_pw_w (p := p) (by omega)]; done) | (rcases Classical.em (x = 5) with z5 | z5; exact if_pos z5; exact (if_neg z5).trans ((if_neg (by omega)).trans (sx_pw_w (p := p) (by omega)).symm))) rfl)), (by rw [r81_5]; exact hfo)⟩
  · refine mh_aload0 (pc := 8) F dX12_opens_8 ?_
    refine mh_getir (pc := 9) F sh_81 (by decide) fw_RX12_209_12 dX12_opens_9 rfl r81 ?_
    refine mh_iconst (pc := 12) F dX12_opens_12 ?_
    refine mh_icmp_ne (pc := 13) (tgt := 20) F dX12_opens_13 rfl (by omega) (by omega) (fun c_13 => ?_) (fun c_13 => ?_)
    · refine mh_iconst (pc := 20) F dX12_opens_20 ?_
      refine mh_putz (pc := 21) F sh_81 (by decide) pw_RX12_184_12 dX12_opens_21 (by omega) ?_
      refine mh_nmh (fun h6 e6 => ?_)
      have F6 : mh_FX h6 := by rw [e6]; exact hF.upz rfl
      have r82_6 : h6 82 = s := by rw [e6, mh_up_row (by decide)]; exact r82
      have r81_6 : h6 81 = mh_ur o 13 0 := by rw [e6, mh_up_rs, r81]
      obtain ⟨o1, eo1⟩ : ∃ z : Int → Int, z = mh_ur o 13 0 := ⟨_, rfl⟩
      rw [← eo1] at r81_6
      have r88_6 : h6 88 = fr := by rw [e6, mh_up_row (by decide)]; exact r88
      have fr6 : mh_fr [81] h h6 := mh_fr.up mh_fr.rf e6
      have hs := hs.w0 (v := 0) (by omega)
      have hfo := hfo.up (i := 13) (v := 0) (by decide)
      rw [← eo1] at hs hfo
      have z13 : o1 13 = 0 := by rw [eo1]; exact mh_ur_eq rfl
      refine mh_aload0 (pc := 24) F dX12_opens_24 ?_
      refine mh_dup (pc := 25) F dX12_opens_25 rfl ?_
      refine mh_getir (pc := 26) F sh_81 (by decide) fw_RX12_180_12 dX12_opens_26 rfl r81_6 ?_
      refine mh_aload0 (pc := 29) F dX12_opens_29 ?_
      refine mh_getir (pc := 30) F sh_81 (by decide) fw_RX12_184_12 dX12_opens_30 rfl r81_6 ?_
      refine mh_if_eq (pc := 33) (tgt := 40) F dX12_opens_33 rfl (by omega) (fun c_33 => ?_) (fun c_33 => ?_)
      · refine mh_iconst (pc := 40) F dX12_opens_40 ?_
        refine mh_iadd (pc := 41) F dX12_opens_41 ?_
        refine mh_puti (pc := 42) F sh_81 (by decide) pw_RX12_180_12 dX12_opens_42 ?_
        refine mh_nmh (fun h7 e7 => ?_)
        have F7 : mh_FX h7 := by rw [e7]; exact F6.upz rfl
        have r82_7 : h7 82 = s := by rw [e7, mh_up_row (by decide)]; exact r82_6
        have r81_7 : h7 81 = mh_ur o1 10 ((o1 10) + 1) := by rw [e7, mh_up_rs, r81_6]
        have r88_7 : h7 88 = fr := by rw [e7, mh_up_row (by decide)]; exact r88_6
        have fr7 : mh_fr [81] h h7 := mh_fr.upi fr6 e7 (by simp)
        have hs := hs.pa rfl
        have hfo := hfo.up (i := 10) (v := (o1 10) + 1) (by decide)
        refine mh_aload0 (pc := 45) F dX12_opens_45 ?_
        refine mh_dup (pc := 46) F dX12_opens_46 rfl ?_
        refine mh_getir (pc := 47) F sh_81 (by decide) fw_RX12_209_12 dX12_opens_47 rfl r81_7 ?_
        refine mh_iconst (pc := 50) F dX12_opens_50 ?_
        refine mh_iadd (pc := 51) F dX12_opens_51 ?_
        refine mh_puti (pc := 52) F sh_81 (by decide) pw_RX12_209_12 dX12_opens_52 ?_
        refine mh_nmh (fun h8 e8 => ?_)
        have F8 : mh_FX h8 := by rw [e8]; exact F7.upz rfl
        have r82_8 : h8 82 = s := by rw [e8, mh_up_row (by decide)]; exact r82_7
        have r81_8 : h8 81 = mh_ur (mh_ur o1 10 ((o1 10) + 1)) 11 (((mh_ur o1 10 ((o1 10) + 1)) 11) + 1) := by rw [e8, mh_up_rs, r81_7]
        have r88_8 : h8 88 = fr := by rw [e8, mh_up_row (by decide)]; exact r88_7
        have fr8 : mh_fr [81] h h8 := mh_fr.upi fr7 e8 (by simp)
        have hs := (hs.ox (v := ((mh_ur o1 10 ((o1 10) + 1)) 11) + 1)).eq rfl (show x + 1 = ((mh_ur o1 10 ((o1 10) + 1)) 11) + 1 by have q := hs.2.2.2.2.2; omega)
        have hfo := hfo.up (i := 11) (v := ((mh_ur o1 10 ((o1 10) + 1)) 11) + 1) (by decide)
        exact mh_return F Z dX12_opens_55 ⟨rfl, F8, (fr8.mono (by simp)), (by rw [r81_8, r88_8]; exact (hs.eq (by unfold sx_o0; first | (exfalso; omega) | (rw [if_pos (by omega)]; done) | (rw [if_neg (by omega), if_pos (by omega)]; done) | (rw [if_neg (by omega), if_neg (by omega), sx_pw_w (p := p) (by omega)]; done) | (rcases Classical.em (x = 5) with z5 | z5; exact if_pos z5; exact (if_neg z5).trans ((if_neg (by omega)).trans (sx_pw_w (p := p) (by omega)).symm))) rfl)), (by rw [r81_8]; exact hfo)⟩
      · refine mh_iconst (pc := 36) F dX12_opens_36 ?_
        refine mh_goto (pc := 37) (tgt := 41) F dX12_opens_37 rfl ?_
        refine mh_iadd (pc := 41) F dX12_opens_41 ?_
        refine mh_puti (pc := 42) F sh_81 (by decide) pw_RX12_180_12 dX12_opens_42 ?_
        refine mh_nmh (fun h9 e9 => ?_)
        have F9 : mh_FX h9 := by rw [e9]; exact F6.upz rfl
        have r82_9 : h9 82 = s := by rw [e9, mh_up_row (by decide)]; exact r82_6
        have r81_9 : h9 81 = mh_ur o1 10 ((o1 10) + 0) := by rw [e9, mh_up_rs, r81_6]
        have r88_9 : h9 88 = fr := by rw [e9, mh_up_row (by decide)]; exact r88_6
        have fr9 : mh_fr [81] h h9 := mh_fr.upi fr6 e9 (by simp)
        have hs := hs.p0 (v := o1 10 + 0) (Int.add_zero _)
        have hfo := hfo.up (i := 10) (v := (o1 10) + 0) (by decide)
        refine mh_aload0 (pc := 45) F dX12_opens_45 ?_
        refine mh_dup (pc := 46) F dX12_opens_46 rfl ?_
        refine mh_getir (pc := 47) F sh_81 (by decide) fw_RX12_209_12 dX12_opens_47 rfl r81_9 ?_
        refine mh_iconst (pc := 50) F dX12_opens_50 ?_
        refine mh_iadd (pc := 51) F dX12_opens_51 ?_
        refine mh_puti (pc := 52) F sh_81 (by decide) pw_RX12_209_12 dX12_opens_52 ?_
        refine mh_nmh (fun h10 e10 => ?_)
        have F10 : mh_FX h10 := by rw [e10]; exact F9.upz rfl
        have r82_10 : h10 82 = s := by rw [e10, mh_up_row (by decide)]; exact r82_9
        have r81_10 : h10 81 = mh_ur (mh_ur o1 10 ((o1 10) + 0)) 11 (((mh_ur o1 10 ((o1 10) + 0)) 11) + 1) := by rw [e10, mh_up_rs, r81_9]
        have r88_10 : h10 88 = fr := by rw [e10, mh_up_row (by decide)]; exact r88_9
        have fr10 : mh_fr [81] h h10 := mh_fr.upi fr9 e10 (by simp)
        have hs := (hs.ox (v := ((mh_ur o1 10 ((o1 10) + 0)) 11) + 1)).eq rfl (show x + 1 = ((mh_ur o1 10 ((o1 10) + 0)) 11) + 1 by have q := hs.2.2.2.2.2; omega)
        have hfo := hfo.up (i := 11) (v := ((mh_ur o1 10 ((o1 10) + 0)) 11) + 1) (by decide)
        exact mh_return F Z dX12_opens_55 ⟨rfl, F10, (fr10.mono (by simp)), (by rw [r81_10, r88_10]; exact (hs.eq (by unfold sx_o0; first | (exfalso; omega) | (rw [if_pos (by omega)]; done) | (rw [if_neg (by omega), if_pos (by omega)]; done) | (rw [if_neg (by omega), if_neg (by omega), sx_pw_w (p := p) (by omega)]; done) | (rcases Classical.em (x = 5) with z5 | z5; exact if_pos z5; exact (if_neg z5).trans ((if_neg (by omega)).trans (sx_pw_w (p := p) (by omega)).symm))) rfl)), (by rw [r81_10]; exact hfo)⟩
    · refine mh_iconst (pc := 16) F dX12_opens_16 ?_
      refine mh_goto (pc := 17) (tgt := 21) F dX12_opens_17 rfl ?_
      refine mh_putz (pc := 21) F sh_81 (by decide) pw_RX12_184_12 dX12_opens_21 (by omega) ?_
      refine mh_nmh (fun h11 e11 => ?_)
      have F11 : mh_FX h11 := by rw [e11]; exact hF.upz rfl
      have r82_11 : h11 82 = s := by rw [e11, mh_up_row (by decide)]; exact r82
      have r81_11 : h11 81 = mh_ur o 13 1 := by rw [e11, mh_up_rs, r81]
      obtain ⟨o1, eo1⟩ : ∃ z : Int → Int, z = mh_ur o 13 1 := ⟨_, rfl⟩
      rw [← eo1] at r81_11
      have r88_11 : h11 88 = fr := by rw [e11, mh_up_row (by decide)]; exact r88
      have fr11 : mh_fr [81] h h11 := mh_fr.up mh_fr.rf e11
      have hs := hs.pw
      have hfo := hfo.up (i := 13) (v := 1) (by decide)
      rw [← eo1] at hs hfo
      have z13 : o1 13 = 1 := by rw [eo1]; exact mh_ur_eq rfl
      refine mh_aload0 (pc := 24) F dX12_opens_24 ?_
      refine mh_dup (pc := 25) F dX12_opens_25 rfl ?_
      refine mh_getir (pc := 26) F sh_81 (by decide) fw_RX12_180_12 dX12_opens_26 rfl r81_11 ?_
      refine mh_aload0 (pc := 29) F dX12_opens_29 ?_
      refine mh_getir (pc := 30) F sh_81 (by decide) fw_RX12_184_12 dX12_opens_30 rfl r81_11 ?_
      refine mh_if_eq (pc := 33) (tgt := 40) F dX12_opens_33 rfl (by omega) (fun c_33 => ?_) (fun c_33 => ?_)
      · refine mh_iconst (pc := 40) F dX12_opens_40 ?_
        refine mh_iadd (pc := 41) F dX12_opens_41 ?_
        refine mh_puti (pc := 42) F sh_81 (by decide) pw_RX12_180_12 dX12_opens_42 ?_
        refine mh_nmh (fun h12 e12 => ?_)
        have F12 : mh_FX h12 := by rw [e12]; exact F11.upz rfl
        have r82_12 : h12 82 = s := by rw [e12, mh_up_row (by decide)]; exact r82_11
        have r81_12 : h12 81 = mh_ur o1 10 ((o1 10) + 1) := by rw [e12, mh_up_rs, r81_11]
        have r88_12 : h12 88 = fr := by rw [e12, mh_up_row (by decide)]; exact r88_11
        have fr12 : mh_fr [81] h h12 := mh_fr.upi fr11 e12 (by simp)
        have hs := hs.pa rfl
        have hfo := hfo.up (i := 10) (v := (o1 10) + 1) (by decide)
        refine mh_aload0 (pc := 45) F dX12_opens_45 ?_
        refine mh_dup (pc := 46) F dX12_opens_46 rfl ?_
        refine mh_getir (pc := 47) F sh_81 (by decide) fw_RX12_209_12 dX12_opens_47 rfl r81_12 ?_
        refine mh_iconst (pc := 50) F dX12_opens_50 ?_
        refine mh_iadd (pc := 51) F dX12_opens_51 ?_
        refine mh_puti (pc := 52) F sh_81 (by decide) pw_RX12_209_12 dX12_opens_52 ?_
        refine mh_nmh (fun h13 e13 => ?_)
        have F13 : mh_FX h13 := by rw [e13]; exact F12.upz rfl
        have r82_13 : h13 82 = s := by rw [e13, mh_up_row (by decide)]; exact r82_12
        have r81_13 : h13 81 = mh_ur (mh_ur o1 10 ((o1 10) + 1)) 11 (((mh_ur o1 10 ((o1 10) + 1)) 11) + 1) := by rw [e13, mh_up_rs, r81_12]
        have r88_13 : h13 88 = fr := by rw [e13, mh_up_row (by decide)]; exact r88_12
        have fr13 : mh_fr [81] h h13 := mh_fr.upi fr12 e13 (by simp)
        have hs := (hs.ox (v := ((mh_ur o1 10 ((o1 10) + 1)) 11) + 1)).eq rfl (show x + 1 = ((mh_ur o1 10 ((o1 10) + 1)) 11) + 1 by have q := hs.2.2.2.2.2; omega)
        have hfo := hfo.up (i := 11) (v := ((mh_ur o1 10 ((o1 10) + 1)) 11) + 1) (by decide)
        exact mh_return F Z dX12_opens_55 ⟨rfl, F13, (fr13.mono (by simp)), (by rw [r81_13, r88_13]; exact (hs.eq (by unfold sx_o0; first | (exfalso; omega) | (rw [if_pos (by omega)]; done) | (rw [if_neg (by omega), if_pos (by omega)]; done) | (rw [if_neg (by omega), if_neg (by omega), sx_pw_w (p := p) (by omega)]; done) | (rcases Classical.em (x = 5) with z5 | z5; exact if_pos z5; exact (if_neg z5).trans ((if_neg (by omega)).trans (sx_pw_w (p := p) (by omega)).symm))) rfl)), (by rw [r81_13]; exact hfo)⟩
      · refine mh_iconst (pc := 36) F dX12_opens_36 ?_
        refine mh_goto (pc := 37) (tgt := 41) F dX12_opens_37 rfl ?_
        refine mh_iadd (pc := 41) F dX12_opens_41 ?_
        refine mh_puti (pc := 42) F sh_81 (by decide) pw_RX12_180_12 dX12_opens_42 ?_
        refine mh_nmh (fun h14 e14 => ?_)
        have F14 : mh_FX h14 := by rw [e14]; exact F11.upz rfl
        have r82_14 : h14 82 = s := by rw [e14, mh_up_row (by decide)]; exact r82_11
        have r81_14 : h14 81 = mh_ur o1 10 ((o1 10) + 0) := by rw [e14, mh_up_rs, r81_11]
        have r88_14 : h14 88 = fr := by rw [e14, mh_up_row (by decide)]; exact r88_11
        have fr14 : mh_fr [81] h h14 := mh_fr.upi fr11 e14 (by simp)
        have hs := hs.p0 (v := o1 10 + 0) (Int.add_zero _)
        have hfo := hfo.up (i := 10) (v := (o1 10) + 0) (by decide)
        refine mh_aload0 (pc := 45) F dX12_opens_45 ?_
        refine mh_dup (pc := 46) F dX12_opens_46 rfl ?_
        refine mh_getir (pc := 47) F sh_81 (by decide) fw_RX12_209_12 dX12_opens_47 rfl r81_14 ?_
        refine mh_iconst (pc := 50) F dX12_opens_50 ?_
        refine mh_iadd (pc := 51) F dX12_opens_51 ?_
        refine mh_puti (pc := 52) F sh_81 (by decide) pw_RX12_209_12 dX12_opens_52 ?_
        refine mh_nmh (fun h15 e15 => ?_)
        have F15 : mh_FX h15 := by rw [e15]; exact F14.upz rfl
        have r82_15 : h15 82 = s := by rw [e15, mh_up_row (by decide)]; exact r82_14
        have r81_15 : h15 81 = mh_ur (mh_ur o1 10 ((o1 10) + 0)) 11 (((mh_ur o1 10 ((o1 10) + 0)) 11) + 1) := by rw [e15, mh_up_rs, r81_14]
        have r88_15 : h15 88 = fr := by rw [e15, mh_up_row (by decide)]; exact r88_14
        have fr15 : mh_fr [81] h h15 := mh_fr.upi fr14 e15 (by simp)
        have hs := (hs.ox (v := ((mh_ur o1 10 ((o1 10) + 0)) 11) + 1)).eq rfl (show x + 1 = ((mh_ur o1 10 ((o1 10) + 0)) 11) + 1 by have q := hs.2.2.2.2.2; omega)
        have hfo := hfo.up (i := 11) (v := ((mh_ur o1 10 ((o1 10) + 0)) 11) + 1) (by decide)
        exact mh_return F Z dX12_opens_55 ⟨rfl, F15, (fr15.mono (by simp)), (by rw [r81_15, r88_15]; exact (hs.eq (by unfold sx_o0; first | (exfalso; omega) | (rw [if_pos (by omega)]; done) | (rw [if_neg (by omega), if_pos (by omega)]; done) | (rw [if_neg (by omega), if_neg (by omega), sx_pw_w (p := p) (by omega)]; done) | (rcases Classical.em (x = 5) with z5 | z5; exact if_pos z5; exact (if_neg z5).trans ((if_neg (by omega)).trans (sx_pw_w (p := p) (by omega)).symm))) rfl)), (by rw [r81_15]; exact hfo)⟩

set_option maxRecDepth 100000 in
set_option maxHeartbeats 4000000 in
theorem k_numberRead {g : mh_G} {d : Nat} (hd : 3 ≤ d) {h : Nat → Int → Int} (hF : mh_FX h) {s : Int → Int} (r82 : h 82 = s) {o : Int → Int} (r81 : h 81 = o) {fr : Int → Int} (r88 : h 88 = fr) {p : sx_S} {u x : Int} (hb : sx_by s) (hs : sx_is o fr p u x) (hp : sx_pv s p) (h6 : sx_w6 x p) (hd : 48 ≤ sx_hr s p ∧ sx_hr s p ≤ 57) : mh_M g d yX12_numberRead cX12_numberRead 3 none 96 0 0 [.ref 81] h (sx_po h o (sx_nu s p) u (x)) := by
  refine mh_M_of RX12 rfl (by decide +kernel) [some (.ref 81), none, none] rfl (Nat.le_of_ble_eq_true rfl) (fun f F Z hn0 hR => ?_)
  have hfo : sx_fo o o := sx_fo.rf
  obtain ⟨hrr, hzz⟩ := sx_hr_z hb hp
  obtain ⟨hp1, hp2, hp3⟩ := sx_pv_x hp
  obtain ⟨hs1, hs2, hs3, hs4, hs5, hs6⟩ := id hs
  have hb1 := hb.1
  have hpp := hp
  have hdp := hd
  refine mh_iconst (pc := 0) F dX12_numberRead_0 ?_
  refine mh_istore1 (pc := 1) F dX12_numberRead_1 rfl (by decide) ?_
  refine mh_iconst (pc := 2) F dX12_numberRead_2 ?_
  refine mh_istore2 (pc := 3) F dX12_numberRead_3 rfl (by decide) ?_
  have L4 : ∀ (m : Nat) (v : Int) (n : Int) (ha : Nat → Int → Int) (oa : Int → Int) (fa : Int → Int) (qa : sx_S), (mh_FX ha) → (mh_fr [81, 88] h ha) → (ha 82 = s) → (ha 81 = oa) → (ha 88 = fa) → (sx_is oa fa qa u x) → (sx_pv s qa) → (sx_fo o oa) → (0 ≤ n ∧ n ≤ 4) → (sx_dg s 4 0 p = sx_dg s (4 - n).toNat v qa) → (sx_w6 x qa) → (qa.2.2.1 = p.2.2.1 ∧ p.1 + n ≤ qa.1 ∧ qa.2.1 = p.2.1) → (4 - n).toNat = m → mh_V g f 3 96 0 0 4 [some (.ref 81), some (.int (Int32.ofInt (v))), some (.int (Int32.ofInt (n)))] [] ha := by
    intro m
    induction m using Nat.strongRecOn with
    | _ m ihL4 =>
    intro v n ha oa fa qa Fa fra r82a r81a r88a hs hp hfo hn hdg h6 hsl hmz
    obtain ⟨hrr, hzz⟩ := sx_hr_z hb hp
    obtain ⟨hp1, hp2, hp3⟩ := sx_pv_x hp
    obtain ⟨hs1, hs2, hs3, hs4, hs5, hs6⟩ := id hs
    refine mh_iload2 (pc := 4) F dX12_numberRead_4 ?_
    refine mh_iconst (pc := 5) F dX12_numberRead_5 ?_
    refine mh_icmp_ge (pc := 6) (tgt := 45) F dX12_numberRead_6 rfl (by omega) (by omega) (fun c_6 => ?_) (fun c_6 => ?_)
    · have hdz : sx_dg s 4 0 p = (v, qa) := hdg.trans (by
        rcases (show n = 4 ∨ n < 4 by omega) with z | z
        · rw [z]; rfl
        · rw [show (4 - n).toNat = (4 - (n + 1)).toNat + 1 by omega]; exact if_neg (by omega))
      have hgr := sx_nu_gr hb hpp hdp
      have hnu : sx_nu s p = sx_pp v qa := by unfold sx_nu; rw [hdz]
      rw [hnu] at hgr
      have zpv : sx_pv s (sx_pp v qa) := hgr.1
      have hpm : sx_m5 qa := fun z => by
        have e : sx_pp v qa = (qa.1, qa.2.1, qa.2.2.1 + 1, mh_ur qa.2.2.2 qa.2.2.1 v) := if_pos z
        have g1 : (sx_pp v qa).2.2.1 = qa.2.2.1 + 1 := by rw [e]
        have g2 : (sx_pp v qa).1 = qa.1 := by rw [e]
        have g3 := hgr.1.2.1
        have g4 := hgr.1.1
        omega
      refine mh_aload0 (pc := 45) F dX12_numberRead_45 ?_
      refine mh_iload1 (pc := 46) F dX12_numberRead_46 ?_
      refine mh_callV0 (pc := 47) (As := [.int (Int32.ofInt (v))]) (st := []) F (by omega) (k_puts (by omega) Fa r82a r81a r88a hb hs hp hpm) wv_RX12_206_yX12_puts dX12_numberRead_47 sh_81 rfl (by decide) rfl rfl (Nat.le_of_ble_eq_true rfl) ⟨Nat.zero_le _, Nat.zero_le _⟩ (fun r1 h1 q1 => ?_)
      obtain ⟨rfl, F1, fr1, hs, hfk⟩ := q1
      obtain ⟨o1, eo1⟩ : ∃ z : Int → Int, z = h1 81 := ⟨_, rfl⟩
      obtain ⟨f1, ef1⟩ : ∃ z : Int → Int, z = h1 88 := ⟨_, rfl⟩
      rw [← eo1, ← ef1] at hs
      rw [← eo1] at hfk
      have r82_2 : h1 82 = s := (fr1 _ (by decide)).trans r82a
      have fr2 : mh_fr [81, 88] h h1 := (mh_fr.tr fra fr1).mono (by simp)
      have hfo := hfo.tr hfk
      obtain ⟨p1, ep1⟩ : ∃ z : sx_S, z = sx_pp v qa := ⟨_, rfl⟩
      have hpn := zpv
      rw [← ep1] at hs
      have hp : sx_pv s p1 := by rw [ep1]; exact hpn
      obtain ⟨hrr, hzz⟩ := sx_hr_z hb hp
      obtain ⟨hp1, hp2, hp3⟩ := sx_pv_x hp
      obtain ⟨hs1, hs2, hs3, hs4, hs5, hs6⟩ := id hs
      exact mh_return F Z dX12_numberRead_50 ⟨rfl, F1, (fr2.mono (by simp)), (by rw [eo1.symm, ef1.symm]; exact (by rw [hnu, ← ep1]; exact hs)), (by rw [eo1.symm]; exact hfo)⟩
    · refine mh_aload0 (pc := 9) F dX12_numberRead_9 ?_
      refine mh_callVp (pc := 10) (As := []) (st := []) F (by omega) (k_isDigit (by omega) Fa r82a r81a hb hs hp) wv_RX12_202_yX12_isDigit dX12_numberRead_10 sh_81 rfl (by decide) rfl rfl (Nat.le_of_ble_eq_true rfl) ⟨Nat.zero_le _, Nat.zero_le _⟩ ?_
      refine mh_ifb_eq (pc := 13) (tgt := 45) F dX12_numberRead_13 rfl (fun c_13 => ?_) (fun c_13 => ?_)
      · have hdz : sx_dg s 4 0 p = (v, qa) := hdg.trans (by
          rcases (show n = 4 ∨ n < 4 by omega) with z | z
          · rw [z]; rfl
          · rw [show (4 - n).toNat = (4 - (n + 1)).toNat + 1 by omega]; exact if_neg (by omega))
        have hgr := sx_nu_gr hb hpp hdp
        have hnu : sx_nu s p = sx_pp v qa := by unfold sx_nu; rw [hdz]
        rw [hnu] at hgr
        have zpv : sx_pv s (sx_pp v qa) := hgr.1
        have hpm : sx_m5 qa := fun z => by
          have e : sx_pp v qa = (qa.1, qa.2.1, qa.2.2.1 + 1, mh_ur qa.2.2.2 qa.2.2.1 v) := if_pos z
          have g1 : (sx_pp v qa).2.2.1 = qa.2.2.1 + 1 := by rw [e]
          have g2 : (sx_pp v qa).1 = qa.1 := by rw [e]
          have g3 := hgr.1.2.1
          have g4 := hgr.1.1
          omega
        refine mh_aload0 (pc := 45) F dX12_numberRead_45 ?_
        refine mh_iload1 (pc := 46) F dX12_numberRead_46 ?_
        refine mh_callV0 (pc := 47) (As := [.int (Int32.ofInt (v))]) (st := []) F (by omega) (k_puts (by omega) Fa r82a r81a r88a hb hs hp hpm) wv_RX12_206_yX12_puts dX12_numberRead_47 sh_81 rfl (by decide) rfl rfl (Nat.le_of_ble_eq_true rfl) ⟨Nat.zero_le _, Nat.zero_le _⟩ (fun r3 h3 q3 => ?_)
        obtain ⟨rfl, F3, fr3, hs, hfk⟩ := q3
        obtain ⟨o3, eo3⟩ : ∃ z : Int → Int, z = h3 81 := ⟨_, rfl⟩
        obtain ⟨f3, ef3⟩ : ∃ z : Int → Int, z = h3 88 := ⟨_, rfl⟩
        rw [← eo3, ← ef3] at hs
        rw [← eo3] at hfk
        have r82_4 : h3 82 = s := (fr3 _ (by decide)).trans r82a
        have fr4 : mh_fr [81, 88] h h3 := (mh_fr.tr fra fr3).mono (by simp)
        have hfo := hfo.tr hfk
        obtain ⟨p3, ep3⟩ : ∃ z : sx_S, z = sx_pp v qa := ⟨_, rfl⟩
        have hpn := zpv
        rw [← ep3] at hs
        have hp : sx_pv s p3 := by rw [ep3]; exact hpn
        obtain ⟨hrr, hzz⟩ := sx_hr_z hb hp
        obtain ⟨hp1, hp2, hp3⟩ := sx_pv_x hp
        obtain ⟨hs1, hs2, hs3, hs4, hs5, hs6⟩ := id hs
        exact mh_return F Z dX12_numberRead_50 ⟨rfl, F3, (fr4.mono (by simp)), (by rw [eo3.symm, ef3.symm]; exact (by rw [hnu, ← ep3]; exact hs)), (by rw [eo3.symm]; exact hfo)⟩
      · refine mh_bipush (pc := 16) F dX12_numberRead_16 rfl ?_
        refine mh_iload1 (pc := 18) F dX12_numberRead_18 ?_
        refine mh_imul (pc := 19) F dX12_numberRead_19 ?_
        refine mh_aload0 (pc := 20) F dX12_numberRead_20 ?_
        refine mh_callVp (pc := 21) (As := []) (st := [.int (Int32.ofInt (10 * v))]) F (by omega) (k_here (by omega) Fa r82a r81a hb hs hp) wv_RX12_188_yX12_here dX12_numberRead_21 sh_81 rfl (by decide) rfl rfl (Nat.le_of_ble_eq_true rfl) ⟨Nat.zero_le _, Nat.zero_le _⟩ ?_
        refine mh_iadd (pc := 24) F dX12_numberRead_24 ?_
        refine mh_bipush (pc := 25) F dX12_numberRead_25 rfl ?_
        refine mh_isub (pc := 27) F dX12_numberRead_27 ?_
        refine mh_istore1 (pc := 28) F dX12_numberRead_28 rfl (by decide) ?_
        refine mh_aload0 (pc := 29) F dX12_numberRead_29 ?_
        refine mh_dup (pc := 30) F dX12_numberRead_30 rfl ?_
        refine mh_getir (pc := 31) F sh_81 (by decide) fw_RX12_180_12 dX12_numberRead_31 rfl r81a ?_
        refine mh_iconst (pc := 34) F dX12_numberRead_34 ?_
        refine mh_iadd (pc := 35) F dX12_numberRead_35 ?_
        refine mh_puti (pc := 36) F sh_81 (by decide) pw_RX12_180_12 dX12_numberRead_36 ?_
        refine mh_nmh (fun h5 e5 => ?_)
        have F5 : mh_FX h5 := by rw [e5]; exact Fa.upz rfl
        have r82_5 : h5 82 = s := by rw [e5, mh_up_row (by decide)]; exact r82a
        have r81_5 : h5 81 = mh_ur oa 10 ((oa 10) + 1) := by rw [e5, mh_up_rs, r81a]
        have r88_5 : h5 88 = fa := by rw [e5, mh_up_row (by decide)]; exact r88a
        have fr5 : mh_fr [81, 88] h h5 := mh_fr.upi fra e5 (by simp)
        have hq4 := hzz (by omega)
        have hpq := hp
        have hs := hs.pa rfl
        have hfo := hfo.up (i := 10) (v := (oa 10) + 1) (by decide)
        have hp : sx_pv s (sx_pa qa) := sx_pa_pv hq4.1 hp
        have hx6 : ¬ x = 6 := fun z => absurd (h6 z) (by omega)
        have h6 : sx_w6 x (sx_pa qa) := fun z => absurd z hx6
        refine mh_iinc2 (pc := 39) F dX12_numberRead_39 rfl (by decide) ?_
        refine mh_goto (pc := 42) (tgt := 4) F dX12_numberRead_42 rfl ?_
        exact ihL4 _ (by omega) (((10 * v) + (sx_hr s qa)) - 48) (n + 1) h5 (mh_ur oa 10 ((oa 10) + 1)) fa (sx_pa qa) F5 (fr5.mono (by simp)) r82_5 r81_5 r88_5 hs hp hfo (by omega) (hdg.trans (by rw [show (4 - n).toNat = (4 - (n + 1)).toNat + 1 by omega]; exact if_pos (by omega))) h6 ⟨hsl.1, by show p.1 + (n + 1) ≤ qa.1 + 1; omega, hsl.2.2⟩ rfl
  exact L4 _ 0 0 h o fr p hF (mh_fr.rf.mono (by simp)) r82 r81 r88 hs hp hfo (by omega) rfl h6 (by omega) rfl

