/-! straight on -/
def sc_t0 (s : Int → Int) (k : Int) (o c : Int → Int) : Prop := c 1 = s (41 + 9 * k + 0) + 3 ∧ c 2 = s (41 + 9 * k + 1) ∧ c 9 = 0 ∧ c 7 = o 19 ∧ c 8 = o 20
theorem sc_step {s P O : Int → Int} {k b q : Int} (h : sc_t0 s k O P) (h3 : P 3 = O 17) (h6 : P 6 = b) (hb : 0 ≤ b ∧ b ≤ 3) (hq : O 18 = q) : sc_q7 s P q = sp_str s O k b 19 ∧ sc_q8 s P = sp_str s O k b 20 := by
  obtain ⟨a1, a2, a9, a7, a8⟩ := h
  have e19 : sp_str s O k b 19 = sp_held (O 19 + sp_warms (s (41 + 9 * k + 0)) (s (41 + 9 * k + 1)) (sp_warm s (O 17) (O 18))) 0 9999 := by unfold sp_str; rw [mh_ur_ne (by decide), mh_ur_ne (by decide), mh_ur_eq rfl]
  have e20 : sp_str s O k b 20 = sp_held (O 20 + sp_jolts (s (41 + 9 * k + 0)) (s (41 + 9 * k + 1)) (s (33 + 2 * b + 1))) 0 9999 := by unfold sp_str; rw [mh_ur_ne (by decide), mh_ur_eq rfl]
  rw [e19, e20]
  unfold sc_q7 sc_q8 sc_sh
  rw [if_pos (by omega), a7, a8, a2, h3, h6, hq, show P 1 - 3 = s (41 + 9 * k + 0) by omega]
  exact ⟨rfl, rfl⟩
theorem sc_rd_mid {s c o : Int → Int} {k b q : Int} (hb : 0 ≤ b ∧ b ≤ 3) (ho : sp_ook o) (h3 : c 3 = o 17) (hq : o 18 = q) (ht : sc_t0 s k o c) (n : Nat) (hn : (n : Int) < s (33 + 2 * b)) :
    sc_t0 s k (sp_strs s o k b n) (sc_ps s (sc_off c b (s (33 + 2 * b))) q n) ∧ sc_ps s (sc_off c b (s (33 + 2 * b))) q n 3 = o 17 ∧ sc_ps s (sc_off c b (s (33 + 2 * b))) q n 4 = 2 ∧ sc_ps s (sc_off c b (s (33 + 2 * b))) q n 5 = s (33 + 2 * b) - n ∧ sc_ps s (sc_off c b (s (33 + 2 * b))) q n 6 = b := by
  induction n with
  | zero =>
    obtain ⟨a1, a2, a9, a7, a8⟩ := ht
    show sc_t0 s k o (sc_off c b (s (33 + 2 * b))) ∧ sc_off c b (s (33 + 2 * b)) 3 = _ ∧ sc_off c b (s (33 + 2 * b)) 4 = 2 ∧ sc_off c b (s (33 + 2 * b)) 5 = _ ∧ sc_off c b (s (33 + 2 * b)) 6 = b
    unfold sc_t0 sc_off
    refine ⟨⟨?_, ?_, ?_, ?_, ?_⟩, ?_, ?_, ?_, ?_⟩ <;> (repeat (first | rw [mh_ur_ne (by decide)] | rw [mh_ur_eq rfl])) <;> first | assumption | simp
  | succ n ih =>
    obtain ⟨i0, i3, i4, i5, i6⟩ := ih (by omega)
    obtain ⟨z1, z17, z18⟩ := sp_strs_ok (s := s) (k := k) (c := b) ho n
    obtain ⟨e7, e8⟩ := sc_step (b := b) (q := q + n) i0 (i3.trans z17.symm) i6 hb (by omega)
    show sc_t0 s k (sp_str s (sp_strs s o k b n) k b) (sc_pass s (sc_ps s (sc_off c b (s (33 + 2 * b))) q n) (q + n)) ∧ sc_pass s (sc_ps s (sc_off c b (s (33 + 2 * b))) q n) (q + n) 3 = _ ∧ sc_pass s (sc_ps s (sc_off c b (s (33 + 2 * b))) q n) (q + n) 4 = 2 ∧ sc_pass s (sc_ps s (sc_off c b (s (33 + 2 * b))) q n) (q + n) 5 = _ ∧ sc_pass s (sc_ps s (sc_off c b (s (33 + 2 * b))) q n) (q + n) 6 = b
    obtain ⟨a1, a2, a9, a7, a8⟩ := i0
    have ep : sc_pass s (sc_ps s (sc_off c b (s (33 + 2 * b))) q n) (q + n) = mh_ur (mh_ur (mh_ur (sc_ps s (sc_off c b (s (33 + 2 * b))) q n) 7 (sc_q7 s (sc_ps s (sc_off c b (s (33 + 2 * b))) q n) (q + n))) 8 (sc_q8 s (sc_ps s (sc_off c b (s (33 + 2 * b))) q n))) 5 (sc_ps s (sc_off c b (s (33 + 2 * b))) q n 5 - 1) := by
      conv => lhs; unfold sc_pass
      rw [if_neg (by omega), if_neg (by omega), if_pos (by omega)]
    rw [ep, e7, e8]
    unfold sc_t0
    refine ⟨⟨?_, ?_, ?_, ?_, ?_⟩, ?_, ?_, ?_, ?_⟩ <;> (repeat (first | rw [mh_ur_ne (by decide)] | rw [mh_ur_eq rfl])) <;> first | assumption | omega
/-- behind the last quarter it is at the next hill -/
theorem sc_rd_end {s c o : Int → Int} {k b q : Int} (hb : 0 ≤ b ∧ b ≤ 3) (ho : sp_ook o) (h3 : c 3 = o 17) (hq : o 18 = q) (ht : sc_t0 s k o c) (hp : 1 ≤ s (33 + 2 * b)) :
    sc_t0 s k (sp_on s o k b) (sc_ps s (sc_off c b (s (33 + 2 * b))) q (s (33 + 2 * b)).toNat) ∧ sc_ps s (sc_off c b (s (33 + 2 * b))) q (s (33 + 2 * b)).toNat 3 = o 17 + 1 := by
  obtain ⟨n, hn⟩ : ∃ n : Nat, (s (33 + 2 * b)).toNat = n + 1 := ⟨(s (33 + 2 * b)).toNat - 1, by omega⟩
  obtain ⟨i0, i3, i4, i5, i6⟩ := sc_rd_mid hb ho h3 hq ht n (by omega)
  obtain ⟨z1, z17, z18⟩ := sp_strs_ok (s := s) (k := k) (c := b) ho n
  obtain ⟨e7, e8⟩ := sc_step (b := b) (q := q + n) i0 (i3.trans z17.symm) i6 hb (by omega)
  have eo : ∀ j, j ≠ 17 → sp_on s o k b j = sp_str s (sp_strs s o k b n) k b j := fun j hj => by
    unfold sp_on
    rw [mh_ur_ne hj, hn]; rfl
  rw [hn]
  show sc_t0 s k (sp_on s o k b) (sc_pass s (sc_ps s (sc_off c b (s (33 + 2 * b))) q n) (q + n)) ∧ sc_pass s (sc_ps s (sc_off c b (s (33 + 2 * b))) q n) (q + n) 3 = _
  obtain ⟨a1, a2, a9, a7, a8⟩ := i0
  have ep : sc_pass s (sc_ps s (sc_off c b (s (33 + 2 * b))) q n) (q + n) = sc_arr (sc_ps s (sc_off c b (s (33 + 2 * b))) q n) (sc_q7 s (sc_ps s (sc_off c b (s (33 + 2 * b))) q n) (q + n)) (sc_q8 s (sc_ps s (sc_off c b (s (33 + 2 * b))) q n)) := by
    conv => lhs; unfold sc_pass
    rw [if_neg (by omega), if_neg (by omega), if_neg (by omega)]
  rw [ep, e7, e8]
  refine ⟨⟨a1, a2, a9, (eo 19 (by decide)).symm, (eo 20 (by decide)).symm⟩, ?_⟩
  show sc_ps s (sc_off c b (s (33 + 2 * b))) q n 3 + 1 = _
  rw [i3]
theorem sc_rd0 {s c o : Int → Int} {k b q : Int} (hb : 0 ≤ b ∧ b ≤ 3) (ho : sp_ook o) (h3 : c 3 = o 17) (hq : o 18 = q) (ht : sc_t0 s k o c) (n : Nat) (hn : (n : Int) ≤ s (33 + 2 * b)) (h1 : 1 ≤ n) :
    sc_t0 s k (sp_strs s o k b n) (sc_ps s (sc_off c b (s (33 + 2 * b))) q n) := by
  rcases (show (n : Int) < s (33 + 2 * b) ∨ (n : Int) = s (33 + 2 * b) by omega) with z | z
  · exact (sc_rd_mid hb ho h3 hq ht n z).1
  · have g := (sc_rd_end hb ho h3 hq ht (by omega)).1
    rw [← z, Int.toNat_natCast] at g
    have eo : ∀ j, j ≠ 17 → sp_on s o k b j = sp_strs s o k b n j := fun j hj => by
      unfold sp_on
      rw [mh_ur_ne hj, ← z, Int.toNat_natCast]
    obtain ⟨a1, a2, a9, a7, a8⟩ := g
    rw [← z]
    exact ⟨a1, a2, a9, a7.trans (eo 19 (by decide)), a8.trans (eo 20 (by decide))⟩
theorem sc_off_ok {c : Int → Int} {b p : Int} (h : sc_ok c) (h3 : c 3 ≤ 8) (hb : 0 ≤ b ∧ b ≤ 3) (hp : 0 ≤ p ∧ p ≤ 9) : sc_ok (sc_off c b p) ∧ sc_i8 (sc_off c b p) := by
  obtain ⟨c1, c2, c3, c4, c5, c6, c7, c8, c9⟩ := h
  have e : ∀ i, i ≠ 4 → i ≠ 5 → i ≠ 6 → sc_off c b p i = c i := fun i a b d => by unfold sc_off; rw [mh_ur_ne b, mh_ur_ne d, mh_ur_ne a]
  have e4 : sc_off c b p 4 = 2 := by unfold sc_off; rw [mh_ur_ne (by decide), mh_ur_ne (by decide), mh_ur_eq rfl]
  have e5 : sc_off c b p 5 = p := mh_ur_eq rfl
  have e6 : sc_off c b p 6 = b := by unfold sc_off; rw [mh_ur_ne (by decide), mh_ur_eq rfl]
  unfold sc_ok sc_i8
  rw [e 1 (by decide) (by decide) (by decide), e 2 (by decide) (by decide) (by decide), e 3 (by decide) (by decide) (by decide), e4, e5, e6, e 7 (by decide) (by decide) (by decide), e 8 (by decide) (by decide) (by decide), e 9 (by decide) (by decide) (by decide)]
  omega
theorem sc_ps_ok {s c : Int → Int} {q : Int} (h : sc_ok c) (h8 : sc_i8 c) (n : Nat) : sc_ok (sc_ps s c q n) ∧ sc_i8 (sc_ps s c q n) := by
  induction n with
  | zero => exact ⟨h, h8⟩
  | succ n ih => exact sc_pass_ok ih.1 ih.2
theorem sc_t0.st {s c o : Int → Int} {k : Int} (h : sc_t0 s k o c) : sc_st c = sp_st (s (41 + 9 * k + 0)) (s (41 + 9 * k + 1)) (o 19) (o 20) := by
  obtain ⟨a1, a2, a9, a7, a8⟩ := h
  unfold sc_st
  rw [if_neg (by omega), a2, a7, a8, show c 1 - 3 = s (41 + 9 * k + 0) by omega]
set_option maxRecDepth 100000 in
set_option maxHeartbeats 2000000 in
theorem k12_ride {g : mh_G} {d : Nat} (hd : 14 ≤ d) {h : Nat → Int → Int} (hF : mh_FX h) {c : Int → Int} (r75 : h 75 = c) {s : Int → Int} {b q : Int} (hc : sc_ok c) (h38 : c 3 ≤ 8) (hL : sc_L h 25 s) (hh : sp_hok s) (hb : 0 ≤ b ∧ b ≤ 3) (hq : 0 ≤ q ∧ q ≤ 50000) : mh_M g d yX10_ride cX10_ride 6 (some .int) 96 0 0 [.ref 25, .ref 75, .int (Int32.ofInt (b)), .int (Int32.ofInt (q))] h (fun r h2 => r = some (.int (Int32.ofInt (s (33 + 2 * b)))) ∧ mh_FX h2 ∧ mh_fr [36, 75] h h2 ∧ h2 75 = sc_ps s (sc_off c b (s (33 + 2 * b))) q (s (33 + 2 * b)).toNat) := by
  refine mh_M_of RX10 rfl (by decide +kernel) [some (.ref 25), some (.ref 75), some (.int (Int32.ofInt (b))), some (.int (Int32.ofInt (q))), none, none] rfl (Nat.le_of_ble_eq_true rfl) (fun f F Z hn0 hR => ?_)
  have zA75 : sc_A 75 := Or.inr (Or.inr (by decide))
  have hpc := (hh.2 b (by omega) (by omega)).1
  have hLc : h 29 b = s (33 + 2 * b) := (hL.2.1 b (by omega) (by omega)).1
  refine mh_aload0 (pc := 0) F dX10_ride_0 ?_
  refine mh_aload1 (pc := 1) F dX10_ride_1 ?_
  refine mh_iload2 (pc := 2) F dX10_ride_2 ?_
  refine mh_callV0 (pc := 3) (As := [.ref 75, .int (Int32.ofInt (b))]) (st := []) F (by omega) (k9_setOff (by omega) hF r75 rfl zA75 (by omega)) wv_RX10_184_yX10_setOff dX10_ride_3 sh_25 rfl (by decide) rfl rfl (Nat.le_of_ble_eq_true rfl) ⟨Nat.zero_le _, Nat.zero_le _⟩ (fun r1 h1 q1 => ?_)
  obtain ⟨rfl, F1, fr1, qA1⟩ := q1
  rw [show h 29 b = s (33 + 2 * b) from hLc] at qA1
  have fr2 : mh_fr [75] h h1 := (mh_fr.tr mh_fr.rf fr1).mono (by simp)
  obtain ⟨c0, ec0⟩ : ∃ z : Int → Int, z = sc_off c b (s (33 + 2 * b)) := ⟨_, rfl⟩
  rw [← ec0] at qA1
  obtain ⟨hok0, h80⟩ := sc_off_ok (b := b) (p := s (33 + 2 * b)) hc h38 (by omega) (by omega)
  rw [← ec0] at hok0 h80
  refine mh_aload1 (pc := 6) F dX10_ride_6 ?_
  refine mh_getir (pc := 7) F sh_75 (by decide) fw_RX10_181_0 dX10_ride_7 rfl qA1 ?_
  refine mh_top (y := s (33 + 2 * b)) (mh_eqI (by rw [ec0]; unfold sc_off; exact mh_ur_eq rfl)) ?_
  refine mh_istore4 (pc := 10) F dX10_ride_10 rfl (by decide) ?_
  refine mh_iconst (pc := 12) F dX10_ride_12 ?_
  refine mh_istore5 (pc := 13) F dX10_ride_13 rfl (by decide) ?_
  have L15 : ∀ (m : Nat) (x : Int) (hg : Nat → Int → Int) (t : Int → Int), (mh_FX hg) → (mh_fr [36, 75] h hg) → (hg 75 = t) → (0 ≤ x ∧ x ≤ s (33 + 2 * b)) → (t = sc_ps s c0 q x.toNat) → (s (33 + 2 * b) - x).toNat = m → mh_V g f 6 96 0 0 15 [some (.ref 25), some (.ref 75), some (.int (Int32.ofInt (b))), some (.int (Int32.ofInt (q))), some (.int (Int32.ofInt (s (33 + 2 * b)))), some (.int (Int32.ofInt (x)))] [] hg := by
    intro m
    induction m using Nat.strongRecOn with
    | _ m ihL15 =>
    intro x hg t Fhg frhg q75hg hx ht hmz
    refine mh_iload5 (pc := 15) F dX10_ride_15 ?_
    obtain ⟨hokT, h8T⟩ := sc_ps_ok (s := s) (q := q) hok0 h80 x.toNat
    rw [← ht] at hokT h8T
    refine mh_iload4 (pc := 17) F dX10_ride_17 ?_
    refine mh_icmp_ge (pc := 19) (tgt := 38) F dX10_ride_19 rfl (by omega) (by omega) (fun c_19 => ?_) (fun c_19 => ?_)
    · refine mh_iload4 (pc := 38) F dX10_ride_38 ?_
      exact mh_ireturn F Z dX10_ride_40 ⟨mh_sv rfl, Fhg, (frhg.mono (by simp)), (q75hg.trans (by rw [ht, ← ec0, show s (33 + 2 * b) = x by omega]))⟩
    · refine mh_aload0 (pc := 22) F dX10_ride_22 ?_
      refine mh_aload1 (pc := 23) F dX10_ride_23 ?_
      refine mh_iload3 (pc := 24) F dX10_ride_24 ?_
      refine mh_iload5 (pc := 25) F dX10_ride_25 ?_
      refine mh_iadd (pc := 27) F dX10_ride_27 ?_
      refine mh_callV0 (pc := 28) (As := [.ref 75, .int (Int32.ofInt (q + x))]) (st := []) F (by omega) (k5_pass (by omega) Fhg q75hg rfl zA75 hokT (hL.of (fun x hx => frhg x (by simp; omega))) hh (by omega) h8T) wv_RX10_145_yX10_pass dX10_ride_28 sh_25 rfl (by decide) rfl rfl (Nat.le_of_ble_eq_true rfl) ⟨Nat.zero_le _, Nat.zero_le _⟩ (fun r3 h3 q3 => ?_)
      obtain ⟨rfl, F3, frp3, qA3⟩ := q3
      have fr4 : mh_fr [36, 75] h h3 := (mh_fr.tr frhg frp3).mono (by simp)
      refine mh_pop (pc := 31) F dX10_ride_31 rfl ?_
      refine mh_iinc5 (pc := 32) F dX10_ride_32 rfl (by decide) ?_
      refine mh_goto (pc := 35) (tgt := 15) F dX10_ride_35 rfl ?_
      exact ihL15 _ (by omega) (x + 1) h3 (sc_pass s t (q + x)) F3 (fr4.mono (by simp)) qA3 (by omega) (by rw [sc_ps_at s c0 q hx.1, ← ht]) rfl
  exact L15 _ 0 h1 c0 F1 (fr2.mono (by simp)) qA1 (by omega) rfl rfl

