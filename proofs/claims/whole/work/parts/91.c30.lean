/-! relays: least by induction over the hills left; in town -/
theorem k_least (r : Nat) : ∀ {g : mh_G} {d : Nat} (_ : r + 4 ≤ d) {h : Nat → Int → Int} (_ : mh_FX h) {s wm : Int → Int} {k n f a t x : Int} (_ : 0 ≤ k ∧ k < 6) (_ : sp_inv s) (_ : 0 ≤ n ∧ n ≤ 60) (_ : sp_wmr wm) (_ : 0 ≤ f) (_ : f ≤ a ∧ a ≤ 9) (_ : 0 ≤ t ∧ t ≤ n) (_ : 0 ≤ x ∧ x < 60) (_ : sc_Rl h s wm k n f) (_ : sc_MI (h 11) s wm k n f) (_ : 9 - a = (r : Int)), mh_M g d yX6_least cX6_least 16 (some .int) 96 0 0 [.ref 10, .int (Int32.ofInt a), .int (Int32.ofInt t), .int (Int32.ofInt x)] h (sc_LP s wm k n f a t x h) := by
  induction r with
  | zero =>
    intro g d hd h hF s wm k n f a t x hk hi hn hwm hf ha ht hx hRl hMI har
    exact k_leastS (by omega) hF hk hi hn hwm hf ha ht hx hRl hMI (fun q => by exfalso; omega)
  | succ r ih =>
    intro g d hd h hF s wm k n f a t x hk hi hn hwm hf ha ht hx hRl hMI har
    exact k_leastS (by omega) hF hk hi hn hwm hf ha ht hx hRl hMI (fun q {t x h} a1 a2 a3 a4 a5 => ih (d := d - 1) (by omega) a1 hk hi hn hwm hf (by omega) a4 a5 a2 a3 (by omega))
def sc_Rm (h : Nat → Int → Int) (s : Int → Int) (k : Int) : Prop := h 10 8 = s (41 + 9 * k + 5) ∧ h 10 9 = s (41 + 9 * k + 6) ∧ h 10 10 = sp_turns (s (41 + 9 * k + 0)) (s (41 + 9 * k + 1))
def sc_tw (v : Int) : Int := if v = 1000000 then -1 else v
theorem sc_tw_rel {s wm : Int → Int} {k n V : Int} (hm : 0 ≤ s (41 + 9 * k + 1) ∧ s (41 + 9 * k + 1) ≤ 9) (hV : V = sp_tab s wm k n (9 - s (41 + 9 * k + 2)).toNat ((s (41 + 9 * k + 2) * 61 + 0) * 60 + s (41 + 9 * k + 6))) : sc_tw (sp_rel s wm k n) = if s (41 + 9 * k + 5) + V < sp_turns (s (41 + 9 * k + 0)) (s (41 + 9 * k + 1)) then s (41 + 9 * k + 5) + V else -1 := by
  have ht := sp_turns_rg (k := s (41 + 9 * k + 0)) hm
  unfold sc_tw sp_rel
  rw [← hV]
  by_cases z : s (41 + 9 * k + 5) + V < sp_turns (s (41 + 9 * k + 0)) (s (41 + 9 * k + 1))
  · rw [if_pos z, if_neg (by omega), if_pos z]
  · rw [if_neg z, if_pos rfl, if_neg z]
set_option maxRecDepth 100000 in
set_option maxHeartbeats 2000000 in
theorem k_town {g : mh_G} {d : Nat} (hd : 15 ≤ d) {h : Nat → Int → Int} (hF : mh_FX h) {s wm : Int → Int} {k n : Int} (hk : 0 ≤ k ∧ k < 6) (hi : sp_inv s) (hn : 0 ≤ n ∧ n ≤ 60) (hwm : sp_wmr wm) (hat8 : s (41 + 9 * k + 2) ≤ 8) (hs6 : s (41 + 9 * k + 6) < 60) (hRl : sc_Rl h s wm k n (s (41 + 9 * k + 2))) (hRm : sc_Rm h s k) (hMI : sc_MI (h 11) s wm k n (s (41 + 9 * k + 2))) : mh_M g d yX6_sourInTown cX6_sourInTown 2 (some .int) 96 0 0 [.ref 10] h (fun r h2 => r = some (.int (Int32.ofInt (sc_tw (sp_rel s wm k n)))) ∧ mh_FX h2 ∧ mh_fr [11] h h2 ∧ sc_MI (h2 11) s wm k n (s (41 + 9 * k + 2)) ∧ sc_fv (h2 11) (s (41 + 9 * k + 2) * 3660 + 0 * 60 + s (41 + 9 * k + 6)) ≠ 0 ∧ sc_mono (sc_fv (h 11)) (sc_fv (h2 11))) := by
  refine mh_M_of RX6 rfl (by decide +kernel) [some (.ref 10), none] rfl (Nat.le_of_ble_eq_true rfl) (fun f F Z hn0 hR => ?_)
  obtain ⟨R1, R2, R3, R4, R5⟩ := id hRl
  obtain ⟨Q8, Q9, Q10⟩ := id hRm
  have hcok := hi.2.2.2.2.1 k hk.1 hk.2
  obtain ⟨c0, c1, c2, c3, c4, c5, c6, c7⟩ := id hcok
  unfold sp_row at c0 c1 c2 c3 c4 c5 c6
  have htr := sp_turns_rg (k := s (41 + 9 * k + 0)) c1
  refine mh_aload0 (pc := 0) F dX6_sourInTown_0 ?_
  refine mh_geti (pc := 1) F sh_10 (by decide) fw_RX6_53_6 dX6_sourInTown_1 rfl ?_
  refine mh_top (y := s (41 + 9 * k + 5)) (mh_eqI Q8) ?_
  refine mh_aload0 (pc := 4) F dX6_sourInTown_4 ?_
  refine mh_aload0 (pc := 5) F dX6_sourInTown_5 ?_
  refine mh_geti (pc := 6) F sh_10 (by decide) fw_RX6_47_6 dX6_sourInTown_6 rfl ?_
  refine mh_top (y := s (41 + 9 * k + 2)) (mh_eqI R2) ?_
  refine mh_iconst (pc := 9) F dX6_sourInTown_9 ?_
  refine mh_aload0 (pc := 10) F dX6_sourInTown_10 ?_
  refine mh_geti (pc := 11) F sh_10 (by decide) fw_RX6_57_6 dX6_sourInTown_11 rfl ?_
  refine mh_top (y := s (41 + 9 * k + 6)) (mh_eqI Q9) ?_
  refine mh_callV0 (pc := 14) (As := [.int (Int32.ofInt (s (41 + 9 * k + 2))), .int (Int32.ofInt (0)), .int (Int32.ofInt (s (41 + 9 * k + 6)))]) (st := [.int (Int32.ofInt (s (41 + 9 * k + 5)))]) F (by omega) (k_least (9 - s (41 + 9 * k + 2)).toNat (by omega) hF hk hi hn hwm c2.1 (by omega) (by omega) (by omega) hRl hMI (by omega)) wv_RX6_98_yX6_least dX6_sourInTown_14 sh_10 rfl (by decide) rfl rfl (Nat.le_of_ble_eq_true rfl) ⟨Nat.zero_le _, Nat.zero_le _⟩ (fun r1 h1 q1 => ?_)
  obtain ⟨rfl, F1, frl1, zMI, zmo, znz, zlo⟩ := q1
  have fr2 : mh_fr [11] h h1 := (mh_fr.tr mh_fr.rf frl1).mono (by simp)
  obtain ⟨V, eV⟩ : ∃ z : Int, z = sp_tab s wm k n (9 - s (41 + 9 * k + 2)).toNat ((s (41 + 9 * k + 2) * 61 + 0) * 60 + s (41 + 9 * k + 6)) := ⟨_, rfl⟩
  have hVr := sp_tab_ok hk hi hn hwm (9 - s (41 + 9 * k + 2)).toNat (by omega) 0 (s (41 + 9 * k + 6)) (by omega) (by omega) (by omega) (by omega)
  rw [show 9 - (((9 - s (41 + 9 * k + 2)).toNat : Nat) : Int) = s (41 + 9 * k + 2) by omega, ← eV] at hVr
  rw [← eV]
  refine mh_iadd (pc := 17) F dX6_sourInTown_17 ?_
  refine mh_istore1 (pc := 18) F dX6_sourInTown_18 rfl (by decide) ?_
  refine mh_iload1 (pc := 19) F dX6_sourInTown_19 ?_
  refine mh_aload0 (pc := 20) F dX6_sourInTown_20 ?_
  refine mh_geti (pc := 21) F sh_10 (by decide) fw_RX6_71_6 dX6_sourInTown_21 rfl ?_
  refine mh_top (y := sp_turns (s (41 + 9 * k + 0)) (s (41 + 9 * k + 1))) (mh_eqI (by rw [fr2 10 (by simp)]; exact Q10)) ?_
  refine mh_icmp_ge (pc := 24) (tgt := 31) F dX6_sourInTown_24 rfl (by omega) (by omega) (fun c_24 => ?_) (fun c_24 => ?_)
  · refine mh_iconst (pc := 31) F dX6_sourInTown_31 ?_
    exact mh_ireturn F Z dX6_sourInTown_32 ⟨mh_sv (by rw [sc_tw_rel c1 eV]; first | (rw [if_pos (by omega)]; omega) | (rw [if_neg (by omega)]; done)), F1, fr2, zMI, znz (by omega), zmo⟩
  · refine mh_iload1 (pc := 27) F dX6_sourInTown_27 ?_
    refine mh_goto (pc := 28) (tgt := 32) F dX6_sourInTown_28 rfl ?_
    exact mh_ireturn F Z dX6_sourInTown_32 ⟨mh_sv (by rw [sc_tw_rel c1 eV]; first | (rw [if_pos (by omega)]; omega) | (rw [if_neg (by omega)]; done)), F1, fr2, zMI, znz (by omega), zmo⟩

