/-! the class's reader: what it stands at -/
def sc_RD (h : Nat → Int → Int) (t : Nat) (s : Int → Int) (p : sx_S) : Prop := h t 9 = p.1 ∧ (0 ≤ h t 5 ∧ h t 5 ≤ 50) ∧ h t 8 = s 4 ∧ h t 7 = 33 ∧ (p.2.1 = 0 → h t 5 = p.2.2.1 ∧ ∀ k, 0 ≤ k → k < p.2.2.1 → sc_de (h (t + 2) k) = p.2.2.2 k)
def sc_TP (h : Nat → Int → Int) (s : Int → Int) : Prop := (0 ≤ s 4 ∧ s 4 ≤ 50) ∧ ∀ i, 0 ≤ i → i < s 4 → mh_and (h 32 i) 255 = s (197 + i)
set_option maxRecDepth 100000 in
set_option maxHeartbeats 2000000 in
theorem k36_next_33 {g : mh_G} {d : Nat} (hd : 1 ≤ d) {h : Nat → Int → Int} (hF : mh_FX h) {s : Int → Int} {p : sx_S} (hD : sc_RD h 33 s p) (hT : sc_TP h s) (hp : sx_pv s p) (hw : p.2.1 = 0) : mh_MP g d yX9_next cX9_next 1 (some .int) 96 [.ref 33] h (some (.int (Int32.ofInt (sx_hr s p)))) := by
  refine mh_M_of RX9 rfl (by decide +kernel) [some (.ref 33)] rfl (Nat.le_of_ble_eq_true rfl) (fun f F Z hn0 hR => ?_)
  obtain ⟨D9, D5, D8, D7, -⟩ := id hD
  obtain ⟨hp1, hp2, -⟩ := id hp
  have hT4 := hT.1
  refine mh_aload0 (pc := 0) F dX9_next_0 ?_
  refine mh_geti (pc := 1) F sh_33 (by decide) fw_RX9_67_9 dX9_next_1 rfl ?_
  refine mh_aload0 (pc := 4) F dX9_next_4 ?_
  refine mh_geti (pc := 5) F sh_33 (by decide) fw_RX9_64_9 dX9_next_5 rfl ?_
  refine mh_icmp_ge (pc := 8) (tgt := 27) F dX9_next_8 rfl (by omega) (by omega) (fun c_8 => ?_) (fun c_8 => ?_)
  · refine mh_iconst (pc := 27) F dX9_next_27 ?_
    exact mh_ireturnp F Z dX9_next_28 (by unfold sx_hr; first | (rw [if_pos (by omega)]; done) | (rw [if_neg (by omega)]; done)) rfl
  · refine mh_aload0 (pc := 11) F dX9_next_11 ?_
    refine mh_getr (b := 32) (pc := 12) F sh_33 (by decide) fw_RX9_51_9 dX9_next_12 rfl (by rw [hD.2.2.2.1]; rfl) ?_
    refine mh_aload0 (pc := 15) F dX9_next_15 ?_
    refine mh_geti (pc := 16) F sh_33 (by decide) fw_RX9_67_9 dX9_next_16 rfl ?_
    refine mh_baload (pc := 19) F sh_32 (by decide) (by omega) dX9_next_19 ?_
    refine mh_sipush (pc := 20) F dX9_next_20 rfl ?_
    refine mh_iand (pc := 23) F dX9_next_23 ?_
    refine mh_top (y := s (197 + p.1)) (mh_eqI (by rw [D9]; exact hT.2 p.1 hp1.1 (by omega))) ?_
    refine mh_goto (pc := 24) (tgt := 28) F dX9_next_24 rfl ?_
    exact mh_ireturnp F Z dX9_next_28 (by unfold sx_hr; first | (rw [if_pos (by omega)]; done) | (rw [if_neg (by omega)]; done)) rfl

set_option maxRecDepth 100000 in
set_option maxHeartbeats 2000000 in
theorem k36_next_38 {g : mh_G} {d : Nat} (hd : 1 ≤ d) {h : Nat → Int → Int} (hF : mh_FX h) {s : Int → Int} {p : sx_S} (hD : sc_RD h 38 s p) (hT : sc_TP h s) (hp : sx_pv s p) (hw : p.2.1 = 0) : mh_MP g d yX9_next cX9_next 1 (some .int) 96 [.ref 38] h (some (.int (Int32.ofInt (sx_hr s p)))) := by
  refine mh_M_of RX9 rfl (by decide +kernel) [some (.ref 38)] rfl (Nat.le_of_ble_eq_true rfl) (fun f F Z hn0 hR => ?_)
  obtain ⟨D9, D5, D8, D7, -⟩ := id hD
  obtain ⟨hp1, hp2, -⟩ := id hp
  have hT4 := hT.1
  refine mh_aload0 (pc := 0) F dX9_next_0 ?_
  refine mh_geti (pc := 1) F sh_38 (by decide) fw_RX9_67_9 dX9_next_1 rfl ?_
  refine mh_aload0 (pc := 4) F dX9_next_4 ?_
  refine mh_geti (pc := 5) F sh_38 (by decide) fw_RX9_64_9 dX9_next_5 rfl ?_
  refine mh_icmp_ge (pc := 8) (tgt := 27) F dX9_next_8 rfl (by omega) (by omega) (fun c_8 => ?_) (fun c_8 => ?_)
  · refine mh_iconst (pc := 27) F dX9_next_27 ?_
    exact mh_ireturnp F Z dX9_next_28 (by unfold sx_hr; first | (rw [if_pos (by omega)]; done) | (rw [if_neg (by omega)]; done)) rfl
  · refine mh_aload0 (pc := 11) F dX9_next_11 ?_
    refine mh_getr (b := 32) (pc := 12) F sh_38 (by decide) fw_RX9_51_9 dX9_next_12 rfl (by rw [hD.2.2.2.1]; rfl) ?_
    refine mh_aload0 (pc := 15) F dX9_next_15 ?_
    refine mh_geti (pc := 16) F sh_38 (by decide) fw_RX9_67_9 dX9_next_16 rfl ?_
    refine mh_baload (pc := 19) F sh_32 (by decide) (by omega) dX9_next_19 ?_
    refine mh_sipush (pc := 20) F dX9_next_20 rfl ?_
    refine mh_iand (pc := 23) F dX9_next_23 ?_
    refine mh_top (y := s (197 + p.1)) (mh_eqI (by rw [D9]; exact hT.2 p.1 hp1.1 (by omega))) ?_
    refine mh_goto (pc := 24) (tgt := 28) F dX9_next_24 rfl ?_
    exact mh_ireturnp F Z dX9_next_28 (by unfold sx_hr; first | (rw [if_pos (by omega)]; done) | (rw [if_neg (by omega)]; done)) rfl

