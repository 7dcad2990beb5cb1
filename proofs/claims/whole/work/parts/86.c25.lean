/-! a voice -/
theorem kv_fills {g : mh_G} {f : mh_F} {cc : ByteArray} {nL d m cl sl pc : Nat} {loc : List (Option Value)} {st : List Value} {h : Nat → Int → Int} (F : mh_Fr g f RX11 cc nL d) (hd1 : 10 ≤ d) (hF : mh_FX h) {κ n x : Int} {c : Int → Int} {p : (Int → Int) × (Int → Int)} (rc : h (44 + n.toNat) = c) (hn : 0 ≤ n ∧ n < 6) (hκ : 0 ≤ κ ∧ κ ≤ 6) (e1 : c 1 = κ + 3) (hT : sc_Tp (h 16) p) (he : 0 ≤ p.1 22 ∧ p.1 22 ≤ 40) (hd : decode cc pc = .ok (.invokevirtual 262, 3)) (hm : m = 96) (h8 : (st.map fun v => v.category).sum ≤ 8) (hc : cl ≤ (mh_R f).cells ∧ sl ≤ (mh_R f).slots) (kk : ∀ h2 : Nat → Int → Int, mh_FX h2 → mh_fr [16] h h2 → sc_Tp (h2 16) (sp_rns (tr_fi κ) p) → mh_V g f nL m cl sl (pc + 3) loc (.int (Int32.ofInt (sp_fi κ (c 0) x)) :: st) h2) : mh_V g f nL m cl sl pc loc (.int (Int32.ofInt x) :: .ref 16 :: .ref (44 + n.toNat) :: .ref (2 + κ.toNat) :: st) h := by
  subst hm
  rcases (show κ = 0 ∨ κ = 1 ∨ κ = 2 ∨ κ = 3 ∨ κ = 4 ∨ κ = 5 ∨ κ = 6 by omega) with z | z | z | z | z | z | z
  · subst z
    have eV : sp_fi 0 (c 0) x = (x + c 0) := by first | rfl | simp [sp_fi, sp_co, sp_gs, sp_sh, sp_pt, sp_te]
    have eT : tr_fi 0 = [10] := by decide
    rw [eV, eT] at kk
    exact mh_callV0 (As := [.ref (44 + n.toNat), .ref 16, .int (Int32.ofInt x)]) (st := st) F (by omega) (k24_fills_X3_0 (by omega) hF rc hn (by omega) hT he) wv_RX11_262_yX3_fills hd sh_2 rfl (by decide) rfl rfl h8 hc (fun r h2 q => by obtain ⟨rfl, a1, a2, a3⟩ := q; exact kk h2 a1 a2 a3)
  · subst z
    have eV : sp_fi 1 (c 0) x = (x + c 0) := by first | rfl | simp [sp_fi, sp_co, sp_gs, sp_sh, sp_pt, sp_te]
    have eT : tr_fi 1 = [10] := by decide
    rw [eV, eT] at kk
    exact mh_callU0 (As := [.ref (44 + n.toNat), .ref 16, .int (Int32.ofInt x)]) (st := st) F (by omega) (k24_fills_X3_1 (by omega) hF rc hn (by omega) hT he) wu_RX11_262_RX2 hd sh_3 (by decide) rfl rfl h8 hc (fun r h2 q => by obtain ⟨rfl, a1, a2, a3⟩ := q; exact kk h2 a1 a2 a3)
  · subst z
    have eV : sp_fi 2 (c 0) x = (3 * (x + c 0)) := by first | rfl | simp [sp_fi, sp_co, sp_gs, sp_sh, sp_pt, sp_te]
    have eT : tr_fi 2 = [30, 10] := by decide
    rw [eV, eT] at kk
    exact mh_callU0 (As := [.ref (44 + n.toNat), .ref 16, .int (Int32.ofInt x)]) (st := st) F (by omega) (k24_fills_X4_2 (by omega) hF rc hn (by omega) hT he) wu_RX11_262_RX4 hd sh_4 (by decide) rfl rfl h8 hc (fun r h2 q => by obtain ⟨rfl, a1, a2, a3⟩ := q; exact kk h2 a1 a2 a3)
  · subst z
    have eV : sp_fi 3 (c 0) x = (x + c 0) := by first | rfl | simp [sp_fi, sp_co, sp_gs, sp_sh, sp_pt, sp_te]
    have eT : tr_fi 3 = [10] := by decide
    rw [eV, eT] at kk
    exact mh_callU0 (As := [.ref (44 + n.toNat), .ref 16, .int (Int32.ofInt x)]) (st := st) F (by omega) (k24_fills_X3_3 (by omega) hF rc hn (by omega) hT he) wu_RX11_262_RX1 hd sh_5 (by decide) rfl rfl h8 hc (fun r h2 q => by obtain ⟨rfl, a1, a2, a3⟩ := q; exact kk h2 a1 a2 a3)
  · subst z
    have eV : sp_fi 4 (c 0) x = (x + c 0) := by first | rfl | simp [sp_fi, sp_co, sp_gs, sp_sh, sp_pt, sp_te]
    have eT : tr_fi 4 = [10] := by decide
    rw [eV, eT] at kk
    exact mh_callU0 (As := [.ref (44 + n.toNat), .ref 16, .int (Int32.ofInt x)]) (st := st) F (by omega) (k24_fills_X3_4 (by omega) hF rc hn (by omega) hT he) wu_RX11_262_RX7 hd sh_6 (by decide) rfl rfl h8 hc (fun r h2 q => by obtain ⟨rfl, a1, a2, a3⟩ := q; exact kk h2 a1 a2 a3)
  · subst z
    have eV : sp_fi 5 (c 0) x = (3 * (x + c 0)) := by first | rfl | simp [sp_fi, sp_co, sp_gs, sp_sh, sp_pt, sp_te]
    have eT : tr_fi 5 = [30, 10] := by decide
    rw [eV, eT] at kk
    exact mh_callU0 (As := [.ref (44 + n.toNat), .ref 16, .int (Int32.ofInt x)]) (st := st) F (by omega) (k24_fills_X4_5 (by omega) hF rc hn (by omega) hT he) wu_RX11_262_RX8 hd sh_7 (by decide) rfl rfl h8 hc (fun r h2 q => by obtain ⟨rfl, a1, a2, a3⟩ := q; exact kk h2 a1 a2 a3)
  · subst z
    have eV : sp_fi 6 (c 0) x = (x + c 0) := by first | rfl | simp [sp_fi, sp_co, sp_gs, sp_sh, sp_pt, sp_te]
    have eT : tr_fi 6 = [10] := by decide
    rw [eV, eT] at kk
    exact mh_callU0 (As := [.ref (44 + n.toNat), .ref 16, .int (Int32.ofInt x)]) (st := st) F (by omega) (k24_fills_X3_6 (by omega) hF rc hn (by omega) hT he) wu_RX11_262_RX5 hd sh_8 (by decide) rfl rfl h8 hc (fun r h2 q => by obtain ⟨rfl, a1, a2, a3⟩ := q; exact kk h2 a1 a2 a3)

theorem kv_shakes {g : mh_G} {f : mh_F} {cc : ByteArray} {nL d m cl sl pc : Nat} {loc : List (Option Value)} {st : List Value} {h : Nat → Int → Int} (F : mh_Fr g f RX11 cc nL d) (hd1 : 10 ≤ d) (hF : mh_FX h) {κ n x : Int} {c : Int → Int} {p : (Int → Int) × (Int → Int)} (rc : h (44 + n.toNat) = c) (hn : 0 ≤ n ∧ n < 6) (hκ : 0 ≤ κ ∧ κ ≤ 6) (e1 : c 1 = κ + 3) (hT : sc_Tp (h 16) p) (he : 0 ≤ p.1 22 ∧ p.1 22 ≤ 40) (hd : decode cc pc = .ok (.invokevirtual 266, 3)) (hm : m = 96) (h8 : (st.map fun v => v.category).sum ≤ 8) (hc : cl ≤ (mh_R f).cells ∧ sl ≤ (mh_R f).slots) (kk : ∀ h2 : Nat → Int → Int, mh_FX h2 → mh_fr [16] h h2 → sc_Tp (h2 16) (sp_rns (tr_sh κ) p) → mh_V g f nL m cl sl (pc + 3) loc (.int (Int32.ofInt (sp_sh κ (c 0) (c 2) x)) :: st) h2) : mh_V g f nL m cl sl pc loc (.int (Int32.ofInt x) :: .ref 16 :: .ref (44 + n.toNat) :: .ref (2 + κ.toNat) :: st) h := by
  subst hm
  rcases (show κ = 0 ∨ κ = 1 ∨ κ = 2 ∨ κ = 3 ∨ κ = 4 ∨ κ = 5 ∨ κ = 6 by omega) with z | z | z | z | z | z | z
  · subst z
    have eV : sp_sh 0 (c 0) (c 2) x = (2 * (x + c 0)) := by first | rfl | simp [sp_fi, sp_co, sp_gs, sp_sh, sp_pt, sp_te]
    have eT : tr_sh 0 = [11, 10] := by decide
    rw [eV, eT] at kk
    exact mh_callV0 (As := [.ref (44 + n.toNat), .ref 16, .int (Int32.ofInt x)]) (st := st) F (by omega) (k24_shakes_X3_0 (by omega) hF rc hn (by omega) hT he) wv_RX11_266_yX3_shakes hd sh_2 rfl (by decide) rfl rfl h8 hc (fun r h2 q => by obtain ⟨rfl, a1, a2, a3⟩ := q; exact kk h2 a1 a2 a3)
  · subst z
    have eV : sp_sh 1 (c 0) (c 2) x = (2 * (x + c 0) - (1 - c 2)) := by first | rfl | simp [sp_fi, sp_co, sp_gs, sp_sh, sp_pt, sp_te]
    have eT : tr_sh 1 = [20, 11, 10, 12] := by decide
    rw [eV, eT] at kk
    exact mh_callU0 (As := [.ref (44 + n.toNat), .ref 16, .int (Int32.ofInt x)]) (st := st) F (by omega) (k24_shakes_X2_1 (by omega) hF rc hn (by omega) hT he) wu_RX11_266_RX2 hd sh_3 (by decide) rfl rfl h8 hc (fun r h2 q => by obtain ⟨rfl, a1, a2, a3⟩ := q; exact kk h2 a1 a2 a3)
  · subst z
    have eV : sp_sh 2 (c 0) (c 2) x = (2 * (3 * (x + c 0))) := by first | rfl | simp [sp_fi, sp_co, sp_gs, sp_sh, sp_pt, sp_te]
    have eT : tr_sh 2 = [11, 30, 10] := by decide
    rw [eV, eT] at kk
    exact mh_callU0 (As := [.ref (44 + n.toNat), .ref 16, .int (Int32.ofInt x)]) (st := st) F (by omega) (k24_shakes_X3_2 (by omega) hF rc hn (by omega) hT he) wu_RX11_266_RX4 hd sh_4 (by decide) rfl rfl h8 hc (fun r h2 q => by obtain ⟨rfl, a1, a2, a3⟩ := q; exact kk h2 a1 a2 a3)
  · subst z
    have eV : sp_sh 3 (c 0) (c 2) x = (2 * (x + c 0)) := by first | rfl | simp [sp_fi, sp_co, sp_gs, sp_sh, sp_pt, sp_te]
    have eT : tr_sh 3 = [11, 10] := by decide
    rw [eV, eT] at kk
    exact mh_callU0 (As := [.ref (44 + n.toNat), .ref 16, .int (Int32.ofInt x)]) (st := st) F (by omega) (k24_shakes_X3_3 (by omega) hF rc hn (by omega) hT he) wu_RX11_266_RX1 hd sh_5 (by decide) rfl rfl h8 hc (fun r h2 q => by obtain ⟨rfl, a1, a2, a3⟩ := q; exact kk h2 a1 a2 a3)
  · subst z
    have eV : sp_sh 4 (c 0) (c 2) x = (2 * ((x + 1) + c 0) - (1 - c 2)) := by first | rfl | simp [sp_fi, sp_co, sp_gs, sp_sh, sp_pt, sp_te]
    have eT : tr_sh 4 = [50, 20, 11, 10, 12] := by decide
    rw [eV, eT] at kk
    exact mh_callU0 (As := [.ref (44 + n.toNat), .ref 16, .int (Int32.ofInt x)]) (st := st) F (by omega) (k24_shakes_X7_4 (by omega) hF rc hn (by omega) hT he) wu_RX11_266_RX7 hd sh_6 (by decide) rfl rfl h8 hc (fun r h2 q => by obtain ⟨rfl, a1, a2, a3⟩ := q; exact kk h2 a1 a2 a3)
  · subst z
    have eV : sp_sh 5 (c 0) (c 2) x = (2 * (3 * (x + c 0))) := by first | rfl | simp [sp_fi, sp_co, sp_gs, sp_sh, sp_pt, sp_te]
    have eT : tr_sh 5 = [11, 30, 10] := by decide
    rw [eV, eT] at kk
    exact mh_callU0 (As := [.ref (44 + n.toNat), .ref 16, .int (Int32.ofInt x)]) (st := st) F (by omega) (k24_shakes_X3_5 (by omega) hF rc hn (by omega) hT he) wu_RX11_266_RX8 hd sh_7 (by decide) rfl rfl h8 hc (fun r h2 q => by obtain ⟨rfl, a1, a2, a3⟩ := q; exact kk h2 a1 a2 a3)
  · subst z
    have eV : sp_sh 6 (c 0) (c 2) x = (2 * (x + c 0)) := by first | rfl | simp [sp_fi, sp_co, sp_gs, sp_sh, sp_pt, sp_te]
    have eT : tr_sh 6 = [11, 10] := by decide
    rw [eV, eT] at kk
    exact mh_callU0 (As := [.ref (44 + n.toNat), .ref 16, .int (Int32.ofInt x)]) (st := st) F (by omega) (k24_shakes_X3_6 (by omega) hF rc hn (by omega) hT he) wu_RX11_266_RX5 hd sh_8 (by decide) rfl rfl h8 hc (fun r h2 q => by obtain ⟨rfl, a1, a2, a3⟩ := q; exact kk h2 a1 a2 a3)

theorem kv_cools {g : mh_G} {f : mh_F} {cc : ByteArray} {nL d m cl sl pc : Nat} {loc : List (Option Value)} {st : List Value} {h : Nat → Int → Int} (F : mh_Fr g f RX11 cc nL d) (hd1 : 10 ≤ d) (hF : mh_FX h) {κ n x : Int} {c : Int → Int} {p : (Int → Int) × (Int → Int)} (rc : h (44 + n.toNat) = c) (hn : 0 ≤ n ∧ n < 6) (hκ : 0 ≤ κ ∧ κ ≤ 6) (e1 : c 1 = κ + 3) (hT : sc_Tp (h 16) p) (he : 0 ≤ p.1 22 ∧ p.1 22 ≤ 40) (hd : decode cc pc = .ok (.invokevirtual 268, 3)) (hm : m = 96) (h8 : (st.map fun v => v.category).sum ≤ 8) (hc : cl ≤ (mh_R f).cells ∧ sl ≤ (mh_R f).slots) (kk : ∀ h2 : Nat → Int → Int, mh_FX h2 → mh_fr [16] h h2 → sc_Tp (h2 16) (sp_rns (tr_co κ) p) → mh_V g f nL m cl sl (pc + 3) loc (.int (Int32.ofInt (sp_co κ (c 0) (c 2) x)) :: st) h2) : mh_V g f nL m cl sl pc loc (.int (Int32.ofInt x) :: .ref 16 :: .ref (44 + n.toNat) :: .ref (2 + κ.toNat) :: st) h := by
  subst hm
  rcases (show κ = 0 ∨ κ = 1 ∨ κ = 2 ∨ κ = 3 ∨ κ = 4 ∨ κ = 5 ∨ κ = 6 by omega) with z | z | z | z | z | z | z
  · subst z
    have eV : sp_co 0 (c 0) (c 2) x = (x - c 2) := by first | rfl | simp [sp_fi, sp_co, sp_gs, sp_sh, sp_pt, sp_te]
    have eT : tr_co 0 = [12] := by decide
    rw [eV, eT] at kk
    exact mh_callV0 (As := [.ref (44 + n.toNat), .ref 16, .int (Int32.ofInt x)]) (st := st) F (by omega) (k24_cools_X3_0 (by omega) hF rc hn (by omega) hT he) wv_RX11_268_yX3_cools hd sh_2 rfl (by decide) rfl rfl h8 hc (fun r h2 q => by obtain ⟨rfl, a1, a2, a3⟩ := q; exact kk h2 a1 a2 a3)
  · subst z
    have eV : sp_co 1 (c 0) (c 2) x = (x - c 2) := by first | rfl | simp [sp_fi, sp_co, sp_gs, sp_sh, sp_pt, sp_te]
    have eT : tr_co 1 = [12] := by decide
    rw [eV, eT] at kk
    exact mh_callU0 (As := [.ref (44 + n.toNat), .ref 16, .int (Int32.ofInt x)]) (st := st) F (by omega) (k24_cools_X3_1 (by omega) hF rc hn (by omega) hT he) wu_RX11_268_RX2 hd sh_3 (by decide) rfl rfl h8 hc (fun r h2 q => by obtain ⟨rfl, a1, a2, a3⟩ := q; exact kk h2 a1 a2 a3)
  · subst z
    have eV : sp_co 2 (c 0) (c 2) x = (x - c 2) := by first | rfl | simp [sp_fi, sp_co, sp_gs, sp_sh, sp_pt, sp_te]
    have eT : tr_co 2 = [12] := by decide
    rw [eV, eT] at kk
    exact mh_callU0 (As := [.ref (44 + n.toNat), .ref 16, .int (Int32.ofInt x)]) (st := st) F (by omega) (k24_cools_X3_2 (by omega) hF rc hn (by omega) hT he) wu_RX11_268_RX4 hd sh_4 (by decide) rfl rfl h8 hc (fun r h2 q => by obtain ⟨rfl, a1, a2, a3⟩ := q; exact kk h2 a1 a2 a3)
  · subst z
    have eV : sp_co 3 (c 0) (c 2) x = (-(x - c 2)) := by first | rfl | simp [sp_fi, sp_co, sp_gs, sp_sh, sp_pt, sp_te]
    have eT : tr_co 3 = [40, 12] := by decide
    rw [eV, eT] at kk
    exact mh_callU0 (As := [.ref (44 + n.toNat), .ref 16, .int (Int32.ofInt x)]) (st := st) F (by omega) (k24_cools_X1_3 (by omega) hF rc hn (by omega) hT he) wu_RX11_268_RX1 hd sh_5 (by decide) rfl rfl h8 hc (fun r h2 q => by obtain ⟨rfl, a1, a2, a3⟩ := q; exact kk h2 a1 a2 a3)
  · subst z
    have eV : sp_co 4 (c 0) (c 2) x = (x - c 2) := by first | rfl | simp [sp_fi, sp_co, sp_gs, sp_sh, sp_pt, sp_te]
    have eT : tr_co 4 = [12] := by decide
    rw [eV, eT] at kk
    exact mh_callU0 (As := [.ref (44 + n.toNat), .ref 16, .int (Int32.ofInt x)]) (st := st) F (by omega) (k24_cools_X3_4 (by omega) hF rc hn (by omega) hT he) wu_RX11_268_RX7 hd sh_6 (by decide) rfl rfl h8 hc (fun r h2 q => by obtain ⟨rfl, a1, a2, a3⟩ := q; exact kk h2 a1 a2 a3)
  · subst z
    have eV : sp_co 5 (c 0) (c 2) x = (x - c 2) := by first | rfl | simp [sp_fi, sp_co, sp_gs, sp_sh, sp_pt, sp_te]
    have eT : tr_co 5 = [12] := by decide
    rw [eV, eT] at kk
    exact mh_callU0 (As := [.ref (44 + n.toNat), .ref 16, .int (Int32.ofInt x)]) (st := st) F (by omega) (k24_cools_X3_5 (by omega) hF rc hn (by omega) hT he) wu_RX11_268_RX8 hd sh_7 (by decide) rfl rfl h8 hc (fun r h2 q => by obtain ⟨rfl, a1, a2, a3⟩ := q; exact kk h2 a1 a2 a3)
  · subst z
    have eV : sp_co 6 (c 0) (c 2) x = (mh_xor (-(x - c 2)) (c 0)) := by first | rfl | simp [sp_fi, sp_co, sp_gs, sp_sh, sp_pt, sp_te]
    have eT : tr_co 6 = [70, 40, 12] := by decide
    rw [eV, eT] at kk
    exact mh_callU0 (As := [.ref (44 + n.toNat), .ref 16, .int (Int32.ofInt x)]) (st := st) F (by omega) (k24_cools_X5_6 (by omega) hF rc hn (by omega) hT he) wu_RX11_268_RX5 hd sh_8 (by decide) rfl rfl h8 hc (fun r h2 q => by obtain ⟨rfl, a1, a2, a3⟩ := q; exact kk h2 a1 a2 a3)

theorem kv_tells {g : mh_G} {f : mh_F} {cc : ByteArray} {nL d m cl sl pc : Nat} {loc : List (Option Value)} {st : List Value} {h : Nat → Int → Int} (F : mh_Fr g f RX11 cc nL d) (hd1 : 10 ≤ d) (hF : mh_FX h) {κ n x : Int} {c : Int → Int} {p : (Int → Int) × (Int → Int)} (rc : h (44 + n.toNat) = c) (hn : 0 ≤ n ∧ n < 6) (hκ : 0 ≤ κ ∧ κ ≤ 6) (e1 : c 1 = κ + 3) (hT : sc_Tp (h 16) p) (he : 0 ≤ p.1 22 ∧ p.1 22 ≤ 40) (hd : decode cc pc = .ok (.invokevirtual 271, 3)) (hm : m = 96) (h8 : (st.map fun v => v.category).sum ≤ 8) (hc : cl ≤ (mh_R f).cells ∧ sl ≤ (mh_R f).slots) (kk : ∀ h2 : Nat → Int → Int, mh_FX h2 → mh_fr [16] h h2 → sc_Tp (h2 16) (sp_rns (tr_te κ) p) → mh_V g f nL m cl sl (pc + 3) loc (.int (Int32.ofInt (sp_te κ (c 0) (c 2) x)) :: st) h2) : mh_V g f nL m cl sl pc loc (.int (Int32.ofInt x) :: .ref 16 :: .ref (44 + n.toNat) :: .ref (2 + κ.toNat) :: st) h := by
  subst hm
  rcases (show κ = 0 ∨ κ = 1 ∨ κ = 2 ∨ κ = 3 ∨ κ = 4 ∨ κ = 5 ∨ κ = 6 by omega) with z | z | z | z | z | z | z
  · subst z
    have eV : sp_te 0 (c 0) (c 2) x = (mh_xor (2 * (x + c 0)) (x - c 2)) := by first | rfl | simp [sp_fi, sp_co, sp_gs, sp_sh, sp_pt, sp_te]
    have eT : tr_te 0 = [13, 11, 10, 12] := by decide
    rw [eV, eT] at kk
    exact mh_callV0 (As := [.ref (44 + n.toNat), .ref 16, .int (Int32.ofInt x)]) (st := st) F (by omega) (k24_tells_X3_0 (by omega) hF rc hn (by omega) hT he) wv_RX11_271_yX3_tells hd sh_2 rfl (by decide) rfl rfl h8 hc (fun r h2 q => by obtain ⟨rfl, a1, a2, a3⟩ := q; exact kk h2 a1 a2 a3)
  · subst z
    have eV : sp_te 1 (c 0) (c 2) x = (mh_xor (2 * (x + c 0) - (1 - c 2)) (x - c 2)) := by first | rfl | simp [sp_fi, sp_co, sp_gs, sp_sh, sp_pt, sp_te]
    have eT : tr_te 1 = [13, 20, 11, 10, 12, 12] := by decide
    rw [eV, eT] at kk
    exact mh_callU0 (As := [.ref (44 + n.toNat), .ref 16, .int (Int32.ofInt x)]) (st := st) F (by omega) (k24_tells_X3_1 (by omega) hF rc hn (by omega) hT he) wu_RX11_271_RX2 hd sh_3 (by decide) rfl rfl h8 hc (fun r h2 q => by obtain ⟨rfl, a1, a2, a3⟩ := q; exact kk h2 a1 a2 a3)
  · subst z
    have eV : sp_te 2 (c 0) (c 2) x = (mh_xor (2 * (3 * (x + c 0))) (x - c 2)) := by first | rfl | simp [sp_fi, sp_co, sp_gs, sp_sh, sp_pt, sp_te]
    have eT : tr_te 2 = [13, 11, 30, 10, 12] := by decide
    rw [eV, eT] at kk
    exact mh_callU0 (As := [.ref (44 + n.toNat), .ref 16, .int (Int32.ofInt x)]) (st := st) F (by omega) (k24_tells_X3_2 (by omega) hF rc hn (by omega) hT he) wu_RX11_271_RX4 hd sh_4 (by decide) rfl rfl h8 hc (fun r h2 q => by obtain ⟨rfl, a1, a2, a3⟩ := q; exact kk h2 a1 a2 a3)
  · subst z
    have eV : sp_te 3 (c 0) (c 2) x = (mh_xor (2 * (x + c 0)) (-(x - c 2))) := by first | rfl | simp [sp_fi, sp_co, sp_gs, sp_sh, sp_pt, sp_te]
    have eT : tr_te 3 = [13, 11, 10, 40, 12] := by decide
    rw [eV, eT] at kk
    exact mh_callU0 (As := [.ref (44 + n.toNat), .ref 16, .int (Int32.ofInt x)]) (st := st) F (by omega) (k24_tells_X3_3 (by omega) hF rc hn (by omega) hT he) wu_RX11_271_RX1 hd sh_5 (by decide) rfl rfl h8 hc (fun r h2 q => by obtain ⟨rfl, a1, a2, a3⟩ := q; exact kk h2 a1 a2 a3)
  · subst z
    have eV : sp_te 4 (c 0) (c 2) x = (mh_xor (2 * ((x + 1) + c 0) - (1 - c 2)) (x - c 2)) := by first | rfl | simp [sp_fi, sp_co, sp_gs, sp_sh, sp_pt, sp_te]
    have eT : tr_te 4 = [13, 50, 20, 11, 10, 12, 12] := by decide
    rw [eV, eT] at kk
    exact mh_callU0 (As := [.ref (44 + n.toNat), .ref 16, .int (Int32.ofInt x)]) (st := st) F (by omega) (k24_tells_X3_4 (by omega) hF rc hn (by omega) hT he) wu_RX11_271_RX7 hd sh_6 (by decide) rfl rfl h8 hc (fun r h2 q => by obtain ⟨rfl, a1, a2, a3⟩ := q; exact kk h2 a1 a2 a3)
  · subst z
    have eV : sp_te 5 (c 0) (c 2) x = ((mh_xor (2 * (3 * (x + c 0))) (x - c 2)) - (3 * (2 + c 0))) := by first | rfl | simp [sp_fi, sp_co, sp_gs, sp_sh, sp_pt, sp_te]
    have eT : tr_te 5 = [60, 13, 11, 30, 10, 12, 30, 10] := by decide
    rw [eV, eT] at kk
    exact mh_callU0 (As := [.ref (44 + n.toNat), .ref 16, .int (Int32.ofInt x)]) (st := st) F (by omega) (k24_tells_X8_5 (by omega) hF rc hn (by omega) hT he) wu_RX11_271_RX8 hd sh_7 (by decide) rfl rfl h8 hc (fun r h2 q => by obtain ⟨rfl, a1, a2, a3⟩ := q; exact kk h2 a1 a2 a3)
  · subst z
    have eV : sp_te 6 (c 0) (c 2) x = ((2 * (x + c 0)) - (mh_xor (2 * (x + c 0)) (mh_xor (-(x - c 2)) (c 0)))) := by first | rfl | simp [sp_fi, sp_co, sp_gs, sp_sh, sp_pt, sp_te]
    have eT : tr_te 6 = [71, 11, 10, 13, 11, 10, 70, 40, 12] := by decide
    rw [eV, eT] at kk
    exact mh_callU0 (As := [.ref (44 + n.toNat), .ref 16, .int (Int32.ofInt x)]) (st := st) F (by omega) (k24_tells_X5_6 (by omega) hF rc hn (by omega) hT he) wu_RX11_271_RX5 hd sh_8 (by decide) rfl rfl h8 hc (fun r h2 q => by obtain ⟨rfl, a1, a2, a3⟩ := q; exact kk h2 a1 a2 a3)

set_option maxRecDepth 100000 in
set_option maxHeartbeats 2000000 in
theorem q_voice {g : mh_G} {d : Nat} (hd : 16 ≤ d) {h : Nat → Int → Int} (hF : mh_FX h) {s er o v : Int → Int} {k a x : Int} (hk : -2147483648 ≤ k ∧ k < 2147483648) (ha : -2147483648 ≤ a ∧ a < 2147483648) (hx : -2147483648 ≤ x ∧ x < 2147483648) (hi : sp_inv s) (hV : sc_V h s) (hE : sc_E h er) (hKN : sc_KN h) (hTr : sc_Tr h o v) : mh_M g d yX11_voice cX11_voice 5 (some .int) 96 0 0 [.ref 0, .int (Int32.ofInt (k)), .int (Int32.ofInt (a)), .int (Int32.ofInt (x))] h (fun r h2 => ∃ (vv : Int) (ee oo ww : Int → Int), (vv, ee, oo, ww) = sp_voice k a x s er o v ∧ r = some (.int (Int32.ofInt vv)) ∧ mh_FX h2 ∧ mh_fr [16, 24] h h2 ∧ sc_E h2 ee ∧ sc_Tr h2 oo ww) := by
  refine mh_M_of RX11 rfl (by decide +kernel) [some (.ref 0), some (.int (Int32.ofInt (k))), some (.int (Int32.ofInt (a))), some (.int (Int32.ofInt (x))), none] rfl (Nat.le_of_ble_eq_true rfl) (fun f F Z hn0 hR => ?_)
  have hm := hi.1
  have hq0 := hi.2.1
  obtain ⟨n6, n7, n8, n10, n14, n15⟩ := hV.2.2
  refine mh_aload0 (pc := 0) F dX11_voice_0 ?_
  refine mh_iload1 (pc := 1) F dX11_voice_1 ?_
  refine mh_callVp (pc := 2) (As := [.int (Int32.ofInt (k))]) (st := []) F (by omega) (k8_isChurn (by omega) hF (by omega) hV.2.2 (by omega)) wv_RX11_139_yX11_isChurn dX11_voice_2 sh_0 rfl (by decide) rfl rfl (Nat.le_of_ble_eq_true rfl) ⟨Nat.zero_le _, Nat.zero_le _⟩ ?_
  refine mh_ifb_eq (pc := 5) (tgt := 17) F dX11_voice_5 rfl (fun c_5 => ?_) (fun c_5 => ?_)
  · refine mh_aload0 (pc := 17) F dX11_voice_17 ?_
    refine mh_iconst (pc := 18) F dX11_voice_18 ?_
    refine mh_callV0 (pc := 19) (As := [.int (Int32.ofInt (1))]) (st := []) F (by omega) (k8_refuse (by omega) hF rfl (by decide)) wv_RX11_90_yX11_refuse dX11_voice_19 sh_0 rfl (by decide) rfl rfl (Nat.le_of_ble_eq_true rfl) ⟨Nat.zero_le _, Nat.zero_le _⟩ (fun r1 h1 q1 => ?_)
    obtain ⟨rfl, F1, fr1, q1_0⟩ := q1
    have fr2 : mh_fr [24] h h1 := (mh_fr.tr mh_fr.rf fr1).mono (by simp)
    have hVr : sc_V h1 s := sc_V_fr hV (fun a a1 a2 a3 a4 => fr1 a (by simp; omega))
    have hEr : sc_E h1 (mh_ur er 1 (er 1 + 1)) := hE.up (by decide) q1_0
    exact mh_ireturn F Z dX11_voice_22 ⟨_, _, o, v, (by unfold sp_voice; (repeat' split) <;> first | rfl | (exfalso; omega)), rfl, F1, (fr2.mono (by simp)), hEr, (by unfold sc_Tr at *; rw [fr2 16 (by simp)]; exact hTr)⟩
  · refine mh_iload2 (pc := 8) F dX11_voice_8 ?_
    refine mh_iconst (pc := 9) F dX11_voice_9 ?_
    refine mh_iconst (pc := 10) F dX11_voice_10 ?_
    refine mh_callSp (pc := 11) (As := [.int (Int32.ofInt (a)), .int (Int32.ofInt (0)), .int (Int32.ofInt (3))]) (st := []) F (by omega) (k4_within (by omega) (by omega) (by omega) (by omega)) ws_RX11_82 dX11_voice_11 rfl rfl (Nat.le_of_ble_eq_true rfl) ⟨Nat.zero_le _, Nat.zero_le _⟩ ?_
    refine mh_ifb_ne (pc := 14) (tgt := 23) F dX11_voice_14 rfl (fun c_14 => ?_) (fun c_14 => ?_)
    · refine mh_aload0 (pc := 23) F dX11_voice_23 ?_
      refine mh_getr (b := 25) (pc := 24) F sh_0 (by decide) fw_RX11_72_11 dX11_voice_24 rfl (fx_0_0 hF) ?_
      refine mh_getr (b := 31) (pc := 27) F sh_25 (by decide) fw_RX11_126_10 dX11_voice_27 rfl (fx_25_5 hF) ?_
      have hkk : 0 ≤ k ∧ k < 6 := by omega
      have zAk := sc_Aj hkk
      have hcs : sc_is (h (44 + k.toNat)) (sp_row s k) k := hV.2.1 k hkk.1 hkk.2
      have hcr := hi.2.2.2.2.1 k hkk.1 hkk.2
      have hco := hcs.ok hcr
      obtain ⟨d0, d1, d2, d3, d4, d5, d6, d7, d8, d9⟩ := id hcs
      unfold sp_row at d1 d2 d3 d4 d5 d6 d7 d8 d9
      obtain ⟨c0, c1, c2, c3, c4, c5, c6, c7, c8, c9, c10, c11, c12, c13⟩ := id hcr
      unfold sp_row at c0 c1 c2 c3 c4 c5 c6 c7 c8 c9 c10 c11 c12 c13
      have hcA := zAk.rg
      have eκ : h (44 + k.toNat) 1 - 3 = s (41 + 9 * k + 0) := by omega
      refine mh_iload1 (pc := 30) F dX11_voice_30 ?_
      refine mh_aaload (b := 44 + k.toNat) (pc := 31) F sh_31 (by decide) (by decide) (by omega) dX11_voice_31 (fx_31 hF (by omega)) ?_
      refine mh_astore4 (pc := 32) F dX11_voice_32 rfl (by decide) ?_
      refine mh_aload0 (pc := 34) F dX11_voice_34 ?_
      refine mh_getr (b := 16) (pc := 35) F sh_0 (by decide) fw_RX11_49_11 dX11_voice_35 rfl (fx_0_6 hF) ?_
      refine mh_iconst (pc := 38) F dX11_voice_38 ?_
      refine mh_iconst (pc := 39) F dX11_voice_39 ?_
      refine mh_iastore (pc := 40) F sh_16 (by decide) (by omega) dX11_voice_40 ?_
      refine mh_nmh (fun h3 e3 => ?_)
      have F3 : mh_FX h3 := by rw [e3]; exact hF.upa rfl
      have r44ktoNat_3 : h3 (44 + k.toNat) = h (44 + k.toNat) := by rw [e3, mh_up_row (by omega)]
      have fr3 : mh_fr [16] h h3 := mh_fr.up mh_fr.rf e3
      refine mh_iload2 (pc := 41) F dX11_voice_41 ?_
      by_cases c_42_0 : a = 0
      · refine mh_tabIn (pc := 42) (off := 26) (tgt := 68) F dX11_voice_42 (by omega) (by omega) (by omega) (by rw [c_42_0]; rfl) rfl ?_
        refine mh_aload4 (pc := 68) F dX11_voice_68 ?_
        refine mh_getr (b := 2 + ((h (44 + k.toNat)) 1 - 3).toNat) (pc := 70) F zAk.sh zAk.lt fw_RX11_129_0 dX11_voice_70 rfl (by rw [r44ktoNat_3]; omega) ?_
        refine mh_aload4 (pc := 73) F dX11_voice_73 ?_
        refine mh_aload0 (pc := 75) F dX11_voice_75 ?_
        refine mh_getr (b := 16) (pc := 76) F sh_0 (by decide) fw_RX11_49_11 dX11_voice_76 rfl (fx_0_6 F3) ?_
        refine mh_iload3 (pc := 79) F dX11_voice_79 ?_
        have hTp0 : sc_Tp (h3 16) (sp_o5 o (s (41 + 9 * k + 0)) k (s (41 + 9 * k + 1)), v) := ⟨by rw [e3, mh_up_rs, mh_ur_eq rfl]; rfl, fun i i0 i1 => absurd i1 (by show ¬ i < 0; omega)⟩
        refine kv_fills (pc := 80) F (by omega) F3 (κ := h (44 + k.toNat) 1 - 3) r44ktoNat_3 hkk (by omega) (by omega) hTp0 (by show 0 ≤ (0 : Int) ∧ (0 : Int) ≤ 40; decide) dX11_voice_80 rfl (Nat.le_of_ble_eq_true rfl) ⟨Nat.zero_le _, Nat.zero_le _⟩ (fun h4 F4 frv4 hT4 => ?_)
        have r44ktoNat_5 : h4 (44 + k.toNat) = h (44 + k.toNat) := (frv4 _ (by simp; omega)).trans r44ktoNat_3
        have fr5 : mh_fr [16] h h4 := (mh_fr.tr fr3 frv4).mono (by simp)
        refine mh_top (y := sp_fi (s (41 + 9 * k + 0)) k x) (mh_eqI (by rw [d0, eκ])) ?_
        rw [eκ] at hT4
        exact mh_ireturn F Z dX11_voice_83 ⟨_, er, _, _, (by unfold sp_voice; (repeat' split) <;> first | rfl | (exfalso; omega)), rfl, F4, (fr5.mono (by simp)), (hE.of (fr5 24 (by simp))), hT4⟩
      by_cases c_42_1 : a = 1
      · refine mh_tabIn (pc := 42) (off := 42) (tgt := 84) F dX11_voice_42 (by omega) (by omega) (by omega) (by rw [c_42_1]; rfl) rfl ?_
        refine mh_aload4 (pc := 84) F dX11_voice_84 ?_
        refine mh_getr (b := 2 + ((h (44 + k.toNat)) 1 - 3).toNat) (pc := 86) F zAk.sh zAk.lt fw_RX11_129_0 dX11_voice_86 rfl (by rw [r44ktoNat_3]; omega) ?_
        refine mh_aload4 (pc := 89) F dX11_voice_89 ?_
        refine mh_aload0 (pc := 91) F dX11_voice_91 ?_
        refine mh_getr (b := 16) (pc := 92) F sh_0 (by decide) fw_RX11_49_11 dX11_voice_92 rfl (fx_0_6 F3) ?_
        refine mh_iload3 (pc := 95) F dX11_voice_95 ?_
        have hTp0 : sc_Tp (h3 16) (sp_o5 o (s (41 + 9 * k + 0)) k (s (41 + 9 * k + 1)), v) := ⟨by rw [e3, mh_up_rs, mh_ur_eq rfl]; rfl, fun i i0 i1 => absurd i1 (by show ¬ i < 0; omega)⟩
        refine kv_shakes (pc := 96) F (by omega) F3 (κ := h (44 + k.toNat) 1 - 3) r44ktoNat_3 hkk (by omega) (by omega) hTp0 (by show 0 ≤ (0 : Int) ∧ (0 : Int) ≤ 40; decide) dX11_voice_96 rfl (Nat.le_of_ble_eq_true rfl) ⟨Nat.zero_le _, Nat.zero_le _⟩ (fun h6 F6 frv6 hT6 => ?_)
        have r44ktoNat_7 : h6 (44 + k.toNat) = h (44 + k.toNat) := (frv6 _ (by simp; omega)).trans r44ktoNat_3
        have fr7 : mh_fr [16] h h6 := (mh_fr.tr fr3 frv6).mono (by simp)
        refine mh_top (y := sp_sh (s (41 + 9 * k + 0)) k (s (41 + 9 * k + 1)) x) (mh_eqI (by rw [d0, d2, eκ])) ?_
        rw [eκ] at hT6
        exact mh_ireturn F Z dX11_voice_99 ⟨_, er, _, _, (by unfold sp_voice; (repeat' split) <;> first | rfl | (exfalso; omega)), rfl, F6, (fr7.mono (by simp)), (hE.of (fr7 24 (by simp))), hT6⟩
      by_cases c_42_2 : a = 2
      · refine mh_tabIn (pc := 42) (off := 58) (tgt := 100) F dX11_voice_42 (by omega) (by omega) (by omega) (by rw [c_42_2]; rfl) rfl ?_
        refine mh_aload4 (pc := 100) F dX11_voice_100 ?_
        refine mh_getr (b := 2 + ((h (44 + k.toNat)) 1 - 3).toNat) (pc := 102) F zAk.sh zAk.lt fw_RX11_129_0 dX11_voice_102 rfl (by rw [r44ktoNat_3]; omega) ?_
        refine mh_aload4 (pc := 105) F dX11_voice_105 ?_
        refine mh_aload0 (pc := 107) F dX11_voice_107 ?_
        refine mh_getr (b := 16) (pc := 108) F sh_0 (by decide) fw_RX11_49_11 dX11_voice_108 rfl (fx_0_6 F3) ?_
        refine mh_iload3 (pc := 111) F dX11_voice_111 ?_
        have hTp0 : sc_Tp (h3 16) (sp_o5 o (s (41 + 9 * k + 0)) k (s (41 + 9 * k + 1)), v) := ⟨by rw [e3, mh_up_rs, mh_ur_eq rfl]; rfl, fun i i0 i1 => absurd i1 (by show ¬ i < 0; omega)⟩
        refine kv_cools (pc := 112) F (by omega) F3 (κ := h (44 + k.toNat) 1 - 3) r44ktoNat_3 hkk (by omega) (by omega) hTp0 (by show 0 ≤ (0 : Int) ∧ (0 : Int) ≤ 40; decide) dX11_voice_112 rfl (Nat.le_of_ble_eq_true rfl) ⟨Nat.zero_le _, Nat.zero_le _⟩ (fun h8 F8 frv8 hT8 => ?_)
        have r44ktoNat_9 : h8 (44 + k.toNat) = h (44 + k.toNat) := (frv8 _ (by simp; omega)).trans r44ktoNat_3
        have fr9 : mh_fr [16] h h8 := (mh_fr.tr fr3 frv8).mono (by simp)
        refine mh_top (y := sp_co (s (41 + 9 * k + 0)) k (s (41 + 9 * k + 1)) x) (mh_eqI (by rw [d0, d2, eκ])) ?_
        rw [eκ] at hT8
        exact mh_ireturn F Z dX11_voice_115 ⟨_, er, _, _, (by unfold sp_voice; (repeat' split) <;> first | rfl | (exfalso; omega)), rfl, F8, (fr9.mono (by simp)), (hE.of (fr9 24 (by simp))), hT8⟩
      refine mh_tabOut (pc := 42) (tgt := 116) F dX11_voice_42 (by omega) (by omega) rfl ?_
      refine mh_aload4 (pc := 116) F dX11_voice_116 ?_
      refine mh_getr (b := 2 + ((h (44 + k.toNat)) 1 - 3).toNat) (pc := 118) F zAk.sh zAk.lt fw_RX11_129_0 dX11_voice_118 rfl (by rw [r44ktoNat_3]; omega) ?_
      refine mh_aload4 (pc := 121) F dX11_voice_121 ?_
      refine mh_aload0 (pc := 123) F dX11_voice_123 ?_
      refine mh_getr (b := 16) (pc := 124) F sh_0 (by decide) fw_RX11_49_11 dX11_voice_124 rfl (fx_0_6 F3) ?_
      refine mh_iload3 (pc := 127) F dX11_voice_127 ?_
      have hTp0 : sc_Tp (h3 16) (sp_o5 o (s (41 + 9 * k + 0)) k (s (41 + 9 * k + 1)), v) := ⟨by rw [e3, mh_up_rs, mh_ur_eq rfl]; rfl, fun i i0 i1 => absurd i1 (by show ¬ i < 0; omega)⟩
      refine kv_tells (pc := 128) F (by omega) F3 (κ := h (44 + k.toNat) 1 - 3) r44ktoNat_3 hkk (by omega) (by omega) hTp0 (by show 0 ≤ (0 : Int) ∧ (0 : Int) ≤ 40; decide) dX11_voice_128 rfl (Nat.le_of_ble_eq_true rfl) ⟨Nat.zero_le _, Nat.zero_le _⟩ (fun h10 F10 frv10 hT10 => ?_)
      have r44ktoNat_11 : h10 (44 + k.toNat) = h (44 + k.toNat) := (frv10 _ (by simp; omega)).trans r44ktoNat_3
      have fr11 : mh_fr [16] h h10 := (mh_fr.tr fr3 frv10).mono (by simp)
      refine mh_top (y := sp_te (s (41 + 9 * k + 0)) k (s (41 + 9 * k + 1)) x) (mh_eqI (by rw [d0, d2, eκ])) ?_
      rw [eκ] at hT10
      exact mh_ireturn F Z dX11_voice_131 ⟨_, er, _, _, (by unfold sp_voice; (repeat' split) <;> first | rfl | (exfalso; omega)), rfl, F10, (fr11.mono (by simp)), (hE.of (fr11 24 (by simp))), hT10⟩
    · refine mh_aload0 (pc := 17) F dX11_voice_17 ?_
      refine mh_iconst (pc := 18) F dX11_voice_18 ?_
      refine mh_callV0 (pc := 19) (As := [.int (Int32.ofInt (1))]) (st := []) F (by omega) (k8_refuse (by omega) hF rfl (by decide)) wv_RX11_90_yX11_refuse dX11_voice_19 sh_0 rfl (by decide) rfl rfl (Nat.le_of_ble_eq_true rfl) ⟨Nat.zero_le _, Nat.zero_le _⟩ (fun r12 h12 q12 => ?_)
      obtain ⟨rfl, F12, fr12, q12_0⟩ := q12
      have fr13 : mh_fr [24] h h12 := (mh_fr.tr mh_fr.rf fr12).mono (by simp)
      have hVr : sc_V h12 s := sc_V_fr hV (fun a a1 a2 a3 a4 => fr12 a (by simp; omega))
      have hEr : sc_E h12 (mh_ur er 1 (er 1 + 1)) := hE.up (by decide) q12_0
      exact mh_ireturn F Z dX11_voice_22 ⟨_, _, o, v, (by unfold sp_voice; (repeat' split) <;> first | rfl | (exfalso; omega)), rfl, F12, (fr13.mono (by simp)), hEr, (by unfold sc_Tr at *; rw [fr13 16 (by simp)]; exact hTr)⟩

