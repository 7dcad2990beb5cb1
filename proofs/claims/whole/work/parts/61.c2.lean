/-! churns -/
/-- the kinds' numbers stand -/
def sc_KN (h : Nat → Int → Int) : Prop := ∀ k : Int, 0 ≤ k → k ≤ 6 → h (2 + k.toNat) 0 = k
def sc_A (A : Nat) : Prop := (44 ≤ A ∧ A < 50) ∨ (69 ≤ A ∧ A < 75) ∨ (75 ≤ A ∧ A < 81)
theorem sc_A.rg {A : Nat} (h : sc_A A) : 44 ≤ A ∧ A < 81 := by unfold sc_A at h; omega
theorem sc_A.lt {A : Nat} (h : sc_A A) : A < 96 := by unfold sc_A at h; omega
theorem sc_A.sh {A : Nat} (h : sc_A A) : mh_sh A = .inl 0 := by
  have q : ∀ x : Fin 96, ((44 ≤ x.val ∧ x.val < 50) ∨ (69 ≤ x.val ∧ x.val < 75) ∨ (75 ≤ x.val ∧ x.val < 81)) → mh_sh x.val = .inl 0 := by decide +kernel
  exact q ⟨A, h.lt⟩ h
theorem sc_A.fx {A : Nat} (h : sc_A A) : ∀ q ∈ mh_fx, q.1 ≠ A := by
  have q : ∀ x : Fin 96, ((44 ≤ x.val ∧ x.val < 50) ∨ (69 ≤ x.val ∧ x.val < 75) ∨ (75 ≤ x.val ∧ x.val < 81)) → mh_fx.all (fun q => q.1 != x.val) = true := by decide +kernel
  have := q ⟨A, h.lt⟩ h
  intro z hz e
  have := List.all_eq_true.mp this z hz
  simp [e] at this
/-- a churn's fields: number, kind (3 more), m, at, how, left, carrier, sour, shaken, given -/
def sc_ok (c : Int → Int) : Prop := (3 ≤ c 1 ∧ c 1 ≤ 9) ∧ (0 ≤ c 2 ∧ c 2 ≤ 9) ∧ (0 ≤ c 3 ∧ c 3 ≤ 9) ∧ (0 ≤ c 4 ∧ c 4 ≤ 3) ∧ (0 ≤ c 5 ∧ c 5 ≤ 9) ∧ (-1 ≤ c 6 ∧ c 6 ≤ 3) ∧ (0 ≤ c 7 ∧ c 7 ≤ 9999) ∧ (0 ≤ c 8 ∧ c 8 ≤ 9999) ∧ (0 ≤ c 9 ∧ c 9 ≤ 1)
def sc_st (c : Int → Int) : Int := if c 9 = 1 then 3 else sp_st (c 1 - 3) (c 2) (c 7) (c 8)
def sc_new (c : Int → Int) : Int → Int := fun i => if 3 ≤ i ∧ i ≤ 9 then (if i = 6 then -1 else 0) else c i
def sc_cp (c b : Int → Int) : Int → Int := fun i => if 1 ≤ i ∧ i ≤ 9 then b i else c i
def sc_an (c : Int → Int) (w : Int) : Int := if w = 0 then c 1 - 3 else if w = 1 then c 2 else if w = 2 then c 3 else if w = 3 then c 4 else if w = 4 then c 5 else if w = 5 then c 7 else if w = 6 then c 8 else if w = 7 then sc_st c else if w = 8 then sp_turns (c 1 - 3) (c 2) else c 6
theorem sc_st_rg (c : Int → Int) : 0 ≤ sc_st c ∧ sc_st c ≤ 3 := by unfold sc_st sp_st; (repeat' split) <;> omega
theorem kd_number_RX11_145 {g : mh_G} {f : mh_F} {cc : ByteArray} {nL d n cl sl pc : Nat} {loc : List (Option Value)} {st : List Value} {h : Nat → Int → Int} (F : mh_Fr g f RX11 cc nL d) {k : Int} (hk : 0 ≤ k ∧ k ≤ 6) (hKN : sc_KN h) (hd : decode cc pc = .ok (.getfield 145, 3)) (hn : n = 96) (kk : mh_V g f nL n cl sl (pc + 3) loc (.int (Int32.ofInt k) :: st) h) : mh_V g f nL n cl sl pc loc (.ref (2 + k.toNat) :: st) h := by
  subst hn
  rw [← hKN k hk.1 hk.2] at kk
  rcases (show k = 0 ∨ k = 1 ∨ k = 2 ∨ k = 3 ∨ k = 4 ∨ k = 5 ∨ k = 6 by omega) with z | z | z | z | z | z | z
  · subst z; exact mh_geti F sh_2 (by decide) fw_RX11_145_3 hd rfl kk
  · subst z; exact mh_geti F sh_3 (by decide) fw_RX11_145_2 hd rfl kk
  · subst z; exact mh_geti F sh_4 (by decide) fw_RX11_145_4 hd rfl kk
  · subst z; exact mh_geti F sh_5 (by decide) fw_RX11_145_1 hd rfl kk
  · subst z; exact mh_geti F sh_6 (by decide) fw_RX11_145_7 hd rfl kk
  · subst z; exact mh_geti F sh_7 (by decide) fw_RX11_145_8 hd rfl kk
  · subst z; exact mh_geti F sh_8 (by decide) fw_RX11_145_5 hd rfl kk

theorem kd_number_RX0_67 {g : mh_G} {f : mh_F} {cc : ByteArray} {nL d n cl sl pc : Nat} {loc : List (Option Value)} {st : List Value} {h : Nat → Int → Int} (F : mh_Fr g f RX0 cc nL d) {k : Int} (hk : 0 ≤ k ∧ k ≤ 6) (hKN : sc_KN h) (hd : decode cc pc = .ok (.getfield 67, 3)) (hn : n = 96) (kk : mh_V g f nL n cl sl (pc + 3) loc (.int (Int32.ofInt k) :: st) h) : mh_V g f nL n cl sl pc loc (.ref (2 + k.toNat) :: st) h := by
  subst hn
  rw [← hKN k hk.1 hk.2] at kk
  rcases (show k = 0 ∨ k = 1 ∨ k = 2 ∨ k = 3 ∨ k = 4 ∨ k = 5 ∨ k = 6 by omega) with z | z | z | z | z | z | z
  · subst z; exact mh_geti F sh_2 (by decide) fw_RX0_67_3 hd rfl kk
  · subst z; exact mh_geti F sh_3 (by decide) fw_RX0_67_2 hd rfl kk
  · subst z; exact mh_geti F sh_4 (by decide) fw_RX0_67_4 hd rfl kk
  · subst z; exact mh_geti F sh_5 (by decide) fw_RX0_67_1 hd rfl kk
  · subst z; exact mh_geti F sh_6 (by decide) fw_RX0_67_7 hd rfl kk
  · subst z; exact mh_geti F sh_7 (by decide) fw_RX0_67_8 hd rfl kk
  · subst z; exact mh_geti F sh_8 (by decide) fw_RX0_67_5 hd rfl kk

set_option maxRecDepth 100000 in
set_option maxHeartbeats 1000000 in
theorem k0_renew {g : mh_G} {d : Nat} (hd : 1 ≤ d) {h : Nat → Int → Int} (hF : mh_FX h) {A : Nat} {c : Int → Int} (rA : h A = c) (zA : sc_A A) (hc : sc_ok c) : mh_M g d yX0_renew cX0_renew 1 none 96 0 0 [.ref A] h (fun r h2 => r = none ∧ mh_FX h2 ∧ mh_fr [A] h h2 ∧ h2 A = sc_new c) := by
  refine mh_M_of RX0 rfl (by decide +kernel) [some (.ref A)] rfl (Nat.le_of_ble_eq_true rfl) (fun f F Z hn0 hR => ?_)
  have hA1 := zA.rg
  obtain ⟨c1, c2, c3, c4, c5, c6, c7, c8, c9⟩ := id hc
  refine mh_aload0 (pc := 0) F dX0_renew_0 ?_
  refine mh_iconst (pc := 1) F dX0_renew_1 ?_
  refine mh_puti (pc := 2) F zA.sh zA.lt pw_RX0_22_0 dX0_renew_2 ?_
  refine mh_nmh (fun h1 e1 => ?_)
  have F1 : mh_FX h1 := by rw [e1]; exact hF.ups zA.fx
  have rA_1 : h1 A = mh_ur c 3 0 := by rw [e1, mh_up_rs, rA]
  have fr1 : mh_fr [A] h h1 := mh_fr.up mh_fr.rf e1
  refine mh_aload0 (pc := 5) F dX0_renew_5 ?_
  refine mh_iconst (pc := 6) F dX0_renew_6 ?_
  refine mh_puti (pc := 7) F zA.sh zA.lt pw_RX0_25_0 dX0_renew_7 ?_
  refine mh_nmh (fun h2 e2 => ?_)
  have F2 : mh_FX h2 := by rw [e2]; exact F1.ups zA.fx
  have rA_2 : h2 A = mh_ur (mh_ur c 3 0) 4 0 := by rw [e2, mh_up_rs, rA_1]
  have fr2 : mh_fr [A] h h2 := mh_fr.upi fr1 e2 (by simp)
  refine mh_aload0 (pc := 10) F dX0_renew_10 ?_
  refine mh_iconst (pc := 11) F dX0_renew_11 ?_
  refine mh_puti (pc := 12) F zA.sh zA.lt pw_RX0_28_0 dX0_renew_12 ?_
  refine mh_nmh (fun h3 e3 => ?_)
  have F3 : mh_FX h3 := by rw [e3]; exact F2.ups zA.fx
  have rA_3 : h3 A = mh_ur (mh_ur (mh_ur c 3 0) 4 0) 5 0 := by rw [e3, mh_up_rs, rA_2]
  have fr3 : mh_fr [A] h h3 := mh_fr.upi fr2 e3 (by simp)
  refine mh_aload0 (pc := 15) F dX0_renew_15 ?_
  refine mh_iconst (pc := 16) F dX0_renew_16 ?_
  refine mh_puti (pc := 17) F zA.sh zA.lt pw_RX0_19_0 dX0_renew_17 ?_
  refine mh_nmh (fun h4 e4 => ?_)
  have F4 : mh_FX h4 := by rw [e4]; exact F3.ups zA.fx
  have rA_4 : h4 A = mh_ur (mh_ur (mh_ur (mh_ur c 3 0) 4 0) 5 0) 6 (-1) := by rw [e4, mh_up_rs, rA_3]
  have fr4 : mh_fr [A] h h4 := mh_fr.upi fr3 e4 (by simp)
  refine mh_aload0 (pc := 20) F dX0_renew_20 ?_
  refine mh_iconst (pc := 21) F dX0_renew_21 ?_
  refine mh_puti (pc := 22) F zA.sh zA.lt pw_RX0_31_0 dX0_renew_22 ?_
  refine mh_nmh (fun h5 e5 => ?_)
  have F5 : mh_FX h5 := by rw [e5]; exact F4.ups zA.fx
  have rA_5 : h5 A = mh_ur (mh_ur (mh_ur (mh_ur (mh_ur c 3 0) 4 0) 5 0) 6 (-1)) 7 0 := by rw [e5, mh_up_rs, rA_4]
  have fr5 : mh_fr [A] h h5 := mh_fr.upi fr4 e5 (by simp)
  refine mh_aload0 (pc := 25) F dX0_renew_25 ?_
  refine mh_iconst (pc := 26) F dX0_renew_26 ?_
  refine mh_puti (pc := 27) F zA.sh zA.lt pw_RX0_34_0 dX0_renew_27 ?_
  refine mh_nmh (fun h6 e6 => ?_)
  have F6 : mh_FX h6 := by rw [e6]; exact F5.ups zA.fx
  have rA_6 : h6 A = mh_ur (mh_ur (mh_ur (mh_ur (mh_ur (mh_ur c 3 0) 4 0) 5 0) 6 (-1)) 7 0) 8 0 := by rw [e6, mh_up_rs, rA_5]
  have fr6 : mh_fr [A] h h6 := mh_fr.upi fr5 e6 (by simp)
  refine mh_aload0 (pc := 30) F dX0_renew_30 ?_
  refine mh_iconst (pc := 31) F dX0_renew_31 ?_
  refine mh_putz (pc := 32) F zA.sh zA.lt pw_RX0_37_0 dX0_renew_32 (by omega) ?_
  refine mh_nmh (fun h7 e7 => ?_)
  have F7 : mh_FX h7 := by rw [e7]; exact F6.ups zA.fx
  have rA_7 : h7 A = mh_ur (mh_ur (mh_ur (mh_ur (mh_ur (mh_ur (mh_ur c 3 0) 4 0) 5 0) 6 (-1)) 7 0) 8 0) 9 0 := by rw [e7, mh_up_rs, rA_6]
  have fr7 : mh_fr [A] h h7 := mh_fr.upi fr6 e7 (by simp)
  exact mh_return F Z dX0_renew_35 ⟨rfl, F7, (fr7.mono (by simp)), (rA_7.trans (by funext i; unfold sc_new mh_ur; (repeat' split) <;> first | rfl | (exfalso; omega) | omega | (congr 1; omega) | (have hi : i = 1 := (by omega); rw [hi]; omega)))⟩

set_option maxRecDepth 100000 in
set_option maxHeartbeats 1000000 in
theorem k0_copy {g : mh_G} {d : Nat} (hd : 1 ≤ d) {h : Nat → Int → Int} (hF : mh_FX h) {A B : Nat} {c : Int → Int} (rA : h A = c) {b : Int → Int} (rB : h B = b) (zA : sc_A A) (zB : sc_A B) (hAB : A ≠ B) (hc : sc_ok b) : mh_M g d yX0_copy cX0_copy 2 none 96 0 0 [.ref A, .ref B] h (fun r h2 => r = none ∧ mh_FX h2 ∧ mh_fr [A] h h2 ∧ h2 A = sc_cp c b) := by
  refine mh_M_of RX0 rfl (by decide +kernel) [some (.ref A), some (.ref B)] rfl (Nat.le_of_ble_eq_true rfl) (fun f F Z hn0 hR => ?_)
  have hA1 := zA.rg
  have hB1 := zB.rg
  obtain ⟨c1, c2, c3, c4, c5, c6, c7, c8, c9⟩ := id hc
  refine mh_aload0 (pc := 0) F dX0_copy_0 ?_
  refine mh_aload1 (pc := 1) F dX0_copy_1 ?_
  refine mh_getr (b := 2 + (b 1 - 3).toNat) (pc := 2) F zB.sh zB.lt fw_RX0_15_0 dX0_copy_2 rfl (by rw [rB]; omega) ?_
  refine mh_putr (pc := 5) F zA.sh zA.lt pw_RX0_15_0 dX0_copy_5 rfl ?_
  refine mh_nmh (fun h1 e1 => ?_)
  have F1 : mh_FX h1 := by rw [e1]; exact hF.ups zA.fx
  have rA_1 : h1 A = mh_ur c 1 (((2 + (b 1 - 3).toNat : Nat) : Int) + 1) := by rw [e1, mh_up_rs, rA]
  have rB_1 : h1 B = b := by rw [e1, mh_up_row (by omega)]; exact rB
  have fr1 : mh_fr [A] h h1 := mh_fr.up mh_fr.rf e1
  refine mh_aload0 (pc := 8) F dX0_copy_8 ?_
  refine mh_aload1 (pc := 9) F dX0_copy_9 ?_
  refine mh_getir (pc := 10) F zB.sh zB.lt fw_RX0_41_0 dX0_copy_10 rfl rB_1 ?_
  refine mh_puti (pc := 13) F zA.sh zA.lt pw_RX0_41_0 dX0_copy_13 ?_
  refine mh_nmh (fun h2 e2 => ?_)
  have F2 : mh_FX h2 := by rw [e2]; exact F1.ups zA.fx
  have rA_2 : h2 A = mh_ur (mh_ur c 1 (((2 + (b 1 - 3).toNat : Nat) : Int) + 1)) 2 (b 2) := by rw [e2, mh_up_rs, rA_1]
  have rB_2 : h2 B = b := by rw [e2, mh_up_row (by omega)]; exact rB_1
  have fr2 : mh_fr [A] h h2 := mh_fr.upi fr1 e2 (by simp)
  refine mh_aload0 (pc := 16) F dX0_copy_16 ?_
  refine mh_aload1 (pc := 17) F dX0_copy_17 ?_
  refine mh_getir (pc := 18) F zB.sh zB.lt fw_RX0_22_0 dX0_copy_18 rfl rB_2 ?_
  refine mh_puti (pc := 21) F zA.sh zA.lt pw_RX0_22_0 dX0_copy_21 ?_
  refine mh_nmh (fun h3 e3 => ?_)
  have F3 : mh_FX h3 := by rw [e3]; exact F2.ups zA.fx
  have rA_3 : h3 A = mh_ur (mh_ur (mh_ur c 1 (((2 + (b 1 - 3).toNat : Nat) : Int) + 1)) 2 (b 2)) 3 (b 3) := by rw [e3, mh_up_rs, rA_2]
  have rB_3 : h3 B = b := by rw [e3, mh_up_row (by omega)]; exact rB_2
  have fr3 : mh_fr [A] h h3 := mh_fr.upi fr2 e3 (by simp)
  refine mh_aload0 (pc := 24) F dX0_copy_24 ?_
  refine mh_aload1 (pc := 25) F dX0_copy_25 ?_
  refine mh_getir (pc := 26) F zB.sh zB.lt fw_RX0_25_0 dX0_copy_26 rfl rB_3 ?_
  refine mh_puti (pc := 29) F zA.sh zA.lt pw_RX0_25_0 dX0_copy_29 ?_
  refine mh_nmh (fun h4 e4 => ?_)
  have F4 : mh_FX h4 := by rw [e4]; exact F3.ups zA.fx
  have rA_4 : h4 A = mh_ur (mh_ur (mh_ur (mh_ur c 1 (((2 + (b 1 - 3).toNat : Nat) : Int) + 1)) 2 (b 2)) 3 (b 3)) 4 (b 4) := by rw [e4, mh_up_rs, rA_3]
  have rB_4 : h4 B = b := by rw [e4, mh_up_row (by omega)]; exact rB_3
  have fr4 : mh_fr [A] h h4 := mh_fr.upi fr3 e4 (by simp)
  refine mh_aload0 (pc := 32) F dX0_copy_32 ?_
  refine mh_aload1 (pc := 33) F dX0_copy_33 ?_
  refine mh_getir (pc := 34) F zB.sh zB.lt fw_RX0_28_0 dX0_copy_34 rfl rB_4 ?_
  refine mh_puti (pc := 37) F zA.sh zA.lt pw_RX0_28_0 dX0_copy_37 ?_
  refine mh_nmh (fun h5 e5 => ?_)
  have F5 : mh_FX h5 := by rw [e5]; exact F4.ups zA.fx
  have rA_5 : h5 A = mh_ur (mh_ur (mh_ur (mh_ur (mh_ur c 1 (((2 + (b 1 - 3).toNat : Nat) : Int) + 1)) 2 (b 2)) 3 (b 3)) 4 (b 4)) 5 (b 5) := by rw [e5, mh_up_rs, rA_4]
  have rB_5 : h5 B = b := by rw [e5, mh_up_row (by omega)]; exact rB_4
  have fr5 : mh_fr [A] h h5 := mh_fr.upi fr4 e5 (by simp)
  refine mh_aload0 (pc := 40) F dX0_copy_40 ?_
  refine mh_aload1 (pc := 41) F dX0_copy_41 ?_
  refine mh_getir (pc := 42) F zB.sh zB.lt fw_RX0_19_0 dX0_copy_42 rfl rB_5 ?_
  refine mh_puti (pc := 45) F zA.sh zA.lt pw_RX0_19_0 dX0_copy_45 ?_
  refine mh_nmh (fun h6 e6 => ?_)
  have F6 : mh_FX h6 := by rw [e6]; exact F5.ups zA.fx
  have rA_6 : h6 A = mh_ur (mh_ur (mh_ur (mh_ur (mh_ur (mh_ur c 1 (((2 + (b 1 - 3).toNat : Nat) : Int) + 1)) 2 (b 2)) 3 (b 3)) 4 (b 4)) 5 (b 5)) 6 (b 6) := by rw [e6, mh_up_rs, rA_5]
  have rB_6 : h6 B = b := by rw [e6, mh_up_row (by omega)]; exact rB_5
  have fr6 : mh_fr [A] h h6 := mh_fr.upi fr5 e6 (by simp)
  refine mh_aload0 (pc := 48) F dX0_copy_48 ?_
  refine mh_aload1 (pc := 49) F dX0_copy_49 ?_
  refine mh_getir (pc := 50) F zB.sh zB.lt fw_RX0_31_0 dX0_copy_50 rfl rB_6 ?_
  refine mh_puti (pc := 53) F zA.sh zA.lt pw_RX0_31_0 dX0_copy_53 ?_
  refine mh_nmh (fun h7 e7 => ?_)
  have F7 : mh_FX h7 := by rw [e7]; exact F6.ups zA.fx
  have rA_7 : h7 A = mh_ur (mh_ur (mh_ur (mh_ur (mh_ur (mh_ur (mh_ur c 1 (((2 + (b 1 - 3).toNat : Nat) : Int) + 1)) 2 (b 2)) 3 (b 3)) 4 (b 4)) 5 (b 5)) 6 (b 6)) 7 (b 7) := by rw [e7, mh_up_rs, rA_6]
  have rB_7 : h7 B = b := by rw [e7, mh_up_row (by omega)]; exact rB_6
  have fr7 : mh_fr [A] h h7 := mh_fr.upi fr6 e7 (by simp)
  refine mh_aload0 (pc := 56) F dX0_copy_56 ?_
  refine mh_aload1 (pc := 57) F dX0_copy_57 ?_
  refine mh_getir (pc := 58) F zB.sh zB.lt fw_RX0_34_0 dX0_copy_58 rfl rB_7 ?_
  refine mh_puti (pc := 61) F zA.sh zA.lt pw_RX0_34_0 dX0_copy_61 ?_
  refine mh_nmh (fun h8 e8 => ?_)
  have F8 : mh_FX h8 := by rw [e8]; exact F7.ups zA.fx
  have rA_8 : h8 A = mh_ur (mh_ur (mh_ur (mh_ur (mh_ur (mh_ur (mh_ur (mh_ur c 1 (((2 + (b 1 - 3).toNat : Nat) : Int) + 1)) 2 (b 2)) 3 (b 3)) 4 (b 4)) 5 (b 5)) 6 (b 6)) 7 (b 7)) 8 (b 8) := by rw [e8, mh_up_rs, rA_7]
  have rB_8 : h8 B = b := by rw [e8, mh_up_row (by omega)]; exact rB_7
  have fr8 : mh_fr [A] h h8 := mh_fr.upi fr7 e8 (by simp)
  refine mh_aload0 (pc := 64) F dX0_copy_64 ?_
  refine mh_aload1 (pc := 65) F dX0_copy_65 ?_
  refine mh_getir (pc := 66) F zB.sh zB.lt fw_RX0_37_0 dX0_copy_66 rfl rB_8 ?_
  refine mh_putz (pc := 69) F zA.sh zA.lt pw_RX0_37_0 dX0_copy_69 (by omega) ?_
  refine mh_nmh (fun h9 e9 => ?_)
  have F9 : mh_FX h9 := by rw [e9]; exact F8.ups zA.fx
  have rA_9 : h9 A = mh_ur (mh_ur (mh_ur (mh_ur (mh_ur (mh_ur (mh_ur (mh_ur (mh_ur c 1 (((2 + (b 1 - 3).toNat : Nat) : Int) + 1)) 2 (b 2)) 3 (b 3)) 4 (b 4)) 5 (b 5)) 6 (b 6)) 7 (b 7)) 8 (b 8)) 9 (b 9) := by rw [e9, mh_up_rs, rA_8]
  have rB_9 : h9 B = b := by rw [e9, mh_up_row (by omega)]; exact rB_8
  have fr9 : mh_fr [A] h h9 := mh_fr.upi fr8 e9 (by simp)
  exact mh_return F Z dX0_copy_72 ⟨rfl, F9, (fr9.mono (by simp)), (rA_9.trans (by funext i; unfold sc_cp mh_ur; (repeat' split) <;> first | rfl | (exfalso; omega) | omega | (congr 1; omega) | (have hi : i = 1 := (by omega); rw [hi]; omega)))⟩

set_option maxRecDepth 100000 in
set_option maxHeartbeats 1000000 in
theorem k0_state {g : mh_G} {d : Nat} (hd : 6 ≤ d) {h : Nat → Int → Int} (hF : mh_FX h) {A : Nat} {c : Int → Int} (rA : h A = c) (zA : sc_A A) (hc : sc_ok c) : mh_MP g d yX0_state cX0_state 1 (some .int) 96 [.ref A] h (some (.int (Int32.ofInt (sc_st c)))) := by
  refine mh_M_of RX0 rfl (by decide +kernel) [some (.ref A)] rfl (Nat.le_of_ble_eq_true rfl) (fun f F Z hn0 hR => ?_)
  have hA1 := zA.rg
  obtain ⟨c1, c2, c3, c4, c5, c6, c7, c8, c9⟩ := id hc
  have htr := sp_turns_rg (k := c 1 - 3) c2
  refine mh_aload0 (pc := 0) F dX0_state_0 ?_
  refine mh_getir (pc := 1) F zA.sh zA.lt fw_RX0_37_0 dX0_state_1 rfl rA ?_
  refine mh_if_eq (pc := 4) (tgt := 9) F dX0_state_4 rfl (by omega) (fun c_4 => ?_) (fun c_4 => ?_)
  · refine mh_aload0 (pc := 9) F dX0_state_9 ?_
    refine mh_getir (pc := 10) F zA.sh zA.lt fw_RX0_31_0 dX0_state_10 rfl rA ?_
    refine mh_aload0 (pc := 13) F dX0_state_13 ?_
    refine mh_getr (b := 2 + (c 1 - 3).toNat) (pc := 14) F zA.sh zA.lt fw_RX0_15_0 dX0_state_14 rfl (by rw [rA]; omega) ?_
    refine mh_aload0 (pc := 17) F dX0_state_17 ?_
    refine mh_getir (pc := 18) F zA.sh zA.lt fw_RX0_41_0 dX0_state_18 rfl rA ?_
    refine kd_turns_RX0_44 (pc := 21) F (by omega) (k := (c 1 - 3)) (by omega) (by omega) dX0_state_21 rfl (Nat.le_of_ble_eq_true rfl) ⟨Nat.zero_le _, Nat.zero_le _⟩ ?_
    refine mh_icmp_lt (pc := 24) (tgt := 29) F dX0_state_24 rfl (by omega) (by omega) (fun c_24 => ?_) (fun c_24 => ?_)
    · refine mh_aload0 (pc := 29) F dX0_state_29 ?_
      refine mh_getir (pc := 30) F zA.sh zA.lt fw_RX0_34_0 dX0_state_30 rfl rA ?_
      refine mh_bipush (pc := 33) F dX0_state_33 rfl ?_
      refine mh_icmp_lt (pc := 35) (tgt := 42) F dX0_state_35 rfl (by omega) (by omega) (fun c_35 => ?_) (fun c_35 => ?_)
      · refine mh_iconst (pc := 42) F dX0_state_42 ?_
        exact mh_ireturnp F Z dX0_state_43 (by unfold sc_st sp_st; (repeat' split) <;> first | rfl | (exfalso; omega)) rfl
      · refine mh_iconst (pc := 38) F dX0_state_38 ?_
        refine mh_goto (pc := 39) (tgt := 43) F dX0_state_39 rfl ?_
        exact mh_ireturnp F Z dX0_state_43 (by unfold sc_st sp_st; (repeat' split) <;> first | rfl | (exfalso; omega)) rfl
    · refine mh_iconst (pc := 27) F dX0_state_27 ?_
      exact mh_ireturnp F Z dX0_state_28 (by unfold sc_st sp_st; (repeat' split) <;> first | rfl | (exfalso; omega)) rfl
  · refine mh_iconst (pc := 7) F dX0_state_7 ?_
    exact mh_ireturnp F Z dX0_state_8 (by unfold sc_st sp_st; (repeat' split) <;> first | rfl | (exfalso; omega)) rfl

set_option maxRecDepth 100000 in
set_option maxHeartbeats 1000000 in
theorem k0_stands {g : mh_G} {d : Nat} (hd : 1 ≤ d) {h : Nat → Int → Int} (hF : mh_FX h) {A : Nat} {c : Int → Int} (rA : h A = c) (zA : sc_A A) (hc : sc_ok c) : mh_MP g d yX0_stands cX0_stands 1 (some .boolean) 96 [.ref A] h (some (.int (Int32.ofInt (mh_B (c 9 = 0 ∧ c 4 ≤ 1))))) := by
  refine mh_M_of RX0 rfl (by decide +kernel) [some (.ref A)] rfl (Nat.le_of_ble_eq_true rfl) (fun f F Z hn0 hR => ?_)
  have hA1 := zA.rg
  obtain ⟨c1, c2, c3, c4, c5, c6, c7, c8, c9⟩ := id hc
  refine mh_aload0 (pc := 0) F dX0_stands_0 ?_
  refine mh_getir (pc := 1) F zA.sh zA.lt fw_RX0_37_0 dX0_stands_1 rfl rA ?_
  refine mh_if_ne (pc := 4) (tgt := 26) F dX0_stands_4 rfl (by omega) (fun c_4 => ?_) (fun c_4 => ?_)
  · refine mh_iconst (pc := 26) F dX0_stands_26 ?_
    exact mh_zreturnp F Z dX0_stands_27 (Or.inr ⟨rfl, (by omega)⟩) rfl
  · refine mh_aload0 (pc := 7) F dX0_stands_7 ?_
    refine mh_getir (pc := 8) F zA.sh zA.lt fw_RX0_25_0 dX0_stands_8 rfl rA ?_
    refine mh_if_eq (pc := 11) (tgt := 22) F dX0_stands_11 rfl (by omega) (fun c_11 => ?_) (fun c_11 => ?_)
    · refine mh_iconst (pc := 22) F dX0_stands_22 ?_
      refine mh_goto (pc := 23) (tgt := 27) F dX0_stands_23 rfl ?_
      exact mh_zreturnp F Z dX0_stands_27 (Or.inl ⟨rfl, (by omega)⟩) rfl
    · refine mh_aload0 (pc := 14) F dX0_stands_14 ?_
      refine mh_getir (pc := 15) F zA.sh zA.lt fw_RX0_25_0 dX0_stands_15 rfl rA ?_
      refine mh_iconst (pc := 18) F dX0_stands_18 ?_
      refine mh_icmp_ne (pc := 19) (tgt := 26) F dX0_stands_19 rfl (by omega) (by omega) (fun c_19 => ?_) (fun c_19 => ?_)
      · refine mh_iconst (pc := 26) F dX0_stands_26 ?_
        exact mh_zreturnp F Z dX0_stands_27 (Or.inr ⟨rfl, (by omega)⟩) rfl
      · refine mh_iconst (pc := 22) F dX0_stands_22 ?_
        refine mh_goto (pc := 23) (tgt := 27) F dX0_stands_23 rfl ?_
        exact mh_zreturnp F Z dX0_stands_27 (Or.inl ⟨rfl, (by omega)⟩) rfl

set_option maxRecDepth 100000 in
set_option maxHeartbeats 1000000 in
theorem k0_standsSweet {g : mh_G} {d : Nat} (hd : 8 ≤ d) {h : Nat → Int → Int} (hF : mh_FX h) {A : Nat} {c : Int → Int} (rA : h A = c) (zA : sc_A A) (hc : sc_ok c) : mh_MP g d yX0_standsSweet cX0_standsSweet 1 (some .boolean) 96 [.ref A] h (some (.int (Int32.ofInt (mh_B ((c 9 = 0 ∧ c 4 ≤ 1) ∧ sc_st c = 0))))) := by
  refine mh_M_of RX0 rfl (by decide +kernel) [some (.ref A)] rfl (Nat.le_of_ble_eq_true rfl) (fun f F Z hn0 hR => ?_)
  have hA1 := zA.rg
  obtain ⟨c1, c2, c3, c4, c5, c6, c7, c8, c9⟩ := id hc
  have hsr := sc_st_rg c
  refine mh_aload0 (pc := 0) F dX0_standsSweet_0 ?_
  refine mh_callVp (pc := 1) (As := []) (st := []) F (by omega) (k0_stands (by omega) hF rA zA hc) wv_RX0_50_yX0_stands dX0_standsSweet_1 zA.sh rfl zA.lt rfl rfl (Nat.le_of_ble_eq_true rfl) ⟨Nat.zero_le _, Nat.zero_le _⟩ ?_
  refine mh_ifb_eq (pc := 4) (tgt := 18) F dX0_standsSweet_4 rfl (fun c_4 => ?_) (fun c_4 => ?_)
  · refine mh_iconst (pc := 18) F dX0_standsSweet_18 ?_
    exact mh_zreturnp F Z dX0_standsSweet_19 (Or.inr ⟨rfl, (by omega)⟩) rfl
  · refine mh_aload0 (pc := 7) F dX0_standsSweet_7 ?_
    refine mh_callVp (pc := 8) (As := []) (st := []) F (by omega) (k0_state (by omega) hF rA zA hc) wv_RX0_54_yX0_state dX0_standsSweet_8 zA.sh rfl zA.lt rfl rfl (Nat.le_of_ble_eq_true rfl) ⟨Nat.zero_le _, Nat.zero_le _⟩ ?_
    refine mh_if_ne (pc := 11) (tgt := 18) F dX0_standsSweet_11 rfl (by omega) (fun c_11 => ?_) (fun c_11 => ?_)
    · refine mh_iconst (pc := 18) F dX0_standsSweet_18 ?_
      exact mh_zreturnp F Z dX0_standsSweet_19 (Or.inr ⟨rfl, (by omega)⟩) rfl
    · refine mh_iconst (pc := 14) F dX0_standsSweet_14 ?_
      refine mh_goto (pc := 15) (tgt := 19) F dX0_standsSweet_15 rfl ?_
      exact mh_zreturnp F Z dX0_standsSweet_19 (Or.inl ⟨rfl, (by omega)⟩) rfl

set_option maxRecDepth 100000 in
set_option maxHeartbeats 1000000 in
theorem k0_sourBy {g : mh_G} {d : Nat} (hd : 3 ≤ d) {h : Nat → Int → Int} (hF : mh_FX h) {A : Nat} {v : Int} {c : Int → Int} (rA : h A = c) (zA : sc_A A) (hc : sc_ok c) (hv : -10000 ≤ v ∧ v ≤ 100000) : mh_M g d yX0_sourBy cX0_sourBy 2 none 96 0 0 [.ref A, .int (Int32.ofInt (v))] h (fun r h2 => r = none ∧ mh_FX h2 ∧ mh_fr [A] h h2 ∧ h2 A = mh_ur c 7 (sp_held (c 7 + v) 0 9999)) := by
  refine mh_M_of RX0 rfl (by decide +kernel) [some (.ref A), some (.int (Int32.ofInt (v)))] rfl (Nat.le_of_ble_eq_true rfl) (fun f F Z hn0 hR => ?_)
  have hA1 := zA.rg
  obtain ⟨c1, c2, c3, c4, c5, c6, c7, c8, c9⟩ := id hc
  refine mh_aload0 (pc := 0) F dX0_sourBy_0 ?_
  refine mh_iconst (pc := 1) F dX0_sourBy_1 ?_
  refine mh_sipush (pc := 2) F dX0_sourBy_2 rfl ?_
  refine mh_aload0 (pc := 5) F dX0_sourBy_5 ?_
  refine mh_getir (pc := 6) F zA.sh zA.lt fw_RX0_31_0 dX0_sourBy_6 rfl rA ?_
  refine mh_iload1 (pc := 9) F dX0_sourBy_9 ?_
  refine mh_iadd (pc := 10) F dX0_sourBy_10 ?_
  refine mh_callSp (pc := 11) (As := [.int (Int32.ofInt (9999)), .int (Int32.ofInt ((c 7) + v))]) (st := [.int (Int32.ofInt (0)), .ref A]) F (by omega) (k_min (by omega) (by omega) (by omega)) ws_RX0_58 dX0_sourBy_11 rfl rfl (Nat.le_of_ble_eq_true rfl) ⟨Nat.zero_le _, Nat.zero_le _⟩ ?_
  refine mh_callSp (pc := 14) (As := [.int (Int32.ofInt (0)), .int (Int32.ofInt (min (9999) ((c 7) + v)))]) (st := [.ref A]) F (by omega) (k_max (by omega) (by omega) (by omega)) ws_RX0_64 dX0_sourBy_14 rfl rfl (Nat.le_of_ble_eq_true rfl) ⟨Nat.zero_le _, Nat.zero_le _⟩ ?_
  refine mh_puti (pc := 17) F zA.sh zA.lt pw_RX0_31_0 dX0_sourBy_17 ?_
  refine mh_nmh (fun h1 e1 => ?_)
  have F1 : mh_FX h1 := by rw [e1]; exact hF.ups zA.fx
  have rA_1 : h1 A = mh_ur c 7 (max (0) (min (9999) ((c 7) + v))) := by rw [e1, mh_up_rs, rA]
  have fr1 : mh_fr [A] h h1 := mh_fr.up mh_fr.rf e1
  exact mh_return F Z dX0_sourBy_20 ⟨rfl, F1, (fr1.mono (by simp)), rA_1⟩

set_option maxRecDepth 100000 in
set_option maxHeartbeats 1000000 in
theorem k0_shakeBy {g : mh_G} {d : Nat} (hd : 3 ≤ d) {h : Nat → Int → Int} (hF : mh_FX h) {A : Nat} {v : Int} {c : Int → Int} (rA : h A = c) (zA : sc_A A) (hc : sc_ok c) (hv : -10000 ≤ v ∧ v ≤ 100000) : mh_M g d yX0_shakeBy cX0_shakeBy 2 none 96 0 0 [.ref A, .int (Int32.ofInt (v))] h (fun r h2 => r = none ∧ mh_FX h2 ∧ mh_fr [A] h h2 ∧ h2 A = mh_ur c 8 (sp_held (c 8 + v) 0 9999)) := by
  refine mh_M_of RX0 rfl (by decide +kernel) [some (.ref A), some (.int (Int32.ofInt (v)))] rfl (Nat.le_of_ble_eq_true rfl) (fun f F Z hn0 hR => ?_)
  have hA1 := zA.rg
  obtain ⟨c1, c2, c3, c4, c5, c6, c7, c8, c9⟩ := id hc
  refine mh_aload0 (pc := 0) F dX0_shakeBy_0 ?_
  refine mh_iconst (pc := 1) F dX0_shakeBy_1 ?_
  refine mh_sipush (pc := 2) F dX0_shakeBy_2 rfl ?_
  refine mh_aload0 (pc := 5) F dX0_shakeBy_5 ?_
  refine mh_getir (pc := 6) F zA.sh zA.lt fw_RX0_34_0 dX0_shakeBy_6 rfl rA ?_
  refine mh_iload1 (pc := 9) F dX0_shakeBy_9 ?_
  refine mh_iadd (pc := 10) F dX0_shakeBy_10 ?_
  refine mh_callSp (pc := 11) (As := [.int (Int32.ofInt (9999)), .int (Int32.ofInt ((c 8) + v))]) (st := [.int (Int32.ofInt (0)), .ref A]) F (by omega) (k_min (by omega) (by omega) (by omega)) ws_RX0_58 dX0_shakeBy_11 rfl rfl (Nat.le_of_ble_eq_true rfl) ⟨Nat.zero_le _, Nat.zero_le _⟩ ?_
  refine mh_callSp (pc := 14) (As := [.int (Int32.ofInt (0)), .int (Int32.ofInt (min (9999) ((c 8) + v)))]) (st := [.ref A]) F (by omega) (k_max (by omega) (by omega) (by omega)) ws_RX0_64 dX0_shakeBy_14 rfl rfl (Nat.le_of_ble_eq_true rfl) ⟨Nat.zero_le _, Nat.zero_le _⟩ ?_
  refine mh_puti (pc := 17) F zA.sh zA.lt pw_RX0_34_0 dX0_shakeBy_17 ?_
  refine mh_nmh (fun h1 e1 => ?_)
  have F1 : mh_FX h1 := by rw [e1]; exact hF.ups zA.fx
  have rA_1 : h1 A = mh_ur c 8 (max (0) (min (9999) ((c 8) + v))) := by rw [e1, mh_up_rs, rA]
  have fr1 : mh_fr [A] h h1 := mh_fr.up mh_fr.rf e1
  exact mh_return F Z dX0_shakeBy_20 ⟨rfl, F1, (fr1.mono (by simp)), rA_1⟩

set_option maxRecDepth 100000 in
set_option maxHeartbeats 1000000 in
theorem k0_answer {g : mh_G} {d : Nat} (hd : 8 ≤ d) {h : Nat → Int → Int} (hF : mh_FX h) {A : Nat} {w : Int} {c : Int → Int} (rA : h A = c) (zA : sc_A A) (hc : sc_ok c) (hw : -2147483648 ≤ w ∧ w < 2147483648) (hKN : sc_KN h) : mh_MP g d yX0_answer cX0_answer 2 (some .int) 96 [.ref A, .int (Int32.ofInt (w))] h (some (.int (Int32.ofInt (sc_an c w)))) := by
  refine mh_M_of RX0 rfl (by decide +kernel) [some (.ref A), some (.int (Int32.ofInt (w)))] rfl (Nat.le_of_ble_eq_true rfl) (fun f F Z hn0 hR => ?_)
  have hA1 := zA.rg
  obtain ⟨c1, c2, c3, c4, c5, c6, c7, c8, c9⟩ := id hc
  refine mh_iload1 (pc := 0) F dX0_answer_0 ?_
  by_cases c_1_0 : w = 0
  · refine mh_tabIn (pc := 1) (off := 51) (tgt := 52) F dX0_answer_1 (by omega) (by omega) (by omega) (by rw [c_1_0]; rfl) rfl ?_
    refine mh_aload0 (pc := 52) F dX0_answer_52 ?_
    refine mh_getr (b := 2 + (c 1 - 3).toNat) (pc := 53) F zA.sh zA.lt fw_RX0_15_0 dX0_answer_53 rfl (by rw [rA]; omega) ?_
    refine kd_number_RX0_67 (pc := 56) F (k := (c 1 - 3)) (by omega) hKN dX0_answer_56 rfl ?_
    exact mh_ireturnp F Z dX0_answer_59 (by unfold sc_an; (repeat' split) <;> first | rfl | (exfalso; omega)) rfl
  by_cases c_1_1 : w = 1
  · refine mh_tabIn (pc := 1) (off := 59) (tgt := 60) F dX0_answer_1 (by omega) (by omega) (by omega) (by rw [c_1_1]; rfl) rfl ?_
    refine mh_aload0 (pc := 60) F dX0_answer_60 ?_
    refine mh_getir (pc := 61) F zA.sh zA.lt fw_RX0_41_0 dX0_answer_61 rfl rA ?_
    exact mh_ireturnp F Z dX0_answer_64 (by unfold sc_an; (repeat' split) <;> first | rfl | (exfalso; omega)) rfl
  by_cases c_1_2 : w = 2
  · refine mh_tabIn (pc := 1) (off := 64) (tgt := 65) F dX0_answer_1 (by omega) (by omega) (by omega) (by rw [c_1_2]; rfl) rfl ?_
    refine mh_aload0 (pc := 65) F dX0_answer_65 ?_
    refine mh_getir (pc := 66) F zA.sh zA.lt fw_RX0_22_0 dX0_answer_66 rfl rA ?_
    exact mh_ireturnp F Z dX0_answer_69 (by unfold sc_an; (repeat' split) <;> first | rfl | (exfalso; omega)) rfl
  by_cases c_1_3 : w = 3
  · refine mh_tabIn (pc := 1) (off := 69) (tgt := 70) F dX0_answer_1 (by omega) (by omega) (by omega) (by rw [c_1_3]; rfl) rfl ?_
    refine mh_aload0 (pc := 70) F dX0_answer_70 ?_
    refine mh_getir (pc := 71) F zA.sh zA.lt fw_RX0_25_0 dX0_answer_71 rfl rA ?_
    exact mh_ireturnp F Z dX0_answer_74 (by unfold sc_an; (repeat' split) <;> first | rfl | (exfalso; omega)) rfl
  by_cases c_1_4 : w = 4
  · refine mh_tabIn (pc := 1) (off := 74) (tgt := 75) F dX0_answer_1 (by omega) (by omega) (by omega) (by rw [c_1_4]; rfl) rfl ?_
    refine mh_aload0 (pc := 75) F dX0_answer_75 ?_
    refine mh_getir (pc := 76) F zA.sh zA.lt fw_RX0_28_0 dX0_answer_76 rfl rA ?_
    exact mh_ireturnp F Z dX0_answer_79 (by unfold sc_an; (repeat' split) <;> first | rfl | (exfalso; omega)) rfl
  by_cases c_1_5 : w = 5
  · refine mh_tabIn (pc := 1) (off := 79) (tgt := 80) F dX0_answer_1 (by omega) (by omega) (by omega) (by rw [c_1_5]; rfl) rfl ?_
    refine mh_aload0 (pc := 80) F dX0_answer_80 ?_
    refine mh_getir (pc := 81) F zA.sh zA.lt fw_RX0_31_0 dX0_answer_81 rfl rA ?_
    exact mh_ireturnp F Z dX0_answer_84 (by unfold sc_an; (repeat' split) <;> first | rfl | (exfalso; omega)) rfl
  by_cases c_1_6 : w = 6
  · refine mh_tabIn (pc := 1) (off := 84) (tgt := 85) F dX0_answer_1 (by omega) (by omega) (by omega) (by rw [c_1_6]; rfl) rfl ?_
    refine mh_aload0 (pc := 85) F dX0_answer_85 ?_
    refine mh_getir (pc := 86) F zA.sh zA.lt fw_RX0_34_0 dX0_answer_86 rfl rA ?_
    exact mh_ireturnp F Z dX0_answer_89 (by unfold sc_an; (repeat' split) <;> first | rfl | (exfalso; omega)) rfl
  by_cases c_1_7 : w = 7
  · refine mh_tabIn (pc := 1) (off := 89) (tgt := 90) F dX0_answer_1 (by omega) (by omega) (by omega) (by rw [c_1_7]; rfl) rfl ?_
    refine mh_aload0 (pc := 90) F dX0_answer_90 ?_
    refine mh_callVp (pc := 91) (As := []) (st := []) F (by omega) (k0_state (by omega) hF rA zA hc) wv_RX0_54_yX0_state dX0_answer_91 zA.sh rfl zA.lt rfl rfl (Nat.le_of_ble_eq_true rfl) ⟨Nat.zero_le _, Nat.zero_le _⟩ ?_
    exact mh_ireturnp F Z dX0_answer_94 (by unfold sc_an; (repeat' split) <;> first | rfl | (exfalso; omega)) rfl
  by_cases c_1_8 : w = 8
  · refine mh_tabIn (pc := 1) (off := 94) (tgt := 95) F dX0_answer_1 (by omega) (by omega) (by omega) (by rw [c_1_8]; rfl) rfl ?_
    refine mh_aload0 (pc := 95) F dX0_answer_95 ?_
    refine mh_getr (b := 2 + (c 1 - 3).toNat) (pc := 96) F zA.sh zA.lt fw_RX0_15_0 dX0_answer_96 rfl (by rw [rA]; omega) ?_
    refine mh_aload0 (pc := 99) F dX0_answer_99 ?_
    refine mh_getir (pc := 100) F zA.sh zA.lt fw_RX0_41_0 dX0_answer_100 rfl rA ?_
    refine kd_turns_RX0_44 (pc := 103) F (by omega) (k := (c 1 - 3)) (by omega) (by omega) dX0_answer_103 rfl (Nat.le_of_ble_eq_true rfl) ⟨Nat.zero_le _, Nat.zero_le _⟩ ?_
    exact mh_ireturnp F Z dX0_answer_106 (by unfold sc_an; (repeat' split) <;> first | rfl | (exfalso; omega)) rfl
  refine mh_tabOut (pc := 1) (tgt := 107) F dX0_answer_1 (by omega) (by omega) rfl ?_
  refine mh_aload0 (pc := 107) F dX0_answer_107 ?_
  refine mh_getir (pc := 108) F zA.sh zA.lt fw_RX0_19_0 dX0_answer_108 rfl rA ?_
  exact mh_ireturnp F Z dX0_answer_111 (by unfold sc_an; (repeat' split) <;> first | rfl | (exfalso; omega)) rfl

