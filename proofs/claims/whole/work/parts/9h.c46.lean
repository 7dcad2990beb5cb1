/-! a new World -/
def sc_tzr (a b : Int → Int) (t U : Nat) : Prop := a 0 = ((1000000 + U : Nat) : Int) + 1 ∧ a 1 = (if U = 0 then 40 else 999) ∧ a 2 = ((t + 1 : Nat) : Int) + 1 ∧ a 4 = ((t + 2 : Nat) : Int) + 1 ∧ a 6 = ((t + 3 : Nat) : Int) + 1 ∧ a 3 = (if U = 0 then 3 else 11) ∧ ∀ k, 0 ≤ k → k < a 3 → sc_de (b k) = sc_df (U : Int) k ∧ sc_c1 (b k)
def sc_c0 (j : Int) : Int → Int := mh_ur (mh_ur (mh_ur (fun _ => (0 : Int)) 0 j) 1 3) 6 (-1)
def sc_w0 (h : Nat → Int → Int) (w : Nat) : Prop :=
  (h w 0 = ((w + 1 : Nat) : Int) + 1 ∧ h w 1 = ((w + 2 : Nat) : Int) + 1 ∧ h w 2 = ((w + 3 : Nat) : Int) + 1 ∧ h w 3 = ((w + 4 : Nat) : Int) + 1 ∧ h w 4 = ((w + 5 : Nat) : Int) + 1 ∧ h w 5 = ((w + 6 : Nat) : Int) + 1 ∧ h w 9 = ((w + 7 : Nat) : Int) + 1 ∧ h w 11 = ((w + 8 : Nat) : Int) + 1 ∧ h w 12 = ((w + 13 : Nat) : Int) + 1 ∧ h w 13 = ((w + 18 : Nat) : Int) + 1) ∧
  (h w 6 = 0 ∧ h w 7 = 0 ∧ h w 8 = 0 ∧ h w 10 = 0 ∧ h w 14 = 0 ∧ h w 15 = 1) ∧
  (∀ k, 0 ≤ k → k < 9 → h (w + 1) k = 8 ∧ h (w + 2) k = 0 ∧ h (w + 3) k = 10) ∧
  (∀ k : Nat, k < 4 → h (w + 4) (k : Int) = (k : Int) + 1 ∧ h (w + 5) (k : Int) = 9 - 2 * (k : Int)) ∧
  (∀ k : Nat, k < 6 → h (w + 6) (k : Int) = ((w + 19 + k : Nat) : Int) + 1) ∧
  (h (w + 19) = sc_c0 0 ∧ h (w + 20) = sc_c0 1 ∧ h (w + 21) = sc_c0 2 ∧ h (w + 22) = sc_c0 3 ∧ h (w + 23) = sc_c0 4 ∧ h (w + 24) = sc_c0 5) ∧
  sc_tzr (h (w + 8)) (h (w + 9)) (w + 8) 0 ∧ sc_tzr (h (w + 13)) (h (w + 14)) (w + 13) 1 ∧ h (w + 7) = (fun _ => (0 : Int))

set_option maxRecDepth 100000 in
set_option maxHeartbeats 4000000 in
theorem q46_world_25 {g : mh_G} {d : Nat} (hd : 76 ≤ d) {h : Nat → Int → Int}  (r25 : h 25 = fun _ => (0 : Int)) : mh_M g d yX10_init cX10_init 3 none 26 24 511 [.ref 25, .ref 2] h (fun r h2 => r = none ∧ mh_fr [25, 26, 27, 28, 29, 30, 31, 32, 33, 34, 35, 36, 37, 38, 39, 40, 41, 42, 43, 44, 45, 46, 47, 48, 49] h h2 ∧ sc_w0 h2 25) := by
  refine mh_M_of RX10 rfl (by decide +kernel) [some (.ref 25), some (.ref 2), none] rfl (Nat.le_of_ble_eq_true rfl) (fun f F Z hn0 hR => ?_)
  refine mh_aload0 (pc := 0) F dX10_init_0 ?_
  refine mh_objI (pc := 1) F (by omega) tw_1_143 (Nat.le_of_ble_eq_true rfl) dX10_init_1 ?_
  refine mh_aload0 (pc := 4) F dX10_init_4 ?_
  refine mh_bipush (pc := 5) F dX10_init_5 rfl ?_
  refine mh_newarr (t := 0) (len := 9) (n1 := 27) (cl1 := 1) (sl1 := 9) (pc := 7) F sh_26 (by decide) (by decide) rfl rfl tw_1_134 ⟨rfl, rfl, rfl⟩ (by rw [hR.1, hR.2]; exact ⟨Nat.le_of_ble_eq_true rfl, Nat.le_of_ble_eq_true rfl⟩) dX10_init_7 ?_
  refine mh_nmh (fun h1 e1 => ?_)
  have r25_1 : h1 25 = fun _ => (0 : Int) := by rw [e1, mh_zr_row (by decide)]; exact r25
  have r26_1 : h1 26 = fun _ => (0 : Int) := by rw [e1]; exact mh_zr_rs
  have fr1 : mh_fr [26] h h1 := mh_fr.zr mh_fr.rf e1
  refine mh_putFr (pc := 9) F hn0 sh_25 (by decide) qw_RX10_9_10 dX10_init_9 rfl ?_
  refine mh_nmh (fun h2 e2 => ?_)
  have r25_2 : h2 25 = mh_ur (fun _ => (0 : Int)) 0 (((26 : Nat) : Int) + 1) := by rw [e2, mh_up_rs, r25_1] <;> rfl
  have r26_2 : h2 26 = fun _ => (0 : Int) := by rw [e2, mh_up_row (by decide)]; exact r26_1
  have fr2 : mh_fr [25, 26] h h2 := mh_fr.up fr1 e2
  refine mh_aload0 (pc := 12) F dX10_init_12 ?_
  refine mh_bipush (pc := 13) F dX10_init_13 rfl ?_
  refine mh_newarr (t := 0) (len := 9) (n1 := 28) (cl1 := 2) (sl1 := 18) (pc := 15) F sh_27 (by decide) (by decide) rfl rfl tw_1_134 ⟨rfl, rfl, rfl⟩ (by rw [hR.1, hR.2]; exact ⟨Nat.le_of_ble_eq_true rfl, Nat.le_of_ble_eq_true rfl⟩) dX10_init_15 ?_
  refine mh_nmh (fun h3 e3 => ?_)
  have r25_3 : h3 25 = mh_ur (fun _ => (0 : Int)) 0 (((26 : Nat) : Int) + 1) := by rw [e3, mh_zr_row (by decide)]; exact r25_2
  have r26_3 : h3 26 = fun _ => (0 : Int) := by rw [e3, mh_zr_row (by decide)]; exact r26_2
  have r27_3 : h3 27 = fun _ => (0 : Int) := by rw [e3]; exact mh_zr_rs
  have fr3 : mh_fr [27, 25, 26] h h3 := mh_fr.zr fr2 e3
  refine mh_putFr (pc := 17) F hn0 sh_25 (by decide) qw_RX10_15_10 dX10_init_17 rfl ?_
  refine mh_nmh (fun h4 e4 => ?_)
  have r25_4 : h4 25 = mh_ur (mh_ur (fun _ => (0 : Int)) 0 (((26 : Nat) : Int) + 1)) 1 (((27 : Nat) : Int) + 1) := by rw [e4, mh_up_rs, r25_3] <;> rfl
  have r26_4 : h4 26 = fun _ => (0 : Int) := by rw [e4, mh_up_row (by decide)]; exact r26_3
  have r27_4 : h4 27 = fun _ => (0 : Int) := by rw [e4, mh_up_row (by decide)]; exact r27_3
  have fr4 : mh_fr [27, 25, 26] h h4 := mh_fr.upi fr3 e4 (by simp)
  refine mh_aload0 (pc := 20) F dX10_init_20 ?_
  refine mh_bipush (pc := 21) F dX10_init_21 rfl ?_
  refine mh_newarr (t := 0) (len := 9) (n1 := 29) (cl1 := 3) (sl1 := 27) (pc := 23) F sh_28 (by decide) (by decide) rfl rfl tw_1_134 ⟨rfl, rfl, rfl⟩ (by rw [hR.1, hR.2]; exact ⟨Nat.le_of_ble_eq_true rfl, Nat.le_of_ble_eq_true rfl⟩) dX10_init_23 ?_
  refine mh_nmh (fun h5 e5 => ?_)
  have r25_5 : h5 25 = mh_ur (mh_ur (fun _ => (0 : Int)) 0 (((26 : Nat) : Int) + 1)) 1 (((27 : Nat) : Int) + 1) := by rw [e5, mh_zr_row (by decide)]; exact r25_4
  have r26_5 : h5 26 = fun _ => (0 : Int) := by rw [e5, mh_zr_row (by decide)]; exact r26_4
  have r27_5 : h5 27 = fun _ => (0 : Int) := by rw [e5, mh_zr_row (by decide)]; exact r27_4
  have r28_5 : h5 28 = fun _ => (0 : Int) := by rw [e5]; exact mh_zr_rs
  have fr5 : mh_fr [28, 27, 25, 26] h h5 := mh_fr.zr fr4 e5
  refine mh_putFr (pc := 25) F hn0 sh_25 (by decide) qw_RX10_18_10 dX10_init_25 rfl ?_
  refine mh_nmh (fun h6 e6 => ?_)
  have r25_6 : h6 25 = mh_ur (mh_ur (mh_ur (fun _ => (0 : Int)) 0 (((26 : Nat) : Int) + 1)) 1 (((27 : Nat) : Int) + 1)) 2 (((28 : Nat) : Int) + 1) := by rw [e6, mh_up_rs, r25_5] <;> rfl
  have r26_6 : h6 26 = fun _ => (0 : Int) := by rw [e6, mh_up_row (by decide)]; exact r26_5
  have r27_6 : h6 27 = fun _ => (0 : Int) := by rw [e6, mh_up_row (by decide)]; exact r27_5
  have r28_6 : h6 28 = fun _ => (0 : Int) := by rw [e6, mh_up_row (by decide)]; exact r28_5
  have fr6 : mh_fr [28, 27, 25, 26] h h6 := mh_fr.upi fr5 e6 (by simp)
  refine mh_aload0 (pc := 28) F dX10_init_28 ?_
  refine mh_iconst (pc := 29) F dX10_init_29 ?_
  refine mh_newarr (t := 0) (len := 4) (n1 := 30) (cl1 := 4) (sl1 := 31) (pc := 30) F sh_29 (by decide) (by decide) rfl rfl tw_1_134 ⟨rfl, rfl, rfl⟩ (by rw [hR.1, hR.2]; exact ⟨Nat.le_of_ble_eq_true rfl, Nat.le_of_ble_eq_true rfl⟩) dX10_init_30 ?_
  refine mh_nmh (fun h7 e7 => ?_)
  have r25_7 : h7 25 = mh_ur (mh_ur (mh_ur (fun _ => (0 : Int)) 0 (((26 : Nat) : Int) + 1)) 1 (((27 : Nat) : Int) + 1)) 2 (((28 : Nat) : Int) + 1) := by rw [e7, mh_zr_row (by decide)]; exact r25_6
  have r26_7 : h7 26 = fun _ => (0 : Int) := by rw [e7, mh_zr_row (by decide)]; exact r26_6
  have r27_7 : h7 27 = fun _ => (0 : Int) := by rw [e7, mh_zr_row (by decide)]; exact r27_6
  have r28_7 : h7 28 = fun _ => (0 : Int) := by rw [e7, mh_zr_row (by decide)]; exact r28_6
  have r29_7 : h7 29 = fun _ => (0 : Int) := by rw [e7]; exact mh_zr_rs
  have fr7 : mh_fr [29, 28, 27, 25, 26] h h7 := mh_fr.zr fr6 e7
  refine mh_putFr (pc := 32) F hn0 sh_25 (by decide) qw_RX10_21_10 dX10_init_32 rfl ?_
  refine mh_nmh (fun h8 e8 => ?_)
  have r25_8 : h8 25 = mh_ur (mh_ur (mh_ur (mh_ur (fun _ => (0 : Int)) 0 (((26 : Nat) : Int) + 1)) 1 (((27 : Nat) : Int) + 1)) 2 (((28 : Nat) : Int) + 1)) 3 (((29 : Nat) : Int) + 1) := by rw [e8, mh_up_rs, r25_7] <;> rfl
  have r26_8 : h8 26 = fun _ => (0 : Int) := by rw [e8, mh_up_row (by decide)]; exact r26_7
  have r27_8 : h8 27 = fun _ => (0 : Int) := by rw [e8, mh_up_row (by decide)]; exact r27_7
  have r28_8 : h8 28 = fun _ => (0 : Int) := by rw [e8, mh_up_row (by decide)]; exact r28_7
  have r29_8 : h8 29 = fun _ => (0 : Int) := by rw [e8, mh_up_row (by decide)]; exact r29_7
  have fr8 : mh_fr [29, 28, 27, 25, 26] h h8 := mh_fr.upi fr7 e8 (by simp)
  refine mh_aload0 (pc := 35) F dX10_init_35 ?_
  refine mh_iconst (pc := 36) F dX10_init_36 ?_
  refine mh_newarr (t := 0) (len := 4) (n1 := 31) (cl1 := 5) (sl1 := 35) (pc := 37) F sh_30 (by decide) (by decide) rfl rfl tw_1_134 ⟨rfl, rfl, rfl⟩ (by rw [hR.1, hR.2]; exact ⟨Nat.le_of_ble_eq_true rfl, Nat.le_of_ble_eq_true rfl⟩) dX10_init_37 ?_
  refine mh_nmh (fun h9 e9 => ?_)
  have r25_9 : h9 25 = mh_ur (mh_ur (mh_ur (mh_ur (fun _ => (0 : Int)) 0 (((26 : Nat) : Int) + 1)) 1 (((27 : Nat) : Int) + 1)) 2 (((28 : Nat) : Int) + 1)) 3 (((29 : Nat) : Int) + 1) := by rw [e9, mh_zr_row (by decide)]; exact r25_8
  have r26_9 : h9 26 = fun _ => (0 : Int) := by rw [e9, mh_zr_row (by decide)]; exact r26_8
  have r27_9 : h9 27 = fun _ => (0 : Int) := by rw [e9, mh_zr_row (by decide)]; exact r27_8
  have r28_9 : h9 28 = fun _ => (0 : Int) := by rw [e9, mh_zr_row (by decide)]; exact r28_8
  have r29_9 : h9 29 = fun _ => (0 : Int) := by rw [e9, mh_zr_row (by decide)]; exact r29_8
  have r30_9 : h9 30 = fun _ => (0 : Int) := by rw [e9]; exact mh_zr_rs
  have fr9 : mh_fr [30, 29, 28, 27, 25, 26] h h9 := mh_fr.zr fr8 e9
  refine mh_putFr (pc := 39) F hn0 sh_25 (by decide) qw_RX10_24_10 dX10_init_39 rfl ?_
  refine mh_nmh (fun h10 e10 => ?_)
  have r25_10 : h10 25 = mh_ur (mh_ur (mh_ur (mh_ur (mh_ur (fun _ => (0 : Int)) 0 (((26 : Nat) : Int) + 1)) 1 (((27 : Nat) : Int) + 1)) 2 (((28 : Nat) : Int) + 1)) 3 (((29 : Nat) : Int) + 1)) 4 (((30 : Nat) : Int) + 1) := by rw [e10, mh_up_rs, r25_9] <;> rfl
  have r26_10 : h10 26 = fun _ => (0 : Int) := by rw [e10, mh_up_row (by decide)]; exact r26_9
  have r27_10 : h10 27 = fun _ => (0 : Int) := by rw [e10, mh_up_row (by decide)]; exact r27_9
  have r28_10 : h10 28 = fun _ => (0 : Int) := by rw [e10, mh_up_row (by decide)]; exact r28_9
  have r29_10 : h10 29 = fun _ => (0 : Int) := by rw [e10, mh_up_row (by decide)]; exact r29_9
  have r30_10 : h10 30 = fun _ => (0 : Int) := by rw [e10, mh_up_row (by decide)]; exact r30_9
  have fr10 : mh_fr [30, 29, 28, 27, 25, 26] h h10 := mh_fr.upi fr9 e10 (by simp)
  refine mh_aload0 (pc := 42) F dX10_init_42 ?_
  refine mh_bipush (pc := 43) F dX10_init_43 rfl ?_
  refine mh_anew (t := 4) (len := 6) (n1 := 32) (cl1 := 6) (sl1 := 41) (pc := 45) F sh_31 (by decide) rfl (by decide) rfl tw_1_144 F.kk.2.2.2.1 ⟨rfl, rfl, rfl⟩ (by rw [hR.1, hR.2]; exact ⟨Nat.le_of_ble_eq_true rfl, Nat.le_of_ble_eq_true rfl⟩) dX10_init_45 ?_
  refine mh_nmh (fun h11 e11 => ?_)
  have r25_11 : h11 25 = mh_ur (mh_ur (mh_ur (mh_ur (mh_ur (fun _ => (0 : Int)) 0 (((26 : Nat) : Int) + 1)) 1 (((27 : Nat) : Int) + 1)) 2 (((28 : Nat) : Int) + 1)) 3 (((29 : Nat) : Int) + 1)) 4 (((30 : Nat) : Int) + 1) := by rw [e11, mh_zr_row (by decide)]; exact r25_10
  have r26_11 : h11 26 = fun _ => (0 : Int) := by rw [e11, mh_zr_row (by decide)]; exact r26_10
  have r27_11 : h11 27 = fun _ => (0 : Int) := by rw [e11, mh_zr_row (by decide)]; exact r27_10
  have r28_11 : h11 28 = fun _ => (0 : Int) := by rw [e11, mh_zr_row (by decide)]; exact r28_10
  have r29_11 : h11 29 = fun _ => (0 : Int) := by rw [e11, mh_zr_row (by decide)]; exact r29_10
  have r30_11 : h11 30 = fun _ => (0 : Int) := by rw [e11, mh_zr_row (by decide)]; exact r30_10
  have r31_11 : h11 31 = fun _ => (0 : Int) := by rw [e11]; exact mh_zr_rs
  have fr11 : mh_fr [31, 30, 29, 28, 27, 25, 26] h h11 := mh_fr.zr fr10 e11
  refine mh_putFr (pc := 48) F hn0 sh_25 (by decide) qw_RX10_29_10 dX10_init_48 rfl ?_
  refine mh_nmh (fun h12 e12 => ?_)
  have r25_12 : h12 25 = mh_ur (mh_ur (mh_ur (mh_ur (mh_ur (mh_ur (fun _ => (0 : Int)) 0 (((26 : Nat) : Int) + 1)) 1 (((27 : Nat) : Int) + 1)) 2 (((28 : Nat) : Int) + 1)) 3 (((29 : Nat) : Int) + 1)) 4 (((30 : Nat) : Int) + 1)) 5 (((31 : Nat) : Int) + 1) := by rw [e12, mh_up_rs, r25_11] <;> rfl
  have r26_12 : h12 26 = fun _ => (0 : Int) := by rw [e12, mh_up_row (by decide)]; exact r26_11
  have r27_12 : h12 27 = fun _ => (0 : Int) := by rw [e12, mh_up_row (by decide)]; exact r27_11
  have r28_12 : h12 28 = fun _ => (0 : Int) := by rw [e12, mh_up_row (by decide)]; exact r28_11
  have r29_12 : h12 29 = fun _ => (0 : Int) := by rw [e12, mh_up_row (by decide)]; exact r29_11
  have r30_12 : h12 30 = fun _ => (0 : Int) := by rw [e12, mh_up_row (by decide)]; exact r30_11
  have r31_12 : h12 31 = fun _ => (0 : Int) := by rw [e12, mh_up_row (by decide)]; exact r31_11
  have fr12 : mh_fr [31, 30, 29, 28, 27, 25, 26] h h12 := mh_fr.upi fr11 e12 (by simp)
  refine mh_aload0 (pc := 51) F dX10_init_51 ?_
  refine mh_bipush (pc := 52) F dX10_init_52 rfl ?_
  refine mh_newarr (t := 2) (len := 50) (n1 := 33) (cl1 := 7) (sl1 := 91) (pc := 54) F sh_32 (by decide) (by decide) rfl rfl tw_2_108 ⟨rfl, rfl, rfl⟩ (by rw [hR.1, hR.2]; exact ⟨Nat.le_of_ble_eq_true rfl, Nat.le_of_ble_eq_true rfl⟩) dX10_init_54 ?_
  refine mh_nmh (fun h13 e13 => ?_)
  have r25_13 : h13 25 = mh_ur (mh_ur (mh_ur (mh_ur (mh_ur (mh_ur (fun _ => (0 : Int)) 0 (((26 : Nat) : Int) + 1)) 1 (((27 : Nat) : Int) + 1)) 2 (((28 : Nat) : Int) + 1)) 3 (((29 : Nat) : Int) + 1)) 4 (((30 : Nat) : Int) + 1)) 5 (((31 : Nat) : Int) + 1) := by rw [e13, mh_zr_row (by decide)]; exact r25_12
  have r26_13 : h13 26 = fun _ => (0 : Int) := by rw [e13, mh_zr_row (by decide)]; exact r26_12
  have r27_13 : h13 27 = fun _ => (0 : Int) := by rw [e13, mh_zr_row (by decide)]; exact r27_12
  have r28_13 : h13 28 = fun _ => (0 : Int) := by rw [e13, mh_zr_row (by decide)]; exact r28_12
  have r29_13 : h13 29 = fun _ => (0 : Int) := by rw [e13, mh_zr_row (by decide)]; exact r29_12
  have r30_13 : h13 30 = fun _ => (0 : Int) := by rw [e13, mh_zr_row (by decide)]; exact r30_12
  have r31_13 : h13 31 = fun _ => (0 : Int) := by rw [e13, mh_zr_row (by decide)]; exact r31_12
  have r32_13 : h13 32 = fun _ => (0 : Int) := by rw [e13]; exact mh_zr_rs
  have fr13 : mh_fr [32, 31, 30, 29, 28, 27, 25, 26] h h13 := mh_fr.zr fr12 e13
  refine mh_putFr (pc := 56) F hn0 sh_25 (by decide) qw_RX10_33_10 dX10_init_56 rfl ?_
  refine mh_nmh (fun h14 e14 => ?_)
  have r25_14 : h14 25 = mh_ur (mh_ur (mh_ur (mh_ur (mh_ur (mh_ur (mh_ur (fun _ => (0 : Int)) 0 (((26 : Nat) : Int) + 1)) 1 (((27 : Nat) : Int) + 1)) 2 (((28 : Nat) : Int) + 1)) 3 (((29 : Nat) : Int) + 1)) 4 (((30 : Nat) : Int) + 1)) 5 (((31 : Nat) : Int) + 1)) 9 (((32 : Nat) : Int) + 1) := by rw [e14, mh_up_rs, r25_13] <;> rfl
  have r26_14 : h14 26 = fun _ => (0 : Int) := by rw [e14, mh_up_row (by decide)]; exact r26_13
  have r27_14 : h14 27 = fun _ => (0 : Int) := by rw [e14, mh_up_row (by decide)]; exact r27_13
  have r28_14 : h14 28 = fun _ => (0 : Int) := by rw [e14, mh_up_row (by decide)]; exact r28_13
  have r29_14 : h14 29 = fun _ => (0 : Int) := by rw [e14, mh_up_row (by decide)]; exact r29_13
  have r30_14 : h14 30 = fun _ => (0 : Int) := by rw [e14, mh_up_row (by decide)]; exact r30_13
  have r31_14 : h14 31 = fun _ => (0 : Int) := by rw [e14, mh_up_row (by decide)]; exact r31_13
  have r32_14 : h14 32 = fun _ => (0 : Int) := by rw [e14, mh_up_row (by decide)]; exact r32_13
  have fr14 : mh_fr [32, 31, 30, 29, 28, 27, 25, 26] h h14 := mh_fr.upi fr13 e14 (by simp)
  refine mh_aload0 (pc := 59) F dX10_init_59 ?_
  refine mh_new (ci := 9) (n1 := 34) (cl1 := 8) (sl1 := 101) (pc := 60) F sh_33 (by decide) tw_1_145 tw_1_146 tw_1_11 ⟨rfl, rfl, rfl⟩ (by rw [hR.1, hR.2]; exact ⟨Nat.le_of_ble_eq_true rfl, Nat.le_of_ble_eq_true rfl⟩) dX10_init_60 ?_
  refine mh_nmh (fun h15 e15 => ?_)
  have r25_15 : h15 25 = mh_ur (mh_ur (mh_ur (mh_ur (mh_ur (mh_ur (mh_ur (fun _ => (0 : Int)) 0 (((26 : Nat) : Int) + 1)) 1 (((27 : Nat) : Int) + 1)) 2 (((28 : Nat) : Int) + 1)) 3 (((29 : Nat) : Int) + 1)) 4 (((30 : Nat) : Int) + 1)) 5 (((31 : Nat) : Int) + 1)) 9 (((32 : Nat) : Int) + 1) := by rw [e15, mh_zr_row (by decide)]; exact r25_14
  have r26_15 : h15 26 = fun _ => (0 : Int) := by rw [e15, mh_zr_row (by decide)]; exact r26_14
  have r27_15 : h15 27 = fun _ => (0 : Int) := by rw [e15, mh_zr_row (by decide)]; exact r27_14
  have r28_15 : h15 28 = fun _ => (0 : Int) := by rw [e15, mh_zr_row (by decide)]; exact r28_14
  have r29_15 : h15 29 = fun _ => (0 : Int) := by rw [e15, mh_zr_row (by decide)]; exact r29_14
  have r30_15 : h15 30 = fun _ => (0 : Int) := by rw [e15, mh_zr_row (by decide)]; exact r30_14
  have r31_15 : h15 31 = fun _ => (0 : Int) := by rw [e15, mh_zr_row (by decide)]; exact r31_14
  have r32_15 : h15 32 = fun _ => (0 : Int) := by rw [e15, mh_zr_row (by decide)]; exact r32_14
  have r33_15 : h15 33 = fun _ => (0 : Int) := by rw [e15]; exact mh_zr_rs
  have fr15 : mh_fr [33, 32, 31, 30, 29, 28, 27, 25, 26] h h15 := mh_fr.zr fr14 e15
  refine mh_dup (pc := 63) F dX10_init_63 rfl ?_
  refine mh_ldcs (i := 0) (pc := 64) F rfl F.kk.2.2.2.2.2.1 dX10_init_64 ?_
  refine mh_ldcs (i := 2) (pc := 66) F rfl F.kk.2.2.2.2.2.2.2.1 dX10_init_66 ?_
  refine mh_bipush (pc := 68) F dX10_init_68 rfl ?_
  refine mh_callIx (pc := 70) (As := [.ref 1000000, .ref 1000002, .int (Int32.ofInt (40))]) (st := [.ref 33, .ref 25]) (n1 := 38) (cl1 := 12) (sl1 := 254) F (by omega) (q45_text_33 (by omega) r33_15) ⟨rfl, rfl, rfl⟩ wi_RX10_43 dX10_init_70 rfl rfl (Nat.le_of_ble_eq_true rfl) (by rw [hR.1, hR.2]; exact ⟨Nat.le_of_ble_eq_true rfl, Nat.le_of_ble_eq_true rfl⟩) (fun r16 h16 q16 => ?_)
  obtain ⟨rfl, fr16, ht33⟩ := q16
  change sc_tzr (h16 33) (h16 34) 33 0 at ht33
  obtain ⟨T33, eT33⟩ : ∃ z : Int → Int, z = h16 33 := ⟨_, rfl⟩
  obtain ⟨T34, eT34⟩ : ∃ z : Int → Int, z = h16 34 := ⟨_, rfl⟩
  rw [← eT33, ← eT34] at ht33
  have r25_17 : h16 25 = mh_ur (mh_ur (mh_ur (mh_ur (mh_ur (mh_ur (mh_ur (fun _ => (0 : Int)) 0 (((26 : Nat) : Int) + 1)) 1 (((27 : Nat) : Int) + 1)) 2 (((28 : Nat) : Int) + 1)) 3 (((29 : Nat) : Int) + 1)) 4 (((30 : Nat) : Int) + 1)) 5 (((31 : Nat) : Int) + 1)) 9 (((32 : Nat) : Int) + 1) := (fr16 _ (by decide)).trans r25_15
  have r26_17 : h16 26 = fun _ => (0 : Int) := (fr16 _ (by decide)).trans r26_15
  have r27_17 : h16 27 = fun _ => (0 : Int) := (fr16 _ (by decide)).trans r27_15
  have r28_17 : h16 28 = fun _ => (0 : Int) := (fr16 _ (by decide)).trans r28_15
  have r29_17 : h16 29 = fun _ => (0 : Int) := (fr16 _ (by decide)).trans r29_15
  have r30_17 : h16 30 = fun _ => (0 : Int) := (fr16 _ (by decide)).trans r30_15
  have r31_17 : h16 31 = fun _ => (0 : Int) := (fr16 _ (by decide)).trans r31_15
  have r32_17 : h16 32 = fun _ => (0 : Int) := (fr16 _ (by decide)).trans r32_15
  have fr17 : mh_fr [34, 35, 36, 37, 33, 32, 31, 30, 29, 28, 27, 25, 26] h h16 := (mh_fr.tr fr15 fr16).mono (by simp)
  refine mh_putFr (pc := 73) F hn0 sh_25 (by decide) qw_RX10_46_10 dX10_init_73 rfl ?_
  refine mh_nmh (fun h18 e18 => ?_)
  have r25_18 : h18 25 = mh_ur (mh_ur (mh_ur (mh_ur (mh_ur (mh_ur (mh_ur (mh_ur (fun _ => (0 : Int)) 0 (((26 : Nat) : Int) + 1)) 1 (((27 : Nat) : Int) + 1)) 2 (((28 : Nat) : Int) + 1)) 3 (((29 : Nat) : Int) + 1)) 4 (((30 : Nat) : Int) + 1)) 5 (((31 : Nat) : Int) + 1)) 9 (((32 : Nat) : Int) + 1)) 11 (((33 : Nat) : Int) + 1) := by rw [e18, mh_up_rs, r25_17] <;> rfl
  have r26_18 : h18 26 = fun _ => (0 : Int) := by rw [e18, mh_up_row (by decide)]; exact r26_17
  have r27_18 : h18 27 = fun _ => (0 : Int) := by rw [e18, mh_up_row (by decide)]; exact r27_17
  have r28_18 : h18 28 = fun _ => (0 : Int) := by rw [e18, mh_up_row (by decide)]; exact r28_17
  have r29_18 : h18 29 = fun _ => (0 : Int) := by rw [e18, mh_up_row (by decide)]; exact r29_17
  have r30_18 : h18 30 = fun _ => (0 : Int) := by rw [e18, mh_up_row (by decide)]; exact r30_17
  have r31_18 : h18 31 = fun _ => (0 : Int) := by rw [e18, mh_up_row (by decide)]; exact r31_17
  have r32_18 : h18 32 = fun _ => (0 : Int) := by rw [e18, mh_up_row (by decide)]; exact r32_17
  have r33_18 : h18 33 = T33 := by rw [e18, mh_up_row (by decide)]; exact eT33.symm
  have r34_18 : h18 34 = T34 := by rw [e18, mh_up_row (by decide)]; exact eT34.symm
  have fr18 : mh_fr [34, 35, 36, 37, 33, 32, 31, 30, 29, 28, 27, 25, 26] h h18 := mh_fr.upi fr17 e18 (by simp)
  refine mh_aload0 (pc := 76) F dX10_init_76 ?_
  refine mh_new (ci := 9) (n1 := 39) (cl1 := 13) (sl1 := 264) (pc := 77) F sh_38 (by decide) tw_1_145 tw_1_146 tw_1_11 ⟨rfl, rfl, rfl⟩ (by rw [hR.1, hR.2]; exact ⟨Nat.le_of_ble_eq_true rfl, Nat.le_of_ble_eq_true rfl⟩) dX10_init_77 ?_
  refine mh_nmh (fun h19 e19 => ?_)
  have r25_19 : h19 25 = mh_ur (mh_ur (mh_ur (mh_ur (mh_ur (mh_ur (mh_ur (mh_ur (fun _ => (0 : Int)) 0 (((26 : Nat) : Int) + 1)) 1 (((27 : Nat) : Int) + 1)) 2 (((28 : Nat) : Int) + 1)) 3 (((29 : Nat) : Int) + 1)) 4 (((30 : Nat) : Int) + 1)) 5 (((31 : Nat) : Int) + 1)) 9 (((32 : Nat) : Int) + 1)) 11 (((33 : Nat) : Int) + 1) := by rw [e19, mh_zr_row (by decide)]; exact r25_18
  have r26_19 : h19 26 = fun _ => (0 : Int) := by rw [e19, mh_zr_row (by decide)]; exact r26_18
  have r27_19 : h19 27 = fun _ => (0 : Int) := by rw [e19, mh_zr_row (by decide)]; exact r27_18
  have r28_19 : h19 28 = fun _ => (0 : Int) := by rw [e19, mh_zr_row (by decide)]; exact r28_18
  have r29_19 : h19 29 = fun _ => (0 : Int) := by rw [e19, mh_zr_row (by decide)]; exact r29_18
  have r30_19 : h19 30 = fun _ => (0 : Int) := by rw [e19, mh_zr_row (by decide)]; exact r30_18
  have r31_19 : h19 31 = fun _ => (0 : Int) := by rw [e19, mh_zr_row (by decide)]; exact r31_18
  have r32_19 : h19 32 = fun _ => (0 : Int) := by rw [e19, mh_zr_row (by decide)]; exact r32_18
  have r33_19 : h19 33 = T33 := by rw [e19, mh_zr_row (by decide)]; exact r33_18
  have r34_19 : h19 34 = T34 := by rw [e19, mh_zr_row (by decide)]; exact r34_18
  have r38_19 : h19 38 = fun _ => (0 : Int) := by rw [e19]; exact mh_zr_rs
  have fr19 : mh_fr [38, 34, 35, 36, 37, 33, 32, 31, 30, 29, 28, 27, 25, 26] h h19 := mh_fr.zr fr18 e19
  refine mh_dup (pc := 80) F dX10_init_80 rfl ?_
  refine mh_ldcs (i := 1) (pc := 81) F rfl F.kk.2.2.2.2.2.2.1 dX10_init_81 ?_
  refine mh_ldcs (i := 3) (pc := 83) F rfl F.kk.2.2.2.2.2.2.2.2 dX10_init_83 ?_
  refine mh_sipush (pc := 85) F dX10_init_85 rfl ?_
  refine mh_callIx (pc := 88) (As := [.ref 1000001, .ref 1000003, .int (Int32.ofInt (999))]) (st := [.ref 38, .ref 25]) (n1 := 43) (cl1 := 17) (sl1 := 431) F (by omega) (q45_text_38 (by omega) r38_19) ⟨rfl, rfl, rfl⟩ wi_RX10_43 dX10_init_88 rfl rfl (Nat.le_of_ble_eq_true rfl) (by rw [hR.1, hR.2]; exact ⟨Nat.le_of_ble_eq_true rfl, Nat.le_of_ble_eq_true rfl⟩) (fun r20 h20 q20 => ?_)
  obtain ⟨rfl, fr20, ht38⟩ := q20
  change sc_tzr (h20 38) (h20 39) 38 1 at ht38
  obtain ⟨T38, eT38⟩ : ∃ z : Int → Int, z = h20 38 := ⟨_, rfl⟩
  obtain ⟨T39, eT39⟩ : ∃ z : Int → Int, z = h20 39 := ⟨_, rfl⟩
  rw [← eT38, ← eT39] at ht38
  have r25_21 : h20 25 = mh_ur (mh_ur (mh_ur (mh_ur (mh_ur (mh_ur (mh_ur (mh_ur (fun _ => (0 : Int)) 0 (((26 : Nat) : Int) + 1)) 1 (((27 : Nat) : Int) + 1)) 2 (((28 : Nat) : Int) + 1)) 3 (((29 : Nat) : Int) + 1)) 4 (((30 : Nat) : Int) + 1)) 5 (((31 : Nat) : Int) + 1)) 9 (((32 : Nat) : Int) + 1)) 11 (((33 : Nat) : Int) + 1) := (fr20 _ (by decide)).trans r25_19
  have r26_21 : h20 26 = fun _ => (0 : Int) := (fr20 _ (by decide)).trans r26_19
  have r27_21 : h20 27 = fun _ => (0 : Int) := (fr20 _ (by decide)).trans r27_19
  have r28_21 : h20 28 = fun _ => (0 : Int) := (fr20 _ (by decide)).trans r28_19
  have r29_21 : h20 29 = fun _ => (0 : Int) := (fr20 _ (by decide)).trans r29_19
  have r30_21 : h20 30 = fun _ => (0 : Int) := (fr20 _ (by decide)).trans r30_19
  have r31_21 : h20 31 = fun _ => (0 : Int) := (fr20 _ (by decide)).trans r31_19
  have r32_21 : h20 32 = fun _ => (0 : Int) := (fr20 _ (by decide)).trans r32_19
  have r33_21 : h20 33 = T33 := (fr20 _ (by decide)).trans r33_19
  have r34_21 : h20 34 = T34 := (fr20 _ (by decide)).trans r34_19
  have fr21 : mh_fr [39, 40, 41, 42, 38, 34, 35, 36, 37, 33, 32, 31, 30, 29, 28, 27, 25, 26] h h20 := (mh_fr.tr fr19 fr20).mono (by simp)
  refine mh_putFr (pc := 91) F hn0 sh_25 (by decide) qw_RX10_54_10 dX10_init_91 rfl ?_
  refine mh_nmh (fun h22 e22 => ?_)
  have r25_22 : h22 25 = mh_ur (mh_ur (mh_ur (mh_ur (mh_ur (mh_ur (mh_ur (mh_ur (mh_ur (fun _ => (0 : Int)) 0 (((26 : Nat) : Int) + 1)) 1 (((27 : Nat) : Int) + 1)) 2 (((28 : Nat) : Int) + 1)) 3 (((29 : Nat) : Int) + 1)) 4 (((30 : Nat) : Int) + 1)) 5 (((31 : Nat) : Int) + 1)) 9 (((32 : Nat) : Int) + 1)) 11 (((33 : Nat) : Int) + 1)) 12 (((38 : Nat) : Int) + 1) := by rw [e22, mh_up_rs, r25_21] <;> rfl
  have r26_22 : h22 26 = fun _ => (0 : Int) := by rw [e22, mh_up_row (by decide)]; exact r26_21
  have r27_22 : h22 27 = fun _ => (0 : Int) := by rw [e22, mh_up_row (by decide)]; exact r27_21
  have r28_22 : h22 28 = fun _ => (0 : Int) := by rw [e22, mh_up_row (by decide)]; exact r28_21
  have r29_22 : h22 29 = fun _ => (0 : Int) := by rw [e22, mh_up_row (by decide)]; exact r29_21
  have r30_22 : h22 30 = fun _ => (0 : Int) := by rw [e22, mh_up_row (by decide)]; exact r30_21
  have r31_22 : h22 31 = fun _ => (0 : Int) := by rw [e22, mh_up_row (by decide)]; exact r31_21
  have r32_22 : h22 32 = fun _ => (0 : Int) := by rw [e22, mh_up_row (by decide)]; exact r32_21
  have r33_22 : h22 33 = T33 := by rw [e22, mh_up_row (by decide)]; exact r33_21
  have r34_22 : h22 34 = T34 := by rw [e22, mh_up_row (by decide)]; exact r34_21
  have r38_22 : h22 38 = T38 := by rw [e22, mh_up_row (by decide)]; exact eT38.symm
  have r39_22 : h22 39 = T39 := by rw [e22, mh_up_row (by decide)]; exact eT39.symm
  have fr22 : mh_fr [39, 40, 41, 42, 38, 34, 35, 36, 37, 33, 32, 31, 30, 29, 28, 27, 25, 26] h h22 := mh_fr.upi fr21 e22 (by simp)
  refine mh_aload0 (pc := 94) F dX10_init_94 ?_
  refine mh_bipush (pc := 95) F dX10_init_95 rfl ?_
  refine mh_newarr (t := 0) (len := 20) (n1 := 44) (cl1 := 18) (sl1 := 451) (pc := 97) F sh_43 (by decide) (by decide) rfl rfl tw_1_134 ⟨rfl, rfl, rfl⟩ (by rw [hR.1, hR.2]; exact ⟨Nat.le_of_ble_eq_true rfl, Nat.le_of_ble_eq_true rfl⟩) dX10_init_97 ?_
  refine mh_nmh (fun h23 e23 => ?_)
  have r25_23 : h23 25 = mh_ur (mh_ur (mh_ur (mh_ur (mh_ur (mh_ur (mh_ur (mh_ur (mh_ur (fun _ => (0 : Int)) 0 (((26 : Nat) : Int) + 1)) 1 (((27 : Nat) : Int) + 1)) 2 (((28 : Nat) : Int) + 1)) 3 (((29 : Nat) : Int) + 1)) 4 (((30 : Nat) : Int) + 1)) 5 (((31 : Nat) : Int) + 1)) 9 (((32 : Nat) : Int) + 1)) 11 (((33 : Nat) : Int) + 1)) 12 (((38 : Nat) : Int) + 1) := by rw [e23, mh_zr_row (by decide)]; exact r25_22
  have r26_23 : h23 26 = fun _ => (0 : Int) := by rw [e23, mh_zr_row (by decide)]; exact r26_22
  have r27_23 : h23 27 = fun _ => (0 : Int) := by rw [e23, mh_zr_row (by decide)]; exact r27_22
  have r28_23 : h23 28 = fun _ => (0 : Int) := by rw [e23, mh_zr_row (by decide)]; exact r28_22
  have r29_23 : h23 29 = fun _ => (0 : Int) := by rw [e23, mh_zr_row (by decide)]; exact r29_22
  have r30_23 : h23 30 = fun _ => (0 : Int) := by rw [e23, mh_zr_row (by decide)]; exact r30_22
  have r31_23 : h23 31 = fun _ => (0 : Int) := by rw [e23, mh_zr_row (by decide)]; exact r31_22
  have r32_23 : h23 32 = fun _ => (0 : Int) := by rw [e23, mh_zr_row (by decide)]; exact r32_22
  have r33_23 : h23 33 = T33 := by rw [e23, mh_zr_row (by decide)]; exact r33_22
  have r34_23 : h23 34 = T34 := by rw [e23, mh_zr_row (by decide)]; exact r34_22
  have r38_23 : h23 38 = T38 := by rw [e23, mh_zr_row (by decide)]; exact r38_22
  have r39_23 : h23 39 = T39 := by rw [e23, mh_zr_row (by decide)]; exact r39_22
  have r43_23 : h23 43 = fun _ => (0 : Int) := by rw [e23]; exact mh_zr_rs
  have fr23 : mh_fr [43, 39, 40, 41, 42, 38, 34, 35, 36, 37, 33, 32, 31, 30, 29, 28, 27, 25, 26] h h23 := mh_fr.zr fr22 e23
  refine mh_putFr (pc := 99) F hn0 sh_25 (by decide) qw_RX10_57_10 dX10_init_99 rfl ?_
  refine mh_nmh (fun h24 e24 => ?_)
  have r25_24 : h24 25 = mh_ur (mh_ur (mh_ur (mh_ur (mh_ur (mh_ur (mh_ur (mh_ur (mh_ur (mh_ur (fun _ => (0 : Int)) 0 (((26 : Nat) : Int) + 1)) 1 (((27 : Nat) : Int) + 1)) 2 (((28 : Nat) : Int) + 1)) 3 (((29 : Nat) : Int) + 1)) 4 (((30 : Nat) : Int) + 1)) 5 (((31 : Nat) : Int) + 1)) 9 (((32 : Nat) : Int) + 1)) 11 (((33 : Nat) : Int) + 1)) 12 (((38 : Nat) : Int) + 1)) 13 (((43 : Nat) : Int) + 1) := by rw [e24, mh_up_rs, r25_23] <;> rfl
  have r26_24 : h24 26 = fun _ => (0 : Int) := by rw [e24, mh_up_row (by decide)]; exact r26_23
  have r27_24 : h24 27 = fun _ => (0 : Int) := by rw [e24, mh_up_row (by decide)]; exact r27_23
  have r28_24 : h24 28 = fun _ => (0 : Int) := by rw [e24, mh_up_row (by decide)]; exact r28_23
  have r29_24 : h24 29 = fun _ => (0 : Int) := by rw [e24, mh_up_row (by decide)]; exact r29_23
  have r30_24 : h24 30 = fun _ => (0 : Int) := by rw [e24, mh_up_row (by decide)]; exact r30_23
  have r31_24 : h24 31 = fun _ => (0 : Int) := by rw [e24, mh_up_row (by decide)]; exact r31_23
  have r32_24 : h24 32 = fun _ => (0 : Int) := by rw [e24, mh_up_row (by decide)]; exact r32_23
  have r33_24 : h24 33 = T33 := by rw [e24, mh_up_row (by decide)]; exact r33_23
  have r34_24 : h24 34 = T34 := by rw [e24, mh_up_row (by decide)]; exact r34_23
  have r38_24 : h24 38 = T38 := by rw [e24, mh_up_row (by decide)]; exact r38_23
  have r39_24 : h24 39 = T39 := by rw [e24, mh_up_row (by decide)]; exact r39_23
  have fr24 : mh_fr [43, 39, 40, 41, 42, 38, 34, 35, 36, 37, 33, 32, 31, 30, 29, 28, 27, 25, 26] h h24 := mh_fr.upi fr23 e24 (by simp)
  refine mh_aload0 (pc := 102) F dX10_init_102 ?_
  refine mh_iconst (pc := 103) F dX10_init_103 ?_
  refine mh_puti (pc := 104) F sh_25 (by decide) pw_RX10_60_10 dX10_init_104 ?_
  refine mh_nmh (fun h25 e25 => ?_)
  have r25_25 : h25 25 = mh_ur (mh_ur (mh_ur (mh_ur (mh_ur (mh_ur (mh_ur (mh_ur (mh_ur (mh_ur (mh_ur (fun _ => (0 : Int)) 0 (((26 : Nat) : Int) + 1)) 1 (((27 : Nat) : Int) + 1)) 2 (((28 : Nat) : Int) + 1)) 3 (((29 : Nat) : Int) + 1)) 4 (((30 : Nat) : Int) + 1)) 5 (((31 : Nat) : Int) + 1)) 9 (((32 : Nat) : Int) + 1)) 11 (((33 : Nat) : Int) + 1)) 12 (((38 : Nat) : Int) + 1)) 13 (((43 : Nat) : Int) + 1)) 15 1 := by rw [e25, mh_up_rs, r25_24] <;> rfl
  have r26_25 : h25 26 = fun _ => (0 : Int) := by rw [e25, mh_up_row (by decide)]; exact r26_24
  have r27_25 : h25 27 = fun _ => (0 : Int) := by rw [e25, mh_up_row (by decide)]; exact r27_24
  have r28_25 : h25 28 = fun _ => (0 : Int) := by rw [e25, mh_up_row (by decide)]; exact r28_24
  have r29_25 : h25 29 = fun _ => (0 : Int) := by rw [e25, mh_up_row (by decide)]; exact r29_24
  have r30_25 : h25 30 = fun _ => (0 : Int) := by rw [e25, mh_up_row (by decide)]; exact r30_24
  have r31_25 : h25 31 = fun _ => (0 : Int) := by rw [e25, mh_up_row (by decide)]; exact r31_24
  have r32_25 : h25 32 = fun _ => (0 : Int) := by rw [e25, mh_up_row (by decide)]; exact r32_24
  have r33_25 : h25 33 = T33 := by rw [e25, mh_up_row (by decide)]; exact r33_24
  have r34_25 : h25 34 = T34 := by rw [e25, mh_up_row (by decide)]; exact r34_24
  have r38_25 : h25 38 = T38 := by rw [e25, mh_up_row (by decide)]; exact r38_24
  have r39_25 : h25 39 = T39 := by rw [e25, mh_up_row (by decide)]; exact r39_24
  have fr25 : mh_fr [43, 39, 40, 41, 42, 38, 34, 35, 36, 37, 33, 32, 31, 30, 29, 28, 27, 25, 26] h h25 := mh_fr.upi fr24 e25 (by simp)
  refine mh_aload0 (pc := 107) F dX10_init_107 ?_
  refine mh_getr (b := 26) (pc := 108) F sh_25 (by decide) fw_RX10_9_10 dX10_init_108 rfl (by rw [r25_25]; simp [mh_ur]) ?_
  refine mh_bipush (pc := 111) F dX10_init_111 rfl ?_
  refine mh_callS0 (pc := 113) (As := [.ref 26, .int (Int32.ofInt (8))]) (st := []) F (by omega) (q44_fill (L := 9) (by omega) r26_25 sh_26 (by decide)) ws_RX10_64 dX10_init_113 rfl rfl (Nat.le_of_ble_eq_true rfl) (by rw [hR.1, hR.2]; exact ⟨Nat.le_of_ble_eq_true rfl, Nat.le_of_ble_eq_true rfl⟩) (fun r26 h26 q26 => ?_)
  obtain ⟨rfl, fr26, hf26⟩ := q26
  obtain ⟨T26, eT26⟩ : ∃ z : Int → Int, z = h26 26 := ⟨_, rfl⟩
  rw [← eT26] at hf26
  have r25_27 : h26 25 = mh_ur (mh_ur (mh_ur (mh_ur (mh_ur (mh_ur (mh_ur (mh_ur (mh_ur (mh_ur (mh_ur (fun _ => (0 : Int)) 0 (((26 : Nat) : Int) + 1)) 1 (((27 : Nat) : Int) + 1)) 2 (((28 : Nat) : Int) + 1)) 3 (((29 : Nat) : Int) + 1)) 4 (((30 : Nat) : Int) + 1)) 5 (((31 : Nat) : Int) + 1)) 9 (((32 : Nat) : Int) + 1)) 11 (((33 : Nat) : Int) + 1)) 12 (((38 : Nat) : Int) + 1)) 13 (((43 : Nat) : Int) + 1)) 15 1 := (fr26 _ (by decide)).trans r25_25
  have r27_27 : h26 27 = fun _ => (0 : Int) := (fr26 _ (by decide)).trans r27_25
  have r28_27 : h26 28 = fun _ => (0 : Int) := (fr26 _ (by decide)).trans r28_25
  have r29_27 : h26 29 = fun _ => (0 : Int) := (fr26 _ (by decide)).trans r29_25
  have r30_27 : h26 30 = fun _ => (0 : Int) := (fr26 _ (by decide)).trans r30_25
  have r31_27 : h26 31 = fun _ => (0 : Int) := (fr26 _ (by decide)).trans r31_25
  have r32_27 : h26 32 = fun _ => (0 : Int) := (fr26 _ (by decide)).trans r32_25
  have r33_27 : h26 33 = T33 := (fr26 _ (by decide)).trans r33_25
  have r34_27 : h26 34 = T34 := (fr26 _ (by decide)).trans r34_25
  have r38_27 : h26 38 = T38 := (fr26 _ (by decide)).trans r38_25
  have r39_27 : h26 39 = T39 := (fr26 _ (by decide)).trans r39_25
  have fr27 : mh_fr [43, 39, 40, 41, 42, 38, 34, 35, 36, 37, 33, 32, 31, 30, 29, 28, 27, 25, 26] h h26 := (mh_fr.tr fr25 fr26).mono (by simp)
  refine mh_aload0 (pc := 116) F dX10_init_116 ?_
  refine mh_getr (b := 28) (pc := 117) F sh_25 (by decide) fw_RX10_18_10 dX10_init_117 rfl (by rw [r25_27]; simp [mh_ur]) ?_
  refine mh_bipush (pc := 120) F dX10_init_120 rfl ?_
  refine mh_callS0 (pc := 122) (As := [.ref 28, .int (Int32.ofInt (10))]) (st := []) F (by omega) (q44_fill (L := 9) (by omega) r28_27 sh_28 (by decide)) ws_RX10_64 dX10_init_122 rfl rfl (Nat.le_of_ble_eq_true rfl) (by rw [hR.1, hR.2]; exact ⟨Nat.le_of_ble_eq_true rfl, Nat.le_of_ble_eq_true rfl⟩) (fun r28 h28 q28 => ?_)
  obtain ⟨rfl, fr28, hf28⟩ := q28
  obtain ⟨T28, eT28⟩ : ∃ z : Int → Int, z = h28 28 := ⟨_, rfl⟩
  rw [← eT28] at hf28
  have r25_29 : h28 25 = mh_ur (mh_ur (mh_ur (mh_ur (mh_ur (mh_ur (mh_ur (mh_ur (mh_ur (mh_ur (mh_ur (fun _ => (0 : Int)) 0 (((26 : Nat) : Int) + 1)) 1 (((27 : Nat) : Int) + 1)) 2 (((28 : Nat) : Int) + 1)) 3 (((29 : Nat) : Int) + 1)) 4 (((30 : Nat) : Int) + 1)) 5 (((31 : Nat) : Int) + 1)) 9 (((32 : Nat) : Int) + 1)) 11 (((33 : Nat) : Int) + 1)) 12 (((38 : Nat) : Int) + 1)) 13 (((43 : Nat) : Int) + 1)) 15 1 := (fr28 _ (by decide)).trans r25_27
  have r27_29 : h28 27 = fun _ => (0 : Int) := (fr28 _ (by decide)).trans r27_27
  have r29_29 : h28 29 = fun _ => (0 : Int) := (fr28 _ (by decide)).trans r29_27
  have r30_29 : h28 30 = fun _ => (0 : Int) := (fr28 _ (by decide)).trans r30_27
  have r31_29 : h28 31 = fun _ => (0 : Int) := (fr28 _ (by decide)).trans r31_27
  have r32_29 : h28 32 = fun _ => (0 : Int) := (fr28 _ (by decide)).trans r32_27
  have r33_29 : h28 33 = T33 := (fr28 _ (by decide)).trans r33_27
  have r34_29 : h28 34 = T34 := (fr28 _ (by decide)).trans r34_27
  have r38_29 : h28 38 = T38 := (fr28 _ (by decide)).trans r38_27
  have r39_29 : h28 39 = T39 := (fr28 _ (by decide)).trans r39_27
  have r26_29 : h28 26 = T26 := (fr28 _ (by decide)).trans eT26.symm
  have fr29 : mh_fr [43, 39, 40, 41, 42, 38, 34, 35, 36, 37, 33, 32, 31, 30, 29, 28, 27, 25, 26] h h28 := (mh_fr.tr fr27 fr28).mono (by simp)
  refine mh_iconst (pc := 125) F dX10_init_125 ?_
  refine mh_istore2 (pc := 126) F dX10_init_126 rfl (by decide) ?_
  refine mh_iload2 (pc := 127) F dX10_init_127 ?_
  refine mh_iconst (pc := 128) F dX10_init_128 ?_
  refine mh_icmp_ge (pc := 129) (tgt := 159) F dX10_init_129 rfl (by omega) (by omega) (fun c_129 => ?_) (fun c_129 => ?_)
  · exact absurd c_129 (by decide)
  · refine mh_aload0 (pc := 132) F dX10_init_132 ?_
    refine mh_getr (b := 29) (pc := 133) F sh_25 (by decide) fw_RX10_21_10 dX10_init_133 rfl (by rw [r25_29]; simp [mh_ur]) ?_
    refine mh_iload2 (pc := 136) F dX10_init_136 ?_
    refine mh_iload2 (pc := 137) F dX10_init_137 ?_
    refine mh_iconst (pc := 138) F dX10_init_138 ?_
    refine mh_iadd (pc := 139) F dX10_init_139 ?_
    refine mh_top (y := 1) rfl ?_
    refine mh_iastore (pc := 140) F sh_29 (by decide) (by omega) dX10_init_140 ?_
    refine mh_nmh (fun h30 e30 => ?_)
    have r25_30 : h30 25 = mh_ur (mh_ur (mh_ur (mh_ur (mh_ur (mh_ur (mh_ur (mh_ur (mh_ur (mh_ur (mh_ur (fun _ => (0 : Int)) 0 (((26 : Nat) : Int) + 1)) 1 (((27 : Nat) : Int) + 1)) 2 (((28 : Nat) : Int) + 1)) 3 (((29 : Nat) : Int) + 1)) 4 (((30 : Nat) : Int) + 1)) 5 (((31 : Nat) : Int) + 1)) 9 (((32 : Nat) : Int) + 1)) 11 (((33 : Nat) : Int) + 1)) 12 (((38 : Nat) : Int) + 1)) 13 (((43 : Nat) : Int) + 1)) 15 1 := by rw [e30, mh_up_row (by decide)]; exact r25_29
    have r27_30 : h30 27 = fun _ => (0 : Int) := by rw [e30, mh_up_row (by decide)]; exact r27_29
    have r29_30 : h30 29 = mh_ur (fun _ => (0 : Int)) 0 1 := by rw [e30, mh_up_rs, r29_29] <;> rfl
    have r30_30 : h30 30 = fun _ => (0 : Int) := by rw [e30, mh_up_row (by decide)]; exact r30_29
    have r31_30 : h30 31 = fun _ => (0 : Int) := by rw [e30, mh_up_row (by decide)]; exact r31_29
    have r32_30 : h30 32 = fun _ => (0 : Int) := by rw [e30, mh_up_row (by decide)]; exact r32_29
    have r33_30 : h30 33 = T33 := by rw [e30, mh_up_row (by decide)]; exact r33_29
    have r34_30 : h30 34 = T34 := by rw [e30, mh_up_row (by decide)]; exact r34_29
    have r38_30 : h30 38 = T38 := by rw [e30, mh_up_row (by decide)]; exact r38_29
    have r39_30 : h30 39 = T39 := by rw [e30, mh_up_row (by decide)]; exact r39_29
    have r26_30 : h30 26 = T26 := by rw [e30, mh_up_row (by decide)]; exact r26_29
    have r28_30 : h30 28 = T28 := by rw [e30, mh_up_row (by decide)]; exact eT28.symm
    have fr30 : mh_fr [43, 39, 40, 41, 42, 38, 34, 35, 36, 37, 33, 32, 31, 30, 29, 28, 27, 25, 26] h h30 := mh_fr.upi fr29 e30 (by simp)
    refine mh_aload0 (pc := 141) F dX10_init_141 ?_
    refine mh_getr (b := 30) (pc := 142) F sh_25 (by decide) fw_RX10_24_10 dX10_init_142 rfl (by rw [r25_30]; simp [mh_ur]) ?_
    refine mh_iload2 (pc := 145) F dX10_init_145 ?_
    refine mh_bipush (pc := 146) F dX10_init_146 rfl ?_
    refine mh_iconst (pc := 148) F dX10_init_148 ?_
    refine mh_iload2 (pc := 149) F dX10_init_149 ?_
    refine mh_imul (pc := 150) F dX10_init_150 ?_
    refine mh_top (y := 0) rfl ?_
    refine mh_isub (pc := 151) F dX10_init_151 ?_
    refine mh_top (y := 9) rfl ?_
    refine mh_iastore (pc := 152) F sh_30 (by decide) (by omega) dX10_init_152 ?_
    refine mh_nmh (fun h31 e31 => ?_)
    have r25_31 : h31 25 = mh_ur (mh_ur (mh_ur (mh_ur (mh_ur (mh_ur (mh_ur (mh_ur (mh_ur (mh_ur (mh_ur (fun _ => (0 : Int)) 0 (((26 : Nat) : Int) + 1)) 1 (((27 : Nat) : Int) + 1)) 2 (((28 : Nat) : Int) + 1)) 3 (((29 : Nat) : Int) + 1)) 4 (((30 : Nat) : Int) + 1)) 5 (((31 : Nat) : Int) + 1)) 9 (((32 : Nat) : Int) + 1)) 11 (((33 : Nat) : Int) + 1)) 12 (((38 : Nat) : Int) + 1)) 13 (((43 : Nat) : Int) + 1)) 15 1 := by rw [e31, mh_up_row (by decide)]; exact r25_30
    have r27_31 : h31 27 = fun _ => (0 : Int) := by rw [e31, mh_up_row (by decide)]; exact r27_30
    have r29_31 : h31 29 = mh_ur (fun _ => (0 : Int)) 0 1 := by rw [e31, mh_up_row (by decide)]; exact r29_30
    have r30_31 : h31 30 = mh_ur (fun _ => (0 : Int)) 0 9 := by rw [e31, mh_up_rs, r30_30] <;> rfl
    have r31_31 : h31 31 = fun _ => (0 : Int) := by rw [e31, mh_up_row (by decide)]; exact r31_30
    have r32_31 : h31 32 = fun _ => (0 : Int) := by rw [e31, mh_up_row (by decide)]; exact r32_30
    have r33_31 : h31 33 = T33 := by rw [e31, mh_up_row (by decide)]; exact r33_30
    have r34_31 : h31 34 = T34 := by rw [e31, mh_up_row (by decide)]; exact r34_30
    have r38_31 : h31 38 = T38 := by rw [e31, mh_up_row (by decide)]; exact r38_30
    have r39_31 : h31 39 = T39 := by rw [e31, mh_up_row (by decide)]; exact r39_30
    have r26_31 : h31 26 = T26 := by rw [e31, mh_up_row (by decide)]; exact r26_30
    have r28_31 : h31 28 = T28 := by rw [e31, mh_up_row (by decide)]; exact r28_30
    have fr31 : mh_fr [43, 39, 40, 41, 42, 38, 34, 35, 36, 37, 33, 32, 31, 30, 29, 28, 27, 25, 26] h h31 := mh_fr.upi fr30 e31 (by simp)
    refine mh_iinc2 (pc := 153) F dX10_init_153 rfl (by decide) ?_
    refine mh_goto (pc := 156) (tgt := 127) F dX10_init_156 rfl ?_
    refine mh_iload2 (pc := 127) F dX10_init_127 ?_
    refine mh_iconst (pc := 128) F dX10_init_128 ?_
    refine mh_icmp_ge (pc := 129) (tgt := 159) F dX10_init_129 rfl (by omega) (by omega) (fun c_129 => ?_) (fun c_129 => ?_)
    · exact absurd c_129 (by decide)
    · refine mh_aload0 (pc := 132) F dX10_init_132 ?_
      refine mh_getr (b := 29) (pc := 133) F sh_25 (by decide) fw_RX10_21_10 dX10_init_133 rfl (by rw [r25_31]; simp [mh_ur]) ?_
      refine mh_iload2 (pc := 136) F dX10_init_136 ?_
      refine mh_iload2 (pc := 137) F dX10_init_137 ?_
      refine mh_iconst (pc := 138) F dX10_init_138 ?_
      refine mh_iadd (pc := 139) F dX10_init_139 ?_
      refine mh_top (y := 2) rfl ?_
      refine mh_iastore (pc := 140) F sh_29 (by decide) (by omega) dX10_init_140 ?_
      refine mh_nmh (fun h32 e32 => ?_)
      have r25_32 : h32 25 = mh_ur (mh_ur (mh_ur (mh_ur (mh_ur (mh_ur (mh_ur (mh_ur (mh_ur (mh_ur (mh_ur (fun _ => (0 : Int)) 0 (((26 : Nat) : Int) + 1)) 1 (((27 : Nat) : Int) + 1)) 2 (((28 : Nat) : Int) + 1)) 3 (((29 : Nat) : Int) + 1)) 4 (((30 : Nat) : Int) + 1)) 5 (((31 : Nat) : Int) + 1)) 9 (((32 : Nat) : Int) + 1)) 11 (((33 : Nat) : Int) + 1)) 12 (((38 : Nat) : Int) + 1)) 13 (((43 : Nat) : Int) + 1)) 15 1 := by rw [e32, mh_up_row (by decide)]; exact r25_31
      have r27_32 : h32 27 = fun _ => (0 : Int) := by rw [e32, mh_up_row (by decide)]; exact r27_31
      have r29_32 : h32 29 = mh_ur (mh_ur (fun _ => (0 : Int)) 0 1) 1 2 := by rw [e32, mh_up_rs, r29_31] <;> rfl
      have r30_32 : h32 30 = mh_ur (fun _ => (0 : Int)) 0 9 := by rw [e32, mh_up_row (by decide)]; exact r30_31
      have r31_32 : h32 31 = fun _ => (0 : Int) := by rw [e32, mh_up_row (by decide)]; exact r31_31
      have r32_32 : h32 32 = fun _ => (0 : Int) := by rw [e32, mh_up_row (by decide)]; exact r32_31
      have r33_32 : h32 33 = T33 := by rw [e32, mh_up_row (by decide)]; exact r33_31
      have r34_32 : h32 34 = T34 := by rw [e32, mh_up_row (by decide)]; exact r34_31
      have r38_32 : h32 38 = T38 := by rw [e32, mh_up_row (by decide)]; exact r38_31
      have r39_32 : h32 39 = T39 := by rw [e32, mh_up_row (by decide)]; exact r39_31
      have r26_32 : h32 26 = T26 := by rw [e32, mh_up_row (by decide)]; exact r26_31
      have r28_32 : h32 28 = T28 := by rw [e32, mh_up_row (by decide)]; exact r28_31
      have fr32 : mh_fr [43, 39, 40, 41, 42, 38, 34, 35, 36, 37, 33, 32, 31, 30, 29, 28, 27, 25, 26] h h32 := mh_fr.upi fr31 e32 (by simp)
      refine mh_aload0 (pc := 141) F dX10_init_141 ?_
      refine mh_getr (b := 30) (pc := 142) F sh_25 (by decide) fw_RX10_24_10 dX10_init_142 rfl (by rw [r25_32]; simp [mh_ur]) ?_
      refine mh_iload2 (pc := 145) F dX10_init_145 ?_
      refine mh_bipush (pc := 146) F dX10_init_146 rfl ?_
      refine mh_iconst (pc := 148) F dX10_init_148 ?_
      refine mh_iload2 (pc := 149) F dX10_init_149 ?_
      refine mh_imul (pc := 150) F dX10_init_150 ?_
      refine mh_top (y := 2) rfl ?_
      refine mh_isub (pc := 151) F dX10_init_151 ?_
      refine mh_top (y := 7) rfl ?_
      refine mh_iastore (pc := 152) F sh_30 (by decide) (by omega) dX10_init_152 ?_
      refine mh_nmh (fun h33 e33 => ?_)
      have r25_33 : h33 25 = mh_ur (mh_ur (mh_ur (mh_ur (mh_ur (mh_ur (mh_ur (mh_ur (mh_ur (mh_ur (mh_ur (fun _ => (0 : Int)) 0 (((26 : Nat) : Int) + 1)) 1 (((27 : Nat) : Int) + 1)) 2 (((28 : Nat) : Int) + 1)) 3 (((29 : Nat) : Int) + 1)) 4 (((30 : Nat) : Int) + 1)) 5 (((31 : Nat) : Int) + 1)) 9 (((32 : Nat) : Int) + 1)) 11 (((33 : Nat) : Int) + 1)) 12 (((38 : Nat) : Int) + 1)) 13 (((43 : Nat) : Int) + 1)) 15 1 := by rw [e33, mh_up_row (by decide)]; exact r25_32
      have r27_33 : h33 27 = fun _ => (0 : Int) := by rw [e33, mh_up_row (by decide)]; exact r27_32
      have r29_33 : h33 29 = mh_ur (mh_ur (fun _ => (0 : Int)) 0 1) 1 2 := by rw [e33, mh_up_row (by decide)]; exact r29_32
      have r30_33 : h33 30 = mh_ur (mh_ur (fun _ => (0 : Int)) 0 9) 1 7 := by rw [e33, mh_up_rs, r30_32] <;> rfl
      have r31_33 : h33 31 = fun _ => (0 : Int) := by rw [e33, mh_up_row (by decide)]; exact r31_32
      have r32_33 : h33 32 = fun _ => (0 : Int) := by rw [e33, mh_up_row (by decide)]; exact r32_32
      have r33_33 : h33 33 = T33 := by rw [e33, mh_up_row (by decide)]; exact r33_32
      have r34_33 : h33 34 = T34 := by rw [e33, mh_up_row (by decide)]; exact r34_32
      have r38_33 : h33 38 = T38 := by rw [e33, mh_up_row (by decide)]; exact r38_32
      have r39_33 : h33 39 = T39 := by rw [e33, mh_up_row (by decide)]; exact r39_32
      have r26_33 : h33 26 = T26 := by rw [e33, mh_up_row (by decide)]; exact r26_32
      have r28_33 : h33 28 = T28 := by rw [e33, mh_up_row (by decide)]; exact r28_32
      have fr33 : mh_fr [43, 39, 40, 41, 42, 38, 34, 35, 36, 37, 33, 32, 31, 30, 29, 28, 27, 25, 26] h h33 := mh_fr.upi fr32 e33 (by simp)
      refine mh_iinc2 (pc := 153) F dX10_init_153 rfl (by decide) ?_
      refine mh_goto (pc := 156) (tgt := 127) F dX10_init_156 rfl ?_
      refine mh_iload2 (pc := 127) F dX10_init_127 ?_
      refine mh_iconst (pc := 128) F dX10_init_128 ?_
      refine mh_icmp_ge (pc := 129) (tgt := 159) F dX10_init_129 rfl (by omega) (by omega) (fun c_129 => ?_) (fun c_129 => ?_)
      · exact absurd c_129 (by decide)
      · refine mh_aload0 (pc := 132) F dX10_init_132 ?_
        refine mh_getr (b := 29) (pc := 133) F sh_25 (by decide) fw_RX10_21_10 dX10_init_133 rfl (by rw [r25_33]; simp [mh_ur]) ?_
        refine mh_iload2 (pc := 136) F dX10_init_136 ?_
        refine mh_iload2 (pc := 137) F dX10_init_137 ?_
        refine mh_iconst (pc := 138) F dX10_init_138 ?_
        refine mh_iadd (pc := 139) F dX10_init_139 ?_
        refine mh_top (y := 3) rfl ?_
        refine mh_iastore (pc := 140) F sh_29 (by decide) (by omega) dX10_init_140 ?_
        refine mh_nmh (fun h34 e34 => ?_)
        have r25_34 : h34 25 = mh_ur (mh_ur (mh_ur (mh_ur (mh_ur (mh_ur (mh_ur (mh_ur (mh_ur (mh_ur (mh_ur (fun _ => (0 : Int)) 0 (((26 : Nat) : Int) + 1)) 1 (((27 : Nat) : Int) + 1)) 2 (((28 : Nat) : Int) + 1)) 3 (((29 : Nat) : Int) + 1)) 4 (((30 : Nat) : Int) + 1)) 5 (((31 : Nat) : Int) + 1)) 9 (((32 : Nat) : Int) + 1)) 11 (((33 : Nat) : Int) + 1)) 12 (((38 : Nat) : Int) + 1)) 13 (((43 : Nat) : Int) + 1)) 15 1 := by rw [e34, mh_up_row (by decide)]; exact r25_33
        have r27_34 : h34 27 = fun _ => (0 : Int) := by rw [e34, mh_up_row (by decide)]; exact r27_33
        have r29_34 : h34 29 = mh_ur (mh_ur (mh_ur (fun _ => (0 : Int)) 0 1) 1 2) 2 3 := by rw [e34, mh_up_rs, r29_33] <;> rfl
        have r30_34 : h34 30 = mh_ur (mh_ur (fun _ => (0 : Int)) 0 9) 1 7 := by rw [e34, mh_up_row (by decide)]; exact r30_33
        have r31_34 : h34 31 = fun _ => (0 : Int) := by rw [e34, mh_up_row (by decide)]; exact r31_33
        have r32_34 : h34 32 = fun _ => (0 : Int) := by rw [e34, mh_up_row (by decide)]; exact r32_33
        have r33_34 : h34 33 = T33 := by rw [e34, mh_up_row (by decide)]; exact r33_33
        have r34_34 : h34 34 = T34 := by rw [e34, mh_up_row (by decide)]; exact r34_33
        have r38_34 : h34 38 = T38 := by rw [e34, mh_up_row (by decide)]; exact r38_33
        have r39_34 : h34 39 = T39 := by rw [e34, mh_up_row (by decide)]; exact r39_33
        have r26_34 : h34 26 = T26 := by rw [e34, mh_up_row (by decide)]; exact r26_33
        have r28_34 : h34 28 = T28 := by rw [e34, mh_up_row (by decide)]; exact r28_33
        have fr34 : mh_fr [43, 39, 40, 41, 42, 38, 34, 35, 36, 37, 33, 32, 31, 30, 29, 28, 27, 25, 26] h h34 := mh_fr.upi fr33 e34 (by simp)
        refine mh_aload0 (pc := 141) F dX10_init_141 ?_
        refine mh_getr (b := 30) (pc := 142) F sh_25 (by decide) fw_RX10_24_10 dX10_init_142 rfl (by rw [r25_34]; simp [mh_ur]) ?_
        refine mh_iload2 (pc := 145) F dX10_init_145 ?_
        refine mh_bipush (pc := 146) F dX10_init_146 rfl ?_
        refine mh_iconst (pc := 148) F dX10_init_148 ?_
        refine mh_iload2 (pc := 149) F dX10_init_149 ?_
        refine mh_imul (pc := 150) F dX10_init_150 ?_
        refine mh_top (y := 4) rfl ?_
        refine mh_isub (pc := 151) F dX10_init_151 ?_
        refine mh_top (y := 5) rfl ?_
        refine mh_iastore (pc := 152) F sh_30 (by decide) (by omega) dX10_init_152 ?_
        refine mh_nmh (fun h35 e35 => ?_)
        have r25_35 : h35 25 = mh_ur (mh_ur (mh_ur (mh_ur (mh_ur (mh_ur (mh_ur (mh_ur (mh_ur (mh_ur (mh_ur (fun _ => (0 : Int)) 0 (((26 : Nat) : Int) + 1)) 1 (((27 : Nat) : Int) + 1)) 2 (((28 : Nat) : Int) + 1)) 3 (((29 : Nat) : Int) + 1)) 4 (((30 : Nat) : Int) + 1)) 5 (((31 : Nat) : Int) + 1)) 9 (((32 : Nat) : Int) + 1)) 11 (((33 : Nat) : Int) + 1)) 12 (((38 : Nat) : Int) + 1)) 13 (((43 : Nat) : Int) + 1)) 15 1 := by rw [e35, mh_up_row (by decide)]; exact r25_34
        have r27_35 : h35 27 = fun _ => (0 : Int) := by rw [e35, mh_up_row (by decide)]; exact r27_34
        have r29_35 : h35 29 = mh_ur (mh_ur (mh_ur (fun _ => (0 : Int)) 0 1) 1 2) 2 3 := by rw [e35, mh_up_row (by decide)]; exact r29_34
        have r30_35 : h35 30 = mh_ur (mh_ur (mh_ur (fun _ => (0 : Int)) 0 9) 1 7) 2 5 := by rw [e35, mh_up_rs, r30_34] <;> rfl
        have r31_35 : h35 31 = fun _ => (0 : Int) := by rw [e35, mh_up_row (by decide)]; exact r31_34
        have r32_35 : h35 32 = fun _ => (0 : Int) := by rw [e35, mh_up_row (by decide)]; exact r32_34
        have r33_35 : h35 33 = T33 := by rw [e35, mh_up_row (by decide)]; exact r33_34
        have r34_35 : h35 34 = T34 := by rw [e35, mh_up_row (by decide)]; exact r34_34
        have r38_35 : h35 38 = T38 := by rw [e35, mh_up_row (by decide)]; exact r38_34
        have r39_35 : h35 39 = T39 := by rw [e35, mh_up_row (by decide)]; exact r39_34
        have r26_35 : h35 26 = T26 := by rw [e35, mh_up_row (by decide)]; exact r26_34
        have r28_35 : h35 28 = T28 := by rw [e35, mh_up_row (by decide)]; exact r28_34
        have fr35 : mh_fr [43, 39, 40, 41, 42, 38, 34, 35, 36, 37, 33, 32, 31, 30, 29, 28, 27, 25, 26] h h35 := mh_fr.upi fr34 e35 (by simp)
        refine mh_iinc2 (pc := 153) F dX10_init_153 rfl (by decide) ?_
        refine mh_goto (pc := 156) (tgt := 127) F dX10_init_156 rfl ?_
        refine mh_iload2 (pc := 127) F dX10_init_127 ?_
        refine mh_iconst (pc := 128) F dX10_init_128 ?_
        refine mh_icmp_ge (pc := 129) (tgt := 159) F dX10_init_129 rfl (by omega) (by omega) (fun c_129 => ?_) (fun c_129 => ?_)
        · exact absurd c_129 (by decide)
        · refine mh_aload0 (pc := 132) F dX10_init_132 ?_
          refine mh_getr (b := 29) (pc := 133) F sh_25 (by decide) fw_RX10_21_10 dX10_init_133 rfl (by rw [r25_35]; simp [mh_ur]) ?_
          refine mh_iload2 (pc := 136) F dX10_init_136 ?_
          refine mh_iload2 (pc := 137) F dX10_init_137 ?_
          refine mh_iconst (pc := 138) F dX10_init_138 ?_
          refine mh_iadd (pc := 139) F dX10_init_139 ?_
          refine mh_top (y := 4) rfl ?_
          refine mh_iastore (pc := 140) F sh_29 (by decide) (by omega) dX10_init_140 ?_
          refine mh_nmh (fun h36 e36 => ?_)
          have r25_36 : h36 25 = mh_ur (mh_ur (mh_ur (mh_ur (mh_ur (mh_ur (mh_ur (mh_ur (mh_ur (mh_ur (mh_ur (fun _ => (0 : Int)) 0 (((26 : Nat) : Int) + 1)) 1 (((27 : Nat) : Int) + 1)) 2 (((28 : Nat) : Int) + 1)) 3 (((29 : Nat) : Int) + 1)) 4 (((30 : Nat) : Int) + 1)) 5 (((31 : Nat) : Int) + 1)) 9 (((32 : Nat) : Int) + 1)) 11 (((33 : Nat) : Int) + 1)) 12 (((38 : Nat) : Int) + 1)) 13 (((43 : Nat) : Int) + 1)) 15 1 := by rw [e36, mh_up_row (by decide)]; exact r25_35
          have r27_36 : h36 27 = fun _ => (0 : Int) := by rw [e36, mh_up_row (by decide)]; exact r27_35
          have r29_36 : h36 29 = mh_ur (mh_ur (mh_ur (mh_ur (fun _ => (0 : Int)) 0 1) 1 2) 2 3) 3 4 := by rw [e36, mh_up_rs, r29_35] <;> rfl
          have r30_36 : h36 30 = mh_ur (mh_ur (mh_ur (fun _ => (0 : Int)) 0 9) 1 7) 2 5 := by rw [e36, mh_up_row (by decide)]; exact r30_35
          have r31_36 : h36 31 = fun _ => (0 : Int) := by rw [e36, mh_up_row (by decide)]; exact r31_35
          have r32_36 : h36 32 = fun _ => (0 : Int) := by rw [e36, mh_up_row (by decide)]; exact r32_35
          have r33_36 : h36 33 = T33 := by rw [e36, mh_up_row (by decide)]; exact r33_35
          have r34_36 : h36 34 = T34 := by rw [e36, mh_up_row (by decide)]; exact r34_35
          have r38_36 : h36 38 = T38 := by rw [e36, mh_up_row (by decide)]; exact r38_35
          have r39_36 : h36 39 = T39 := by rw [e36, mh_up_row (by decide)]; exact r39_35
          have r26_36 : h36 26 = T26 := by rw [e36, mh_up_row (by decide)]; exact r26_35
          have r28_36 : h36 28 = T28 := by rw [e36, mh_up_row (by decide)]; exact r28_35
          have fr36 : mh_fr [43, 39, 40, 41, 42, 38, 34, 35, 36, 37, 33, 32, 31, 30, 29, 28, 27, 25, 26] h h36 := mh_fr.upi fr35 e36 (by simp)
          refine mh_aload0 (pc := 141) F dX10_init_141 ?_
          refine mh_getr (b := 30) (pc := 142) F sh_25 (by decide) fw_RX10_24_10 dX10_init_142 rfl (by rw [r25_36]; simp [mh_ur]) ?_
          refine mh_iload2 (pc := 145) F dX10_init_145 ?_
          refine mh_bipush (pc := 146) F dX10_init_146 rfl ?_
          refine mh_iconst (pc := 148) F dX10_init_148 ?_
          refine mh_iload2 (pc := 149) F dX10_init_149 ?_
          refine mh_imul (pc := 150) F dX10_init_150 ?_
          refine mh_top (y := 6) rfl ?_
          refine mh_isub (pc := 151) F dX10_init_151 ?_
          refine mh_top (y := 3) rfl ?_
          refine mh_iastore (pc := 152) F sh_30 (by decide) (by omega) dX10_init_152 ?_
          refine mh_nmh (fun h37 e37 => ?_)
          have r25_37 : h37 25 = mh_ur (mh_ur (mh_ur (mh_ur (mh_ur (mh_ur (mh_ur (mh_ur (mh_ur (mh_ur (mh_ur (fun _ => (0 : Int)) 0 (((26 : Nat) : Int) + 1)) 1 (((27 : Nat) : Int) + 1)) 2 (((28 : Nat) : Int) + 1)) 3 (((29 : Nat) : Int) + 1)) 4 (((30 : Nat) : Int) + 1)) 5 (((31 : Nat) : Int) + 1)) 9 (((32 : Nat) : Int) + 1)) 11 (((33 : Nat) : Int) + 1)) 12 (((38 : Nat) : Int) + 1)) 13 (((43 : Nat) : Int) + 1)) 15 1 := by rw [e37, mh_up_row (by decide)]; exact r25_36
          have r27_37 : h37 27 = fun _ => (0 : Int) := by rw [e37, mh_up_row (by decide)]; exact r27_36
          have r29_37 : h37 29 = mh_ur (mh_ur (mh_ur (mh_ur (fun _ => (0 : Int)) 0 1) 1 2) 2 3) 3 4 := by rw [e37, mh_up_row (by decide)]; exact r29_36
          have r30_37 : h37 30 = mh_ur (mh_ur (mh_ur (mh_ur (fun _ => (0 : Int)) 0 9) 1 7) 2 5) 3 3 := by rw [e37, mh_up_rs, r30_36] <;> rfl
          have r31_37 : h37 31 = fun _ => (0 : Int) := by rw [e37, mh_up_row (by decide)]; exact r31_36
          have r32_37 : h37 32 = fun _ => (0 : Int) := by rw [e37, mh_up_row (by decide)]; exact r32_36
          have r33_37 : h37 33 = T33 := by rw [e37, mh_up_row (by decide)]; exact r33_36
          have r34_37 : h37 34 = T34 := by rw [e37, mh_up_row (by decide)]; exact r34_36
          have r38_37 : h37 38 = T38 := by rw [e37, mh_up_row (by decide)]; exact r38_36
          have r39_37 : h37 39 = T39 := by rw [e37, mh_up_row (by decide)]; exact r39_36
          have r26_37 : h37 26 = T26 := by rw [e37, mh_up_row (by decide)]; exact r26_36
          have r28_37 : h37 28 = T28 := by rw [e37, mh_up_row (by decide)]; exact r28_36
          have fr37 : mh_fr [43, 39, 40, 41, 42, 38, 34, 35, 36, 37, 33, 32, 31, 30, 29, 28, 27, 25, 26] h h37 := mh_fr.upi fr36 e37 (by simp)
          refine mh_iinc2 (pc := 153) F dX10_init_153 rfl (by decide) ?_
          refine mh_goto (pc := 156) (tgt := 127) F dX10_init_156 rfl ?_
          refine mh_iload2 (pc := 127) F dX10_init_127 ?_
          refine mh_iconst (pc := 128) F dX10_init_128 ?_
          refine mh_icmp_ge (pc := 129) (tgt := 159) F dX10_init_129 rfl (by omega) (by omega) (fun c_129 => ?_) (fun c_129 => ?_)
          · refine mh_iconst (pc := 159) F dX10_init_159 ?_
            refine mh_istore2 (pc := 160) F dX10_init_160 rfl (by decide) ?_
            refine mh_iload2 (pc := 161) F dX10_init_161 ?_
            refine mh_bipush (pc := 162) F dX10_init_162 rfl ?_
            refine mh_icmp_ge (pc := 164) (tgt := 188) F dX10_init_164 rfl (by omega) (by omega) (fun c_164 => ?_) (fun c_164 => ?_)
            · exact absurd c_164 (by decide)
            · refine mh_aload0 (pc := 167) F dX10_init_167 ?_
              refine mh_getr (b := 31) (pc := 168) F sh_25 (by decide) fw_RX10_29_10 dX10_init_168 rfl (by rw [r25_37]; simp [mh_ur]) ?_
              refine mh_iload2 (pc := 171) F dX10_init_171 ?_
              refine mh_new (ci := 0) (n1 := 45) (cl1 := 19) (sl1 := 461) (pc := 172) F sh_44 (by decide) tw_1_144 tw_2_114 tw_1_20 ⟨rfl, rfl, rfl⟩ (by rw [hR.1, hR.2]; exact ⟨Nat.le_of_ble_eq_true rfl, Nat.le_of_ble_eq_true rfl⟩) dX10_init_172 ?_
              refine mh_nmh (fun h38 e38 => ?_)
              have r25_38 : h38 25 = mh_ur (mh_ur (mh_ur (mh_ur (mh_ur (mh_ur (mh_ur (mh_ur (mh_ur (mh_ur (mh_ur (fun _ => (0 : Int)) 0 (((26 : Nat) : Int) + 1)) 1 (((27 : Nat) : Int) + 1)) 2 (((28 : Nat) : Int) + 1)) 3 (((29 : Nat) : Int) + 1)) 4 (((30 : Nat) : Int) + 1)) 5 (((31 : Nat) : Int) + 1)) 9 (((32 : Nat) : Int) + 1)) 11 (((33 : Nat) : Int) + 1)) 12 (((38 : Nat) : Int) + 1)) 13 (((43 : Nat) : Int) + 1)) 15 1 := by rw [e38, mh_zr_row (by decide)]; exact r25_37
              have r27_38 : h38 27 = fun _ => (0 : Int) := by rw [e38, mh_zr_row (by decide)]; exact r27_37
              have r29_38 : h38 29 = mh_ur (mh_ur (mh_ur (mh_ur (fun _ => (0 : Int)) 0 1) 1 2) 2 3) 3 4 := by rw [e38, mh_zr_row (by decide)]; exact r29_37
              have r30_38 : h38 30 = mh_ur (mh_ur (mh_ur (mh_ur (fun _ => (0 : Int)) 0 9) 1 7) 2 5) 3 3 := by rw [e38, mh_zr_row (by decide)]; exact r30_37
              have r31_38 : h38 31 = fun _ => (0 : Int) := by rw [e38, mh_zr_row (by decide)]; exact r31_37
              have r32_38 : h38 32 = fun _ => (0 : Int) := by rw [e38, mh_zr_row (by decide)]; exact r32_37
              have r33_38 : h38 33 = T33 := by rw [e38, mh_zr_row (by decide)]; exact r33_37
              have r34_38 : h38 34 = T34 := by rw [e38, mh_zr_row (by decide)]; exact r34_37
              have r38_38 : h38 38 = T38 := by rw [e38, mh_zr_row (by decide)]; exact r38_37
              have r39_38 : h38 39 = T39 := by rw [e38, mh_zr_row (by decide)]; exact r39_37
              have r26_38 : h38 26 = T26 := by rw [e38, mh_zr_row (by decide)]; exact r26_37
              have r28_38 : h38 28 = T28 := by rw [e38, mh_zr_row (by decide)]; exact r28_37
              have r44_38 : h38 44 = fun _ => (0 : Int) := by rw [e38]; exact mh_zr_rs
              have fr38 : mh_fr [44, 43, 39, 40, 41, 42, 38, 34, 35, 36, 37, 33, 32, 31, 30, 29, 28, 27, 25, 26] h h38 := mh_fr.zr fr37 e38
              refine mh_dup (pc := 175) F dX10_init_175 rfl ?_
              refine mh_iload2 (pc := 176) F dX10_init_176 ?_
              refine mh_aload1 (pc := 177) F dX10_init_177 ?_
              refine mh_callIx (pc := 178) (As := [.int (Int32.ofInt (0)), .ref 2]) (st := [.ref 44, .int (Int32.ofInt (0)), .ref 31]) (n1 := 45) (cl1 := 19) (sl1 := 461) F (by omega) (q44_churn (by omega) sh_44 (by decide)) ⟨rfl, rfl, rfl⟩ wi_RX10_70 dX10_init_178 rfl rfl (Nat.le_of_ble_eq_true rfl) (by rw [hR.1, hR.2]; exact ⟨Nat.le_of_ble_eq_true rfl, Nat.le_of_ble_eq_true rfl⟩) (fun r39 h39 q39 => ?_)
              obtain ⟨rfl, fr39, hc39⟩ := q39
              have r25_40 : h39 25 = mh_ur (mh_ur (mh_ur (mh_ur (mh_ur (mh_ur (mh_ur (mh_ur (mh_ur (mh_ur (mh_ur (fun _ => (0 : Int)) 0 (((26 : Nat) : Int) + 1)) 1 (((27 : Nat) : Int) + 1)) 2 (((28 : Nat) : Int) + 1)) 3 (((29 : Nat) : Int) + 1)) 4 (((30 : Nat) : Int) + 1)) 5 (((31 : Nat) : Int) + 1)) 9 (((32 : Nat) : Int) + 1)) 11 (((33 : Nat) : Int) + 1)) 12 (((38 : Nat) : Int) + 1)) 13 (((43 : Nat) : Int) + 1)) 15 1 := (fr39 _ (by decide)).trans r25_38
              have r27_40 : h39 27 = fun _ => (0 : Int) := (fr39 _ (by decide)).trans r27_38
              have r29_40 : h39 29 = mh_ur (mh_ur (mh_ur (mh_ur (fun _ => (0 : Int)) 0 1) 1 2) 2 3) 3 4 := (fr39 _ (by decide)).trans r29_38
              have r30_40 : h39 30 = mh_ur (mh_ur (mh_ur (mh_ur (fun _ => (0 : Int)) 0 9) 1 7) 2 5) 3 3 := (fr39 _ (by decide)).trans r30_38
              have r31_40 : h39 31 = fun _ => (0 : Int) := (fr39 _ (by decide)).trans r31_38
              have r32_40 : h39 32 = fun _ => (0 : Int) := (fr39 _ (by decide)).trans r32_38
              have r33_40 : h39 33 = T33 := (fr39 _ (by decide)).trans r33_38
              have r34_40 : h39 34 = T34 := (fr39 _ (by decide)).trans r34_38
              have r38_40 : h39 38 = T38 := (fr39 _ (by decide)).trans r38_38
              have r39_40 : h39 39 = T39 := (fr39 _ (by decide)).trans r39_38
              have r26_40 : h39 26 = T26 := (fr39 _ (by decide)).trans r26_38
              have r28_40 : h39 28 = T28 := (fr39 _ (by decide)).trans r28_38
              have fr40 : mh_fr [44, 43, 39, 40, 41, 42, 38, 34, 35, 36, 37, 33, 32, 31, 30, 29, 28, 27, 25, 26] h h39 := (mh_fr.tr fr38 fr39).mono (by simp)
              refine mh_aastore (pc := 181) F sh_31 sh_44 (by decide) rfl (by decide) (by decide) (by decide) (Or.inl rfl) dX10_init_181 ?_
              refine mh_nmh (fun h41 e41 => ?_)
              have r25_41 : h41 25 = mh_ur (mh_ur (mh_ur (mh_ur (mh_ur (mh_ur (mh_ur (mh_ur (mh_ur (mh_ur (mh_ur (fun _ => (0 : Int)) 0 (((26 : Nat) : Int) + 1)) 1 (((27 : Nat) : Int) + 1)) 2 (((28 : Nat) : Int) + 1)) 3 (((29 : Nat) : Int) + 1)) 4 (((30 : Nat) : Int) + 1)) 5 (((31 : Nat) : Int) + 1)) 9 (((32 : Nat) : Int) + 1)) 11 (((33 : Nat) : Int) + 1)) 12 (((38 : Nat) : Int) + 1)) 13 (((43 : Nat) : Int) + 1)) 15 1 := by rw [e41, mh_up_row (by decide)]; exact r25_40
              have r27_41 : h41 27 = fun _ => (0 : Int) := by rw [e41, mh_up_row (by decide)]; exact r27_40
              have r29_41 : h41 29 = mh_ur (mh_ur (mh_ur (mh_ur (fun _ => (0 : Int)) 0 1) 1 2) 2 3) 3 4 := by rw [e41, mh_up_row (by decide)]; exact r29_40
              have r30_41 : h41 30 = mh_ur (mh_ur (mh_ur (mh_ur (fun _ => (0 : Int)) 0 9) 1 7) 2 5) 3 3 := by rw [e41, mh_up_row (by decide)]; exact r30_40
              have r31_41 : h41 31 = mh_ur (fun _ => (0 : Int)) 0 (((44 : Nat) : Int) + 1) := by rw [e41, mh_up_rs, r31_40] <;> rfl
              have r32_41 : h41 32 = fun _ => (0 : Int) := by rw [e41, mh_up_row (by decide)]; exact r32_40
              have r33_41 : h41 33 = T33 := by rw [e41, mh_up_row (by decide)]; exact r33_40
              have r34_41 : h41 34 = T34 := by rw [e41, mh_up_row (by decide)]; exact r34_40
              have r38_41 : h41 38 = T38 := by rw [e41, mh_up_row (by decide)]; exact r38_40
              have r39_41 : h41 39 = T39 := by rw [e41, mh_up_row (by decide)]; exact r39_40
              have r26_41 : h41 26 = T26 := by rw [e41, mh_up_row (by decide)]; exact r26_40
              have r28_41 : h41 28 = T28 := by rw [e41, mh_up_row (by decide)]; exact r28_40
              have r44_41 : h41 44 = sc_c0 0 := by rw [e41, mh_up_row (by decide)]; exact (hc39.trans (by rw [r44_38]; rfl))
              have fr41 : mh_fr [44, 43, 39, 40, 41, 42, 38, 34, 35, 36, 37, 33, 32, 31, 30, 29, 28, 27, 25, 26] h h41 := mh_fr.upi fr40 e41 (by simp)
              refine mh_iinc2 (pc := 182) F dX10_init_182 rfl (by decide) ?_
              refine mh_goto (pc := 185) (tgt := 161) F dX10_init_185 rfl ?_
              refine mh_iload2 (pc := 161) F dX10_init_161 ?_
              refine mh_bipush (pc := 162) F dX10_init_162 rfl ?_
              refine mh_icmp_ge (pc := 164) (tgt := 188) F dX10_init_164 rfl (by omega) (by omega) (fun c_164 => ?_) (fun c_164 => ?_)
              · exact absurd c_164 (by decide)
              · refine mh_aload0 (pc := 167) F dX10_init_167 ?_
                refine mh_getr (b := 31) (pc := 168) F sh_25 (by decide) fw_RX10_29_10 dX10_init_168 rfl (by rw [r25_41]; simp [mh_ur]) ?_
                refine mh_iload2 (pc := 171) F dX10_init_171 ?_
                refine mh_new (ci := 0) (n1 := 46) (cl1 := 20) (sl1 := 471) (pc := 172) F sh_45 (by decide) tw_1_144 tw_2_114 tw_1_20 ⟨rfl, rfl, rfl⟩ (by rw [hR.1, hR.2]; exact ⟨Nat.le_of_ble_eq_true rfl, Nat.le_of_ble_eq_true rfl⟩) dX10_init_172 ?_
                refine mh_nmh (fun h42 e42 => ?_)
                have r25_42 : h42 25 = mh_ur (mh_ur (mh_ur (mh_ur (mh_ur (mh_ur (mh_ur (mh_ur (mh_ur (mh_ur (mh_ur (fun _ => (0 : Int)) 0 (((26 : Nat) : Int) + 1)) 1 (((27 : Nat) : Int) + 1)) 2 (((28 : Nat) : Int) + 1)) 3 (((29 : Nat) : Int) + 1)) 4 (((30 : Nat) : Int) + 1)) 5 (((31 : Nat) : Int) + 1)) 9 (((32 : Nat) : Int) + 1)) 11 (((33 : Nat) : Int) + 1)) 12 (((38 : Nat) : Int) + 1)) 13 (((43 : Nat) : Int) + 1)) 15 1 := by rw [e42, mh_zr_row (by decide)]; exact r25_41
                have r27_42 : h42 27 = fun _ => (0 : Int) := by rw [e42, mh_zr_row (by decide)]; exact r27_41
                have r29_42 : h42 29 = mh_ur (mh_ur (mh_ur (mh_ur (fun _ => (0 : Int)) 0 1) 1 2) 2 3) 3 4 := by rw [e42, mh_zr_row (by decide)]; exact r29_41
                have r30_42 : h42 30 = mh_ur (mh_ur (mh_ur (mh_ur (fun _ => (0 : Int)) 0 9) 1 7) 2 5) 3 3 := by rw [e42, mh_zr_row (by decide)]; exact r30_41
                have r31_42 : h42 31 = mh_ur (fun _ => (0 : Int)) 0 (((44 : Nat) : Int) + 1) := by rw [e42, mh_zr_row (by decide)]; exact r31_41
                have r32_42 : h42 32 = fun _ => (0 : Int) := by rw [e42, mh_zr_row (by decide)]; exact r32_41
                have r33_42 : h42 33 = T33 := by rw [e42, mh_zr_row (by decide)]; exact r33_41
                have r34_42 : h42 34 = T34 := by rw [e42, mh_zr_row (by decide)]; exact r34_41
                have r38_42 : h42 38 = T38 := by rw [e42, mh_zr_row (by decide)]; exact r38_41
                have r39_42 : h42 39 = T39 := by rw [e42, mh_zr_row (by decide)]; exact r39_41
                have r26_42 : h42 26 = T26 := by rw [e42, mh_zr_row (by decide)]; exact r26_41
                have r28_42 : h42 28 = T28 := by rw [e42, mh_zr_row (by decide)]; exact r28_41
                have r44_42 : h42 44 = sc_c0 0 := by rw [e42, mh_zr_row (by decide)]; exact r44_41
                have r45_42 : h42 45 = fun _ => (0 : Int) := by rw [e42]; exact mh_zr_rs
                have fr42 : mh_fr [45, 44, 43, 39, 40, 41, 42, 38, 34, 35, 36, 37, 33, 32, 31, 30, 29, 28, 27, 25, 26] h h42 := mh_fr.zr fr41 e42
                refine mh_dup (pc := 175) F dX10_init_175 rfl ?_
                refine mh_iload2 (pc := 176) F dX10_init_176 ?_
                refine mh_aload1 (pc := 177) F dX10_init_177 ?_
                refine mh_callIx (pc := 178) (As := [.int (Int32.ofInt (1)), .ref 2]) (st := [.ref 45, .int (Int32.ofInt (1)), .ref 31]) (n1 := 46) (cl1 := 20) (sl1 := 471) F (by omega) (q44_churn (by omega) sh_45 (by decide)) ⟨rfl, rfl, rfl⟩ wi_RX10_70 dX10_init_178 rfl rfl (Nat.le_of_ble_eq_true rfl) (by rw [hR.1, hR.2]; exact ⟨Nat.le_of_ble_eq_true rfl, Nat.le_of_ble_eq_true rfl⟩) (fun r43 h43 q43 => ?_)
                obtain ⟨rfl, fr43, hc43⟩ := q43
                have r25_44 : h43 25 = mh_ur (mh_ur (mh_ur (mh_ur (mh_ur (mh_ur (mh_ur (mh_ur (mh_ur (mh_ur (mh_ur (fun _ => (0 : Int)) 0 (((26 : Nat) : Int) + 1)) 1 (((27 : Nat) : Int) + 1)) 2 (((28 : Nat) : Int) + 1)) 3 (((29 : Nat) : Int) + 1)) 4 (((30 : Nat) : Int) + 1)) 5 (((31 : Nat) : Int) + 1)) 9 (((32 : Nat) : Int) + 1)) 11 (((33 : Nat) : Int) + 1)) 12 (((38 : Nat) : Int) + 1)) 13 (((43 : Nat) : Int) + 1)) 15 1 := (fr43 _ (by decide)).trans r25_42
                have r27_44 : h43 27 = fun _ => (0 : Int) := (fr43 _ (by decide)).trans r27_42
                have r29_44 : h43 29 = mh_ur (mh_ur (mh_ur (mh_ur (fun _ => (0 : Int)) 0 1) 1 2) 2 3) 3 4 := (fr43 _ (by decide)).trans r29_42
                have r30_44 : h43 30 = mh_ur (mh_ur (mh_ur (mh_ur (fun _ => (0 : Int)) 0 9) 1 7) 2 5) 3 3 := (fr43 _ (by decide)).trans r30_42
                have r31_44 : h43 31 = mh_ur (fun _ => (0 : Int)) 0 (((44 : Nat) : Int) + 1) := (fr43 _ (by decide)).trans r31_42
                have r32_44 : h43 32 = fun _ => (0 : Int) := (fr43 _ (by decide)).trans r32_42
                have r33_44 : h43 33 = T33 := (fr43 _ (by decide)).trans r33_42
                have r34_44 : h43 34 = T34 := (fr43 _ (by decide)).trans r34_42
                have r38_44 : h43 38 = T38 := (fr43 _ (by decide)).trans r38_42
                have r39_44 : h43 39 = T39 := (fr43 _ (by decide)).trans r39_42
                have r26_44 : h43 26 = T26 := (fr43 _ (by decide)).trans r26_42
                have r28_44 : h43 28 = T28 := (fr43 _ (by decide)).trans r28_42
                have r44_44 : h43 44 = sc_c0 0 := (fr43 _ (by decide)).trans r44_42
                have fr44 : mh_fr [45, 44, 43, 39, 40, 41, 42, 38, 34, 35, 36, 37, 33, 32, 31, 30, 29, 28, 27, 25, 26] h h43 := (mh_fr.tr fr42 fr43).mono (by simp)
                refine mh_aastore (pc := 181) F sh_31 sh_45 (by decide) rfl (by decide) (by decide) (by decide) (Or.inl rfl) dX10_init_181 ?_
                refine mh_nmh (fun h45 e45 => ?_)
                have r25_45 : h45 25 = mh_ur (mh_ur (mh_ur (mh_ur (mh_ur (mh_ur (mh_ur (mh_ur (mh_ur (mh_ur (mh_ur (fun _ => (0 : Int)) 0 (((26 : Nat) : Int) + 1)) 1 (((27 : Nat) : Int) + 1)) 2 (((28 : Nat) : Int) + 1)) 3 (((29 : Nat) : Int) + 1)) 4 (((30 : Nat) : Int) + 1)) 5 (((31 : Nat) : Int) + 1)) 9 (((32 : Nat) : Int) + 1)) 11 (((33 : Nat) : Int) + 1)) 12 (((38 : Nat) : Int) + 1)) 13 (((43 : Nat) : Int) + 1)) 15 1 := by rw [e45, mh_up_row (by decide)]; exact r25_44
                have r27_45 : h45 27 = fun _ => (0 : Int) := by rw [e45, mh_up_row (by decide)]; exact r27_44
                have r29_45 : h45 29 = mh_ur (mh_ur (mh_ur (mh_ur (fun _ => (0 : Int)) 0 1) 1 2) 2 3) 3 4 := by rw [e45, mh_up_row (by decide)]; exact r29_44
                have r30_45 : h45 30 = mh_ur (mh_ur (mh_ur (mh_ur (fun _ => (0 : Int)) 0 9) 1 7) 2 5) 3 3 := by rw [e45, mh_up_row (by decide)]; exact r30_44
                have r31_45 : h45 31 = mh_ur (mh_ur (fun _ => (0 : Int)) 0 (((44 : Nat) : Int) + 1)) 1 (((45 : Nat) : Int) + 1) := by rw [e45, mh_up_rs, r31_44] <;> rfl
                have r32_45 : h45 32 = fun _ => (0 : Int) := by rw [e45, mh_up_row (by decide)]; exact r32_44
                have r33_45 : h45 33 = T33 := by rw [e45, mh_up_row (by decide)]; exact r33_44
                have r34_45 : h45 34 = T34 := by rw [e45, mh_up_row (by decide)]; exact r34_44
                have r38_45 : h45 38 = T38 := by rw [e45, mh_up_row (by decide)]; exact r38_44
                have r39_45 : h45 39 = T39 := by rw [e45, mh_up_row (by decide)]; exact r39_44
                have r26_45 : h45 26 = T26 := by rw [e45, mh_up_row (by decide)]; exact r26_44
                have r28_45 : h45 28 = T28 := by rw [e45, mh_up_row (by decide)]; exact r28_44
                have r44_45 : h45 44 = sc_c0 0 := by rw [e45, mh_up_row (by decide)]; exact r44_44
                have r45_45 : h45 45 = sc_c0 1 := by rw [e45, mh_up_row (by decide)]; exact (hc43.trans (by rw [r45_42]; rfl))
                have fr45 : mh_fr [45, 44, 43, 39, 40, 41, 42, 38, 34, 35, 36, 37, 33, 32, 31, 30, 29, 28, 27, 25, 26] h h45 := mh_fr.upi fr44 e45 (by simp)
                refine mh_iinc2 (pc := 182) F dX10_init_182 rfl (by decide) ?_
                refine mh_goto (pc := 185) (tgt := 161) F dX10_init_185 rfl ?_
                refine mh_iload2 (pc := 161) F dX10_init_161 ?_
                refine mh_bipush (pc := 162) F dX10_init_162 rfl ?_
                refine mh_icmp_ge (pc := 164) (tgt := 188) F dX10_init_164 rfl (by omega) (by omega) (fun c_164 => ?_) (fun c_164 => ?_)
                · exact absurd c_164 (by decide)
                · refine mh_aload0 (pc := 167) F dX10_init_167 ?_
                  refine mh_getr (b := 31) (pc := 168) F sh_25 (by decide) fw_RX10_29_10 dX10_init_168 rfl (by rw [r25_45]; simp [mh_ur]) ?_
                  refine mh_iload2 (pc := 171) F dX10_init_171 ?_
                  refine mh_new (ci := 0) (n1 := 47) (cl1 := 21) (sl1 := 481) (pc := 172) F sh_46 (by decide) tw_1_144 tw_2_114 tw_1_20 ⟨rfl, rfl, rfl⟩ (by rw [hR.1, hR.2]; exact ⟨Nat.le_of_ble_eq_true rfl, Nat.le_of_ble_eq_true rfl⟩) dX10_init_172 ?_
                  refine mh_nmh (fun h46 e46 => ?_)
                  have r25_46 : h46 25 = mh_ur (mh_ur (mh_ur (mh_ur (mh_ur (mh_ur (mh_ur (mh_ur (mh_ur (mh_ur (mh_ur (fun _ => (0 : Int)) 0 (((26 : Nat) : Int) + 1)) 1 (((27 : Nat) : Int) + 1)) 2 (((28 : Nat) : Int) + 1)) 3 (((29 : Nat) : Int) + 1)) 4 (((30 : Nat) : Int) + 1)) 5 (((31 : Nat) : Int) + 1)) 9 (((32 : Nat) : Int) + 1)) 11 (((33 : Nat) : Int) + 1)) 12 (((38 : Nat) : Int) + 1)) 13 (((43 : Nat) : Int) + 1)) 15 1 := by rw [e46, mh_zr_row (by decide)]; exact r25_45
                  have r27_46 : h46 27 = fun _ => (0 : Int) := by rw [e46, mh_zr_row (by decide)]; exact r27_45
                  have r29_46 : h46 29 = mh_ur (mh_ur (mh_ur (mh_ur (fun _ => (0 : Int)) 0 1) 1 2) 2 3) 3 4 := by rw [e46, mh_zr_row (by decide)]; exact r29_45
                  have r30_46 : h46 30 = mh_ur (mh_ur (mh_ur (mh_ur (fun _ => (0 : Int)) 0 9) 1 7) 2 5) 3 3 := by rw [e46, mh_zr_row (by decide)]; exact r30_45
                  have r31_46 : h46 31 = mh_ur (mh_ur (fun _ => (0 : Int)) 0 (((44 : Nat) : Int) + 1)) 1 (((45 : Nat) : Int) + 1) := by rw [e46, mh_zr_row (by decide)]; exact r31_45
                  have r32_46 : h46 32 = fun _ => (0 : Int) := by rw [e46, mh_zr_row (by decide)]; exact r32_45
                  have r33_46 : h46 33 = T33 := by rw [e46, mh_zr_row (by decide)]; exact r33_45
                  have r34_46 : h46 34 = T34 := by rw [e46, mh_zr_row (by decide)]; exact r34_45
                  have r38_46 : h46 38 = T38 := by rw [e46, mh_zr_row (by decide)]; exact r38_45
                  have r39_46 : h46 39 = T39 := by rw [e46, mh_zr_row (by decide)]; exact r39_45
                  have r26_46 : h46 26 = T26 := by rw [e46, mh_zr_row (by decide)]; exact r26_45
                  have r28_46 : h46 28 = T28 := by rw [e46, mh_zr_row (by decide)]; exact r28_45
                  have r44_46 : h46 44 = sc_c0 0 := by rw [e46, mh_zr_row (by decide)]; exact r44_45
                  have r45_46 : h46 45 = sc_c0 1 := by rw [e46, mh_zr_row (by decide)]; exact r45_45
                  have r46_46 : h46 46 = fun _ => (0 : Int) := by rw [e46]; exact mh_zr_rs
                  have fr46 : mh_fr [46, 45, 44, 43, 39, 40, 41, 42, 38, 34, 35, 36, 37, 33, 32, 31, 30, 29, 28, 27, 25, 26] h h46 := mh_fr.zr fr45 e46
                  refine mh_dup (pc := 175) F dX10_init_175 rfl ?_
                  refine mh_iload2 (pc := 176) F dX10_init_176 ?_
                  refine mh_aload1 (pc := 177) F dX10_init_177 ?_
                  refine mh_callIx (pc := 178) (As := [.int (Int32.ofInt (2)), .ref 2]) (st := [.ref 46, .int (Int32.ofInt (2)), .ref 31]) (n1 := 47) (cl1 := 21) (sl1 := 481) F (by omega) (q44_churn (by omega) sh_46 (by decide)) ⟨rfl, rfl, rfl⟩ wi_RX10_70 dX10_init_178 rfl rfl (Nat.le_of_ble_eq_true rfl) (by rw [hR.1, hR.2]; exact ⟨Nat.le_of_ble_eq_true rfl, Nat.le_of_ble_eq_true rfl⟩) (fun r47 h47 q47 => ?_)
                  obtain ⟨rfl, fr47, hc47⟩ := q47
                  have r25_48 : h47 25 = mh_ur (mh_ur (mh_ur (mh_ur (mh_ur (mh_ur (mh_ur (mh_ur (mh_ur (mh_ur (mh_ur (fun _ => (0 : Int)) 0 (((26 : Nat) : Int) + 1)) 1 (((27 : Nat) : Int) + 1)) 2 (((28 : Nat) : Int) + 1)) 3 (((29 : Nat) : Int) + 1)) 4 (((30 : Nat) : Int) + 1)) 5 (((31 : Nat) : Int) + 1)) 9 (((32 : Nat) : Int) + 1)) 11 (((33 : Nat) : Int) + 1)) 12 (((38 : Nat) : Int) + 1)) 13 (((43 : Nat) : Int) + 1)) 15 1 := (fr47 _ (by decide)).trans r25_46
                  have r27_48 : h47 27 = fun _ => (0 : Int) := (fr47 _ (by decide)).trans r27_46
                  have r29_48 : h47 29 = mh_ur (mh_ur (mh_ur (mh_ur (fun _ => (0 : Int)) 0 1) 1 2) 2 3) 3 4 := (fr47 _ (by decide)).trans r29_46
                  have r30_48 : h47 30 = mh_ur (mh_ur (mh_ur (mh_ur (fun _ => (0 : Int)) 0 9) 1 7) 2 5) 3 3 := (fr47 _ (by decide)).trans r30_46
                  have r31_48 : h47 31 = mh_ur (mh_ur (fun _ => (0 : Int)) 0 (((44 : Nat) : Int) + 1)) 1 (((45 : Nat) : Int) + 1) := (fr47 _ (by decide)).trans r31_46
                  have r32_48 : h47 32 = fun _ => (0 : Int) := (fr47 _ (by decide)).trans r32_46
                  have r33_48 : h47 33 = T33 := (fr47 _ (by decide)).trans r33_46
                  have r34_48 : h47 34 = T34 := (fr47 _ (by decide)).trans r34_46
                  have r38_48 : h47 38 = T38 := (fr47 _ (by decide)).trans r38_46
                  have r39_48 : h47 39 = T39 := (fr47 _ (by decide)).trans r39_46
                  have r26_48 : h47 26 = T26 := (fr47 _ (by decide)).trans r26_46
                  have r28_48 : h47 28 = T28 := (fr47 _ (by decide)).trans r28_46
                  have r44_48 : h47 44 = sc_c0 0 := (fr47 _ (by decide)).trans r44_46
                  have r45_48 : h47 45 = sc_c0 1 := (fr47 _ (by decide)).trans r45_46
                  have fr48 : mh_fr [46, 45, 44, 43, 39, 40, 41, 42, 38, 34, 35, 36, 37, 33, 32, 31, 30, 29, 28, 27, 25, 26] h h47 := (mh_fr.tr fr46 fr47).mono (by simp)
                  refine mh_aastore (pc := 181) F sh_31 sh_46 (by decide) rfl (by decide) (by decide) (by decide) (Or.inl rfl) dX10_init_181 ?_
                  refine mh_nmh (fun h49 e49 => ?_)
                  have r25_49 : h49 25 = mh_ur (mh_ur (mh_ur (mh_ur (mh_ur (mh_ur (mh_ur (mh_ur (mh_ur (mh_ur (mh_ur (fun _ => (0 : Int)) 0 (((26 : Nat) : Int) + 1)) 1 (((27 : Nat) : Int) + 1)) 2 (((28 : Nat) : Int) + 1)) 3 (((29 : Nat) : Int) + 1)) 4 (((30 : Nat) : Int) + 1)) 5 (((31 : Nat) : Int) + 1)) 9 (((32 : Nat) : Int) + 1)) 11 (((33 : Nat) : Int) + 1)) 12 (((38 : Nat) : Int) + 1)) 13 (((43 : Nat) : Int) + 1)) 15 1 := by rw [e49, mh_up_row (by decide)]; exact r25_48
                  have r27_49 : h49 27 = fun _ => (0 : Int) := by rw [e49, mh_up_row (by decide)]; exact r27_48
                  have r29_49 : h49 29 = mh_ur (mh_ur (mh_ur (mh_ur (fun _ => (0 : Int)) 0 1) 1 2) 2 3) 3 4 := by rw [e49, mh_up_row (by decide)]; exact r29_48
                  have r30_49 : h49 30 = mh_ur (mh_ur (mh_ur (mh_ur (fun _ => (0 : Int)) 0 9) 1 7) 2 5) 3 3 := by rw [e49, mh_up_row (by decide)]; exact r30_48
                  have r31_49 : h49 31 = mh_ur (mh_ur (mh_ur (fun _ => (0 : Int)) 0 (((44 : Nat) : Int) + 1)) 1 (((45 : Nat) : Int) + 1)) 2 (((46 : Nat) : Int) + 1) := by rw [e49, mh_up_rs, r31_48] <;> rfl
                  have r32_49 : h49 32 = fun _ => (0 : Int) := by rw [e49, mh_up_row (by decide)]; exact r32_48
                  have r33_49 : h49 33 = T33 := by rw [e49, mh_up_row (by decide)]; exact r33_48
                  have r34_49 : h49 34 = T34 := by rw [e49, mh_up_row (by decide)]; exact r34_48
                  have r38_49 : h49 38 = T38 := by rw [e49, mh_up_row (by decide)]; exact r38_48
                  have r39_49 : h49 39 = T39 := by rw [e49, mh_up_row (by decide)]; exact r39_48
                  have r26_49 : h49 26 = T26 := by rw [e49, mh_up_row (by decide)]; exact r26_48
                  have r28_49 : h49 28 = T28 := by rw [e49, mh_up_row (by decide)]; exact r28_48
                  have r44_49 : h49 44 = sc_c0 0 := by rw [e49, mh_up_row (by decide)]; exact r44_48
                  have r45_49 : h49 45 = sc_c0 1 := by rw [e49, mh_up_row (by decide)]; exact r45_48
                  have r46_49 : h49 46 = sc_c0 2 := by rw [e49, mh_up_row (by decide)]; exact (hc47.trans (by rw [r46_46]; rfl))
                  have fr49 : mh_fr [46, 45, 44, 43, 39, 40, 41, 42, 38, 34, 35, 36, 37, 33, 32, 31, 30, 29, 28, 27, 25, 26] h h49 := mh_fr.upi fr48 e49 (by simp)
                  refine mh_iinc2 (pc := 182) F dX10_init_182 rfl (by decide) ?_
                  refine mh_goto (pc := 185) (tgt := 161) F dX10_init_185 rfl ?_
                  refine mh_iload2 (pc := 161) F dX10_init_161 ?_
                  refine mh_bipush (pc := 162) F dX10_init_162 rfl ?_
                  refine mh_icmp_ge (pc := 164) (tgt := 188) F dX10_init_164 rfl (by omega) (by omega) (fun c_164 => ?_) (fun c_164 => ?_)
                  · exact absurd c_164 (by decide)
                  · refine mh_aload0 (pc := 167) F dX10_init_167 ?_
                    refine mh_getr (b := 31) (pc := 168) F sh_25 (by decide) fw_RX10_29_10 dX10_init_168 rfl (by rw [r25_49]; simp [mh_ur]) ?_
                    refine mh_iload2 (pc := 171) F dX10_init_171 ?_
                    refine mh_new (ci := 0) (n1 := 48) (cl1 := 22) (sl1 := 491) (pc := 172) F sh_47 (by decide) tw_1_144 tw_2_114 tw_1_20 ⟨rfl, rfl, rfl⟩ (by rw [hR.1, hR.2]; exact ⟨Nat.le_of_ble_eq_true rfl, Nat.le_of_ble_eq_true rfl⟩) dX10_init_172 ?_
                    refine mh_nmh (fun h50 e50 => ?_)
                    have r25_50 : h50 25 = mh_ur (mh_ur (mh_ur (mh_ur (mh_ur (mh_ur (mh_ur (mh_ur (mh_ur (mh_ur (mh_ur (fun _ => (0 : Int)) 0 (((26 : Nat) : Int) + 1)) 1 (((27 : Nat) : Int) + 1)) 2 (((28 : Nat) : Int) + 1)) 3 (((29 : Nat) : Int) + 1)) 4 (((30 : Nat) : Int) + 1)) 5 (((31 : Nat) : Int) + 1)) 9 (((32 : Nat) : Int) + 1)) 11 (((33 : Nat) : Int) + 1)) 12 (((38 : Nat) : Int) + 1)) 13 (((43 : Nat) : Int) + 1)) 15 1 := by rw [e50, mh_zr_row (by decide)]; exact r25_49
                    have r27_50 : h50 27 = fun _ => (0 : Int) := by rw [e50, mh_zr_row (by decide)]; exact r27_49
                    have r29_50 : h50 29 = mh_ur (mh_ur (mh_ur (mh_ur (fun _ => (0 : Int)) 0 1) 1 2) 2 3) 3 4 := by rw [e50, mh_zr_row (by decide)]; exact r29_49
                    have r30_50 : h50 30 = mh_ur (mh_ur (mh_ur (mh_ur (fun _ => (0 : Int)) 0 9) 1 7) 2 5) 3 3 := by rw [e50, mh_zr_row (by decide)]; exact r30_49
                    have r31_50 : h50 31 = mh_ur (mh_ur (mh_ur (fun _ => (0 : Int)) 0 (((44 : Nat) : Int) + 1)) 1 (((45 : Nat) : Int) + 1)) 2 (((46 : Nat) : Int) + 1) := by rw [e50, mh_zr_row (by decide)]; exact r31_49
                    have r32_50 : h50 32 = fun _ => (0 : Int) := by rw [e50, mh_zr_row (by decide)]; exact r32_49
                    have r33_50 : h50 33 = T33 := by rw [e50, mh_zr_row (by decide)]; exact r33_49
                    have r34_50 : h50 34 = T34 := by rw [e50, mh_zr_row (by decide)]; exact r34_49
                    have r38_50 : h50 38 = T38 := by rw [e50, mh_zr_row (by decide)]; exact r38_49
                    have r39_50 : h50 39 = T39 := by rw [e50, mh_zr_row (by decide)]; exact r39_49
                    have r26_50 : h50 26 = T26 := by rw [e50, mh_zr_row (by decide)]; exact r26_49
                    have r28_50 : h50 28 = T28 := by rw [e50, mh_zr_row (by decide)]; exact r28_49
                    have r44_50 : h50 44 = sc_c0 0 := by rw [e50, mh_zr_row (by decide)]; exact r44_49
                    have r45_50 : h50 45 = sc_c0 1 := by rw [e50, mh_zr_row (by decide)]; exact r45_49
                    have r46_50 : h50 46 = sc_c0 2 := by rw [e50, mh_zr_row (by decide)]; exact r46_49
                    have r47_50 : h50 47 = fun _ => (0 : Int) := by rw [e50]; exact mh_zr_rs
                    have fr50 : mh_fr [47, 46, 45, 44, 43, 39, 40, 41, 42, 38, 34, 35, 36, 37, 33, 32, 31, 30, 29, 28, 27, 25, 26] h h50 := mh_fr.zr fr49 e50
                    refine mh_dup (pc := 175) F dX10_init_175 rfl ?_
                    refine mh_iload2 (pc := 176) F dX10_init_176 ?_
                    refine mh_aload1 (pc := 177) F dX10_init_177 ?_
                    refine mh_callIx (pc := 178) (As := [.int (Int32.ofInt (3)), .ref 2]) (st := [.ref 47, .int (Int32.ofInt (3)), .ref 31]) (n1 := 48) (cl1 := 22) (sl1 := 491) F (by omega) (q44_churn (by omega) sh_47 (by decide)) ⟨rfl, rfl, rfl⟩ wi_RX10_70 dX10_init_178 rfl rfl (Nat.le_of_ble_eq_true rfl) (by rw [hR.1, hR.2]; exact ⟨Nat.le_of_ble_eq_true rfl, Nat.le_of_ble_eq_true rfl⟩) (fun r51 h51 q51 => ?_)
                    obtain ⟨rfl, fr51, hc51⟩ := q51
                    have r25_52 : h51 25 = mh_ur (mh_ur (mh_ur (mh_ur (mh_ur (mh_ur (mh_ur (mh_ur (mh_ur (mh_ur (mh_ur (fun _ => (0 : Int)) 0 (((26 : Nat) : Int) + 1)) 1 (((27 : Nat) : Int) + 1)) 2 (((28 : Nat) : Int) + 1)) 3 (((29 : Nat) : Int) + 1)) 4 (((30 : Nat) : Int) + 1)) 5 (((31 : Nat) : Int) + 1)) 9 (((32 : Nat) : Int) + 1)) 11 (((33 : Nat) : Int) + 1)) 12 (((38 : Nat) : Int) + 1)) 13 (((43 : Nat) : Int) + 1)) 15 1 := (fr51 _ (by decide)).trans r25_50
                    have r27_52 : h51 27 = fun _ => (0 : Int) := (fr51 _ (by decide)).trans r27_50
                    have r29_52 : h51 29 = mh_ur (mh_ur (mh_ur (mh_ur (fun _ => (0 : Int)) 0 1) 1 2) 2 3) 3 4 := (fr51 _ (by decide)).trans r29_50
                    have r30_52 : h51 30 = mh_ur (mh_ur (mh_ur (mh_ur (fun _ => (0 : Int)) 0 9) 1 7) 2 5) 3 3 := (fr51 _ (by decide)).trans r30_50
                    have r31_52 : h51 31 = mh_ur (mh_ur (mh_ur (fun _ => (0 : Int)) 0 (((44 : Nat) : Int) + 1)) 1 (((45 : Nat) : Int) + 1)) 2 (((46 : Nat) : Int) + 1) := (fr51 _ (by decide)).trans r31_50
                    have r32_52 : h51 32 = fun _ => (0 : Int) := (fr51 _ (by decide)).trans r32_50
                    have r33_52 : h51 33 = T33 := (fr51 _ (by decide)).trans r33_50
                    have r34_52 : h51 34 = T34 := (fr51 _ (by decide)).trans r34_50
                    have r38_52 : h51 38 = T38 := (fr51 _ (by decide)).trans r38_50
                    have r39_52 : h51 39 = T39 := (fr51 _ (by decide)).trans r39_50
                    have r26_52 : h51 26 = T26 := (fr51 _ (by decide)).trans r26_50
                    have r28_52 : h51 28 = T28 := (fr51 _ (by decide)).trans r28_50
                    have r44_52 : h51 44 = sc_c0 0 := (fr51 _ (by decide)).trans r44_50
                    have r45_52 : h51 45 = sc_c0 1 := (fr51 _ (by decide)).trans r45_50
                    have r46_52 : h51 46 = sc_c0 2 := (fr51 _ (by decide)).trans r46_50
                    have fr52 : mh_fr [47, 46, 45, 44, 43, 39, 40, 41, 42, 38, 34, 35, 36, 37, 33, 32, 31, 30, 29, 28, 27, 25, 26] h h51 := (mh_fr.tr fr50 fr51).mono (by simp)
                    refine mh_aastore (pc := 181) F sh_31 sh_47 (by decide) rfl (by decide) (by decide) (by decide) (Or.inl rfl) dX10_init_181 ?_
                    refine mh_nmh (fun h53 e53 => ?_)
                    have r25_53 : h53 25 = mh_ur (mh_ur (mh_ur (mh_ur (mh_ur (mh_ur (mh_ur (mh_ur (mh_ur (mh_ur (mh_ur (fun _ => (0 : Int)) 0 (((26 : Nat) : Int) + 1)) 1 (((27 : Nat) : Int) + 1)) 2 (((28 : Nat) : Int) + 1)) 3 (((29 : Nat) : Int) + 1)) 4 (((30 : Nat) : Int) + 1)) 5 (((31 : Nat) : Int) + 1)) 9 (((32 : Nat) : Int) + 1)) 11 (((33 : Nat) : Int) + 1)) 12 (((38 : Nat) : Int) + 1)) 13 (((43 : Nat) : Int) + 1)) 15 1 := by rw [e53, mh_up_row (by decide)]; exact r25_52
                    have r27_53 : h53 27 = fun _ => (0 : Int) := by rw [e53, mh_up_row (by decide)]; exact r27_52
                    have r29_53 : h53 29 = mh_ur (mh_ur (mh_ur (mh_ur (fun _ => (0 : Int)) 0 1) 1 2) 2 3) 3 4 := by rw [e53, mh_up_row (by decide)]; exact r29_52
                    have r30_53 : h53 30 = mh_ur (mh_ur (mh_ur (mh_ur (fun _ => (0 : Int)) 0 9) 1 7) 2 5) 3 3 := by rw [e53, mh_up_row (by decide)]; exact r30_52
                    have r31_53 : h53 31 = mh_ur (mh_ur (mh_ur (mh_ur (fun _ => (0 : Int)) 0 (((44 : Nat) : Int) + 1)) 1 (((45 : Nat) : Int) + 1)) 2 (((46 : Nat) : Int) + 1)) 3 (((47 : Nat) : Int) + 1) := by rw [e53, mh_up_rs, r31_52] <;> rfl
                    have r32_53 : h53 32 = fun _ => (0 : Int) := by rw [e53, mh_up_row (by decide)]; exact r32_52
                    have r33_53 : h53 33 = T33 := by rw [e53, mh_up_row (by decide)]; exact r33_52
                    have r34_53 : h53 34 = T34 := by rw [e53, mh_up_row (by decide)]; exact r34_52
                    have r38_53 : h53 38 = T38 := by rw [e53, mh_up_row (by decide)]; exact r38_52
                    have r39_53 : h53 39 = T39 := by rw [e53, mh_up_row (by decide)]; exact r39_52
                    have r26_53 : h53 26 = T26 := by rw [e53, mh_up_row (by decide)]; exact r26_52
                    have r28_53 : h53 28 = T28 := by rw [e53, mh_up_row (by decide)]; exact r28_52
                    have r44_53 : h53 44 = sc_c0 0 := by rw [e53, mh_up_row (by decide)]; exact r44_52
                    have r45_53 : h53 45 = sc_c0 1 := by rw [e53, mh_up_row (by decide)]; exact r45_52
                    have r46_53 : h53 46 = sc_c0 2 := by rw [e53, mh_up_row (by decide)]; exact r46_52
                    have r47_53 : h53 47 = sc_c0 3 := by rw [e53, mh_up_row (by decide)]; exact (hc51.trans (by rw [r47_50]; rfl))
                    have fr53 : mh_fr [47, 46, 45, 44, 43, 39, 40, 41, 42, 38, 34, 35, 36, 37, 33, 32, 31, 30, 29, 28, 27, 25, 26] h h53 := mh_fr.upi fr52 e53 (by simp)
                    refine mh_iinc2 (pc := 182) F dX10_init_182 rfl (by decide) ?_
                    refine mh_goto (pc := 185) (tgt := 161) F dX10_init_185 rfl ?_
                    refine mh_iload2 (pc := 161) F dX10_init_161 ?_
                    refine mh_bipush (pc := 162) F dX10_init_162 rfl ?_
                    refine mh_icmp_ge (pc := 164) (tgt := 188) F dX10_init_164 rfl (by omega) (by omega) (fun c_164 => ?_) (fun c_164 => ?_)
                    · exact absurd c_164 (by decide)
                    · refine mh_aload0 (pc := 167) F dX10_init_167 ?_
                      refine mh_getr (b := 31) (pc := 168) F sh_25 (by decide) fw_RX10_29_10 dX10_init_168 rfl (by rw [r25_53]; simp [mh_ur]) ?_
                      refine mh_iload2 (pc := 171) F dX10_init_171 ?_
                      refine mh_new (ci := 0) (n1 := 49) (cl1 := 23) (sl1 := 501) (pc := 172) F sh_48 (by decide) tw_1_144 tw_2_114 tw_1_20 ⟨rfl, rfl, rfl⟩ (by rw [hR.1, hR.2]; exact ⟨Nat.le_of_ble_eq_true rfl, Nat.le_of_ble_eq_true rfl⟩) dX10_init_172 ?_
                      refine mh_nmh (fun h54 e54 => ?_)
                      have r25_54 : h54 25 = mh_ur (mh_ur (mh_ur (mh_ur (mh_ur (mh_ur (mh_ur (mh_ur (mh_ur (mh_ur (mh_ur (fun _ => (0 : Int)) 0 (((26 : Nat) : Int) + 1)) 1 (((27 : Nat) : Int) + 1)) 2 (((28 : Nat) : Int) + 1)) 3 (((29 : Nat) : Int) + 1)) 4 (((30 : Nat) : Int) + 1)) 5 (((31 : Nat) : Int) + 1)) 9 (((32 : Nat) : Int) + 1)) 11 (((33 : Nat) : Int) + 1)) 12 (((38 : Nat) : Int) + 1)) 13 (((43 : Nat) : Int) + 1)) 15 1 := by rw [e54, mh_zr_row (by decide)]; exact r25_53
                      have r27_54 : h54 27 = fun _ => (0 : Int) := by rw [e54, mh_zr_row (by decide)]; exact r27_53
                      have r29_54 : h54 29 = mh_ur (mh_ur (mh_ur (mh_ur (fun _ => (0 : Int)) 0 1) 1 2) 2 3) 3 4 := by rw [e54, mh_zr_row (by decide)]; exact r29_53
                      have r30_54 : h54 30 = mh_ur (mh_ur (mh_ur (mh_ur (fun _ => (0 : Int)) 0 9) 1 7) 2 5) 3 3 := by rw [e54, mh_zr_row (by decide)]; exact r30_53
                      have r31_54 : h54 31 = mh_ur (mh_ur (mh_ur (mh_ur (fun _ => (0 : Int)) 0 (((44 : Nat) : Int) + 1)) 1 (((45 : Nat) : Int) + 1)) 2 (((46 : Nat) : Int) + 1)) 3 (((47 : Nat) : Int) + 1) := by rw [e54, mh_zr_row (by decide)]; exact r31_53
                      have r32_54 : h54 32 = fun _ => (0 : Int) := by rw [e54, mh_zr_row (by decide)]; exact r32_53
                      have r33_54 : h54 33 = T33 := by rw [e54, mh_zr_row (by decide)]; exact r33_53
                      have r34_54 : h54 34 = T34 := by rw [e54, mh_zr_row (by decide)]; exact r34_53
                      have r38_54 : h54 38 = T38 := by rw [e54, mh_zr_row (by decide)]; exact r38_53
                      have r39_54 : h54 39 = T39 := by rw [e54, mh_zr_row (by decide)]; exact r39_53
                      have r26_54 : h54 26 = T26 := by rw [e54, mh_zr_row (by decide)]; exact r26_53
                      have r28_54 : h54 28 = T28 := by rw [e54, mh_zr_row (by decide)]; exact r28_53
                      have r44_54 : h54 44 = sc_c0 0 := by rw [e54, mh_zr_row (by decide)]; exact r44_53
                      have r45_54 : h54 45 = sc_c0 1 := by rw [e54, mh_zr_row (by decide)]; exact r45_53
                      have r46_54 : h54 46 = sc_c0 2 := by rw [e54, mh_zr_row (by decide)]; exact r46_53
                      have r47_54 : h54 47 = sc_c0 3 := by rw [e54, mh_zr_row (by decide)]; exact r47_53
                      have r48_54 : h54 48 = fun _ => (0 : Int) := by rw [e54]; exact mh_zr_rs
                      have fr54 : mh_fr [48, 47, 46, 45, 44, 43, 39, 40, 41, 42, 38, 34, 35, 36, 37, 33, 32, 31, 30, 29, 28, 27, 25, 26] h h54 := mh_fr.zr fr53 e54
                      refine mh_dup (pc := 175) F dX10_init_175 rfl ?_
                      refine mh_iload2 (pc := 176) F dX10_init_176 ?_
                      refine mh_aload1 (pc := 177) F dX10_init_177 ?_
                      refine mh_callIx (pc := 178) (As := [.int (Int32.ofInt (4)), .ref 2]) (st := [.ref 48, .int (Int32.ofInt (4)), .ref 31]) (n1 := 49) (cl1 := 23) (sl1 := 501) F (by omega) (q44_churn (by omega) sh_48 (by decide)) ⟨rfl, rfl, rfl⟩ wi_RX10_70 dX10_init_178 rfl rfl (Nat.le_of_ble_eq_true rfl) (by rw [hR.1, hR.2]; exact ⟨Nat.le_of_ble_eq_true rfl, Nat.le_of_ble_eq_true rfl⟩) (fun r55 h55 q55 => ?_)
                      obtain ⟨rfl, fr55, hc55⟩ := q55
                      have r25_56 : h55 25 = mh_ur (mh_ur (mh_ur (mh_ur (mh_ur (mh_ur (mh_ur (mh_ur (mh_ur (mh_ur (mh_ur (fun _ => (0 : Int)) 0 (((26 : Nat) : Int) + 1)) 1 (((27 : Nat) : Int) + 1)) 2 (((28 : Nat) : Int) + 1)) 3 (((29 : Nat) : Int) + 1)) 4 (((30 : Nat) : Int) + 1)) 5 (((31 : Nat) : Int) + 1)) 9 (((32 : Nat) : Int) + 1)) 11 (((33 : Nat) : Int) + 1)) 12 (((38 : Nat) : Int) + 1)) 13 (((43 : Nat) : Int) + 1)) 15 1 := (fr55 _ (by decide)).trans r25_54
                      have r27_56 : h55 27 = fun _ => (0 : Int) := (fr55 _ (by decide)).trans r27_54
                      have r29_56 : h55 29 = mh_ur (mh_ur (mh_ur (mh_ur (fun _ => (0 : Int)) 0 1) 1 2) 2 3) 3 4 := (fr55 _ (by decide)).trans r29_54
                      have r30_56 : h55 30 = mh_ur (mh_ur (mh_ur (mh_ur (fun _ => (0 : Int)) 0 9) 1 7) 2 5) 3 3 := (fr55 _ (by decide)).trans r30_54
                      have r31_56 : h55 31 = mh_ur (mh_ur (mh_ur (mh_ur (fun _ => (0 : Int)) 0 (((44 : Nat) : Int) + 1)) 1 (((45 : Nat) : Int) + 1)) 2 (((46 : Nat) : Int) + 1)) 3 (((47 : Nat) : Int) + 1) := (fr55 _ (by decide)).trans r31_54
                      have r32_56 : h55 32 = fun _ => (0 : Int) := (fr55 _ (by decide)).trans r32_54
                      have r33_56 : h55 33 = T33 := (fr55 _ (by decide)).trans r33_54
                      have r34_56 : h55 34 = T34 := (fr55 _ (by decide)).trans r34_54
                      have r38_56 : h55 38 = T38 := (fr55 _ (by decide)).trans r38_54
                      have r39_56 : h55 39 = T39 := (fr55 _ (by decide)).trans r39_54
                      have r26_56 : h55 26 = T26 := (fr55 _ (by decide)).trans r26_54
                      have r28_56 : h55 28 = T28 := (fr55 _ (by decide)).trans r28_54
                      have r44_56 : h55 44 = sc_c0 0 := (fr55 _ (by decide)).trans r44_54
                      have r45_56 : h55 45 = sc_c0 1 := (fr55 _ (by decide)).trans r45_54
                      have r46_56 : h55 46 = sc_c0 2 := (fr55 _ (by decide)).trans r46_54
                      have r47_56 : h55 47 = sc_c0 3 := (fr55 _ (by decide)).trans r47_54
                      have fr56 : mh_fr [48, 47, 46, 45, 44, 43, 39, 40, 41, 42, 38, 34, 35, 36, 37, 33, 32, 31, 30, 29, 28, 27, 25, 26] h h55 := (mh_fr.tr fr54 fr55).mono (by simp)
                      refine mh_aastore (pc := 181) F sh_31 sh_48 (by decide) rfl (by decide) (by decide) (by decide) (Or.inl rfl) dX10_init_181 ?_
                      refine mh_nmh (fun h57 e57 => ?_)
                      have r25_57 : h57 25 = mh_ur (mh_ur (mh_ur (mh_ur (mh_ur (mh_ur (mh_ur (mh_ur (mh_ur (mh_ur (mh_ur (fun _ => (0 : Int)) 0 (((26 : Nat) : Int) + 1)) 1 (((27 : Nat) : Int) + 1)) 2 (((28 : Nat) : Int) + 1)) 3 (((29 : Nat) : Int) + 1)) 4 (((30 : Nat) : Int) + 1)) 5 (((31 : Nat) : Int) + 1)) 9 (((32 : Nat) : Int) + 1)) 11 (((33 : Nat) : Int) + 1)) 12 (((38 : Nat) : Int) + 1)) 13 (((43 : Nat) : Int) + 1)) 15 1 := by rw [e57, mh_up_row (by decide)]; exact r25_56
                      have r27_57 : h57 27 = fun _ => (0 : Int) := by rw [e57, mh_up_row (by decide)]; exact r27_56
                      have r29_57 : h57 29 = mh_ur (mh_ur (mh_ur (mh_ur (fun _ => (0 : Int)) 0 1) 1 2) 2 3) 3 4 := by rw [e57, mh_up_row (by decide)]; exact r29_56
                      have r30_57 : h57 30 = mh_ur (mh_ur (mh_ur (mh_ur (fun _ => (0 : Int)) 0 9) 1 7) 2 5) 3 3 := by rw [e57, mh_up_row (by decide)]; exact r30_56
                      have r31_57 : h57 31 = mh_ur (mh_ur (mh_ur (mh_ur (mh_ur (fun _ => (0 : Int)) 0 (((44 : Nat) : Int) + 1)) 1 (((45 : Nat) : Int) + 1)) 2 (((46 : Nat) : Int) + 1)) 3 (((47 : Nat) : Int) + 1)) 4 (((48 : Nat) : Int) + 1) := by rw [e57, mh_up_rs, r31_56] <;> rfl
                      have r32_57 : h57 32 = fun _ => (0 : Int) := by rw [e57, mh_up_row (by decide)]; exact r32_56
                      have r33_57 : h57 33 = T33 := by rw [e57, mh_up_row (by decide)]; exact r33_56
                      have r34_57 : h57 34 = T34 := by rw [e57, mh_up_row (by decide)]; exact r34_56
                      have r38_57 : h57 38 = T38 := by rw [e57, mh_up_row (by decide)]; exact r38_56
                      have r39_57 : h57 39 = T39 := by rw [e57, mh_up_row (by decide)]; exact r39_56
                      have r26_57 : h57 26 = T26 := by rw [e57, mh_up_row (by decide)]; exact r26_56
                      have r28_57 : h57 28 = T28 := by rw [e57, mh_up_row (by decide)]; exact r28_56
                      have r44_57 : h57 44 = sc_c0 0 := by rw [e57, mh_up_row (by decide)]; exact r44_56
                      have r45_57 : h57 45 = sc_c0 1 := by rw [e57, mh_up_row (by decide)]; exact r45_56
                      have r46_57 : h57 46 = sc_c0 2 := by rw [e57, mh_up_row (by decide)]; exact r46_56
                      have r47_57 : h57 47 = sc_c0 3 := by rw [e57, mh_up_row (by decide)]; exact r47_56
                      have r48_57 : h57 48 = sc_c0 4 := by rw [e57, mh_up_row (by decide)]; exact (hc55.trans (by rw [r48_54]; rfl))
                      have fr57 : mh_fr [48, 47, 46, 45, 44, 43, 39, 40, 41, 42, 38, 34, 35, 36, 37, 33, 32, 31, 30, 29, 28, 27, 25, 26] h h57 := mh_fr.upi fr56 e57 (by simp)
                      refine mh_iinc2 (pc := 182) F dX10_init_182 rfl (by decide) ?_
                      refine mh_goto (pc := 185) (tgt := 161) F dX10_init_185 rfl ?_
                      refine mh_iload2 (pc := 161) F dX10_init_161 ?_
                      refine mh_bipush (pc := 162) F dX10_init_162 rfl ?_
                      refine mh_icmp_ge (pc := 164) (tgt := 188) F dX10_init_164 rfl (by omega) (by omega) (fun c_164 => ?_) (fun c_164 => ?_)
                      · exact absurd c_164 (by decide)
                      · refine mh_aload0 (pc := 167) F dX10_init_167 ?_
                        refine mh_getr (b := 31) (pc := 168) F sh_25 (by decide) fw_RX10_29_10 dX10_init_168 rfl (by rw [r25_57]; simp [mh_ur]) ?_
                        refine mh_iload2 (pc := 171) F dX10_init_171 ?_
                        refine mh_new (ci := 0) (n1 := 50) (cl1 := 24) (sl1 := 511) (pc := 172) F sh_49 (by decide) tw_1_144 tw_2_114 tw_1_20 ⟨rfl, rfl, rfl⟩ (by rw [hR.1, hR.2]; exact ⟨Nat.le_of_ble_eq_true rfl, Nat.le_of_ble_eq_true rfl⟩) dX10_init_172 ?_
                        refine mh_nmh (fun h58 e58 => ?_)
                        have r25_58 : h58 25 = mh_ur (mh_ur (mh_ur (mh_ur (mh_ur (mh_ur (mh_ur (mh_ur (mh_ur (mh_ur (mh_ur (fun _ => (0 : Int)) 0 (((26 : Nat) : Int) + 1)) 1 (((27 : Nat) : Int) + 1)) 2 (((28 : Nat) : Int) + 1)) 3 (((29 : Nat) : Int) + 1)) 4 (((30 : Nat) : Int) + 1)) 5 (((31 : Nat) : Int) + 1)) 9 (((32 : Nat) : Int) + 1)) 11 (((33 : Nat) : Int) + 1)) 12 (((38 : Nat) : Int) + 1)) 13 (((43 : Nat) : Int) + 1)) 15 1 := by rw [e58, mh_zr_row (by decide)]; exact r25_57
                        have r27_58 : h58 27 = fun _ => (0 : Int) := by rw [e58, mh_zr_row (by decide)]; exact r27_57
                        have r29_58 : h58 29 = mh_ur (mh_ur (mh_ur (mh_ur (fun _ => (0 : Int)) 0 1) 1 2) 2 3) 3 4 := by rw [e58, mh_zr_row (by decide)]; exact r29_57
                        have r30_58 : h58 30 = mh_ur (mh_ur (mh_ur (mh_ur (fun _ => (0 : Int)) 0 9) 1 7) 2 5) 3 3 := by rw [e58, mh_zr_row (by decide)]; exact r30_57
                        have r31_58 : h58 31 = mh_ur (mh_ur (mh_ur (mh_ur (mh_ur (fun _ => (0 : Int)) 0 (((44 : Nat) : Int) + 1)) 1 (((45 : Nat) : Int) + 1)) 2 (((46 : Nat) : Int) + 1)) 3 (((47 : Nat) : Int) + 1)) 4 (((48 : Nat) : Int) + 1) := by rw [e58, mh_zr_row (by decide)]; exact r31_57
                        have r32_58 : h58 32 = fun _ => (0 : Int) := by rw [e58, mh_zr_row (by decide)]; exact r32_57
                        have r33_58 : h58 33 = T33 := by rw [e58, mh_zr_row (by decide)]; exact r33_57
                        have r34_58 : h58 34 = T34 := by rw [e58, mh_zr_row (by decide)]; exact r34_57
                        have r38_58 : h58 38 = T38 := by rw [e58, mh_zr_row (by decide)]; exact r38_57
                        have r39_58 : h58 39 = T39 := by rw [e58, mh_zr_row (by decide)]; exact r39_57
                        have r26_58 : h58 26 = T26 := by rw [e58, mh_zr_row (by decide)]; exact r26_57
                        have r28_58 : h58 28 = T28 := by rw [e58, mh_zr_row (by decide)]; exact r28_57
                        have r44_58 : h58 44 = sc_c0 0 := by rw [e58, mh_zr_row (by decide)]; exact r44_57
                        have r45_58 : h58 45 = sc_c0 1 := by rw [e58, mh_zr_row (by decide)]; exact r45_57
                        have r46_58 : h58 46 = sc_c0 2 := by rw [e58, mh_zr_row (by decide)]; exact r46_57
                        have r47_58 : h58 47 = sc_c0 3 := by rw [e58, mh_zr_row (by decide)]; exact r47_57
                        have r48_58 : h58 48 = sc_c0 4 := by rw [e58, mh_zr_row (by decide)]; exact r48_57
                        have r49_58 : h58 49 = fun _ => (0 : Int) := by rw [e58]; exact mh_zr_rs
                        have fr58 : mh_fr [49, 48, 47, 46, 45, 44, 43, 39, 40, 41, 42, 38, 34, 35, 36, 37, 33, 32, 31, 30, 29, 28, 27, 25, 26] h h58 := mh_fr.zr fr57 e58
                        refine mh_dup (pc := 175) F dX10_init_175 rfl ?_
                        refine mh_iload2 (pc := 176) F dX10_init_176 ?_
                        refine mh_aload1 (pc := 177) F dX10_init_177 ?_
                        refine mh_callIx (pc := 178) (As := [.int (Int32.ofInt (5)), .ref 2]) (st := [.ref 49, .int (Int32.ofInt (5)), .ref 31]) (n1 := 50) (cl1 := 24) (sl1 := 511) F (by omega) (q44_churn (by omega) sh_49 (by decide)) ⟨rfl, rfl, rfl⟩ wi_RX10_70 dX10_init_178 rfl rfl (Nat.le_of_ble_eq_true rfl) (by rw [hR.1, hR.2]; exact ⟨Nat.le_of_ble_eq_true rfl, Nat.le_of_ble_eq_true rfl⟩) (fun r59 h59 q59 => ?_)
                        obtain ⟨rfl, fr59, hc59⟩ := q59
                        have r25_60 : h59 25 = mh_ur (mh_ur (mh_ur (mh_ur (mh_ur (mh_ur (mh_ur (mh_ur (mh_ur (mh_ur (mh_ur (fun _ => (0 : Int)) 0 (((26 : Nat) : Int) + 1)) 1 (((27 : Nat) : Int) + 1)) 2 (((28 : Nat) : Int) + 1)) 3 (((29 : Nat) : Int) + 1)) 4 (((30 : Nat) : Int) + 1)) 5 (((31 : Nat) : Int) + 1)) 9 (((32 : Nat) : Int) + 1)) 11 (((33 : Nat) : Int) + 1)) 12 (((38 : Nat) : Int) + 1)) 13 (((43 : Nat) : Int) + 1)) 15 1 := (fr59 _ (by decide)).trans r25_58
                        have r27_60 : h59 27 = fun _ => (0 : Int) := (fr59 _ (by decide)).trans r27_58
                        have r29_60 : h59 29 = mh_ur (mh_ur (mh_ur (mh_ur (fun _ => (0 : Int)) 0 1) 1 2) 2 3) 3 4 := (fr59 _ (by decide)).trans r29_58
                        have r30_60 : h59 30 = mh_ur (mh_ur (mh_ur (mh_ur (fun _ => (0 : Int)) 0 9) 1 7) 2 5) 3 3 := (fr59 _ (by decide)).trans r30_58
                        have r31_60 : h59 31 = mh_ur (mh_ur (mh_ur (mh_ur (mh_ur (fun _ => (0 : Int)) 0 (((44 : Nat) : Int) + 1)) 1 (((45 : Nat) : Int) + 1)) 2 (((46 : Nat) : Int) + 1)) 3 (((47 : Nat) : Int) + 1)) 4 (((48 : Nat) : Int) + 1) := (fr59 _ (by decide)).trans r31_58
                        have r32_60 : h59 32 = fun _ => (0 : Int) := (fr59 _ (by decide)).trans r32_58
                        have r33_60 : h59 33 = T33 := (fr59 _ (by decide)).trans r33_58
                        have r34_60 : h59 34 = T34 := (fr59 _ (by decide)).trans r34_58
                        have r38_60 : h59 38 = T38 := (fr59 _ (by decide)).trans r38_58
                        have r39_60 : h59 39 = T39 := (fr59 _ (by decide)).trans r39_58
                        have r26_60 : h59 26 = T26 := (fr59 _ (by decide)).trans r26_58
                        have r28_60 : h59 28 = T28 := (fr59 _ (by decide)).trans r28_58
                        have r44_60 : h59 44 = sc_c0 0 := (fr59 _ (by decide)).trans r44_58
                        have r45_60 : h59 45 = sc_c0 1 := (fr59 _ (by decide)).trans r45_58
                        have r46_60 : h59 46 = sc_c0 2 := (fr59 _ (by decide)).trans r46_58
                        have r47_60 : h59 47 = sc_c0 3 := (fr59 _ (by decide)).trans r47_58
                        have r48_60 : h59 48 = sc_c0 4 := (fr59 _ (by decide)).trans r48_58
                        have fr60 : mh_fr [49, 48, 47, 46, 45, 44, 43, 39, 40, 41, 42, 38, 34, 35, 36, 37, 33, 32, 31, 30, 29, 28, 27, 25, 26] h h59 := (mh_fr.tr fr58 fr59).mono (by simp)
                        refine mh_aastore (pc := 181) F sh_31 sh_49 (by decide) rfl (by decide) (by decide) (by decide) (Or.inl rfl) dX10_init_181 ?_
                        refine mh_nmh (fun h61 e61 => ?_)
                        have r25_61 : h61 25 = mh_ur (mh_ur (mh_ur (mh_ur (mh_ur (mh_ur (mh_ur (mh_ur (mh_ur (mh_ur (mh_ur (fun _ => (0 : Int)) 0 (((26 : Nat) : Int) + 1)) 1 (((27 : Nat) : Int) + 1)) 2 (((28 : Nat) : Int) + 1)) 3 (((29 : Nat) : Int) + 1)) 4 (((30 : Nat) : Int) + 1)) 5 (((31 : Nat) : Int) + 1)) 9 (((32 : Nat) : Int) + 1)) 11 (((33 : Nat) : Int) + 1)) 12 (((38 : Nat) : Int) + 1)) 13 (((43 : Nat) : Int) + 1)) 15 1 := by rw [e61, mh_up_row (by decide)]; exact r25_60
                        have r27_61 : h61 27 = fun _ => (0 : Int) := by rw [e61, mh_up_row (by decide)]; exact r27_60
                        have r29_61 : h61 29 = mh_ur (mh_ur (mh_ur (mh_ur (fun _ => (0 : Int)) 0 1) 1 2) 2 3) 3 4 := by rw [e61, mh_up_row (by decide)]; exact r29_60
                        have r30_61 : h61 30 = mh_ur (mh_ur (mh_ur (mh_ur (fun _ => (0 : Int)) 0 9) 1 7) 2 5) 3 3 := by rw [e61, mh_up_row (by decide)]; exact r30_60
                        have r31_61 : h61 31 = mh_ur (mh_ur (mh_ur (mh_ur (mh_ur (mh_ur (fun _ => (0 : Int)) 0 (((44 : Nat) : Int) + 1)) 1 (((45 : Nat) : Int) + 1)) 2 (((46 : Nat) : Int) + 1)) 3 (((47 : Nat) : Int) + 1)) 4 (((48 : Nat) : Int) + 1)) 5 (((49 : Nat) : Int) + 1) := by rw [e61, mh_up_rs, r31_60] <;> rfl
                        have r32_61 : h61 32 = fun _ => (0 : Int) := by rw [e61, mh_up_row (by decide)]; exact r32_60
                        have r33_61 : h61 33 = T33 := by rw [e61, mh_up_row (by decide)]; exact r33_60
                        have r34_61 : h61 34 = T34 := by rw [e61, mh_up_row (by decide)]; exact r34_60
                        have r38_61 : h61 38 = T38 := by rw [e61, mh_up_row (by decide)]; exact r38_60
                        have r39_61 : h61 39 = T39 := by rw [e61, mh_up_row (by decide)]; exact r39_60
                        have r26_61 : h61 26 = T26 := by rw [e61, mh_up_row (by decide)]; exact r26_60
                        have r28_61 : h61 28 = T28 := by rw [e61, mh_up_row (by decide)]; exact r28_60
                        have r44_61 : h61 44 = sc_c0 0 := by rw [e61, mh_up_row (by decide)]; exact r44_60
                        have r45_61 : h61 45 = sc_c0 1 := by rw [e61, mh_up_row (by decide)]; exact r45_60
                        have r46_61 : h61 46 = sc_c0 2 := by rw [e61, mh_up_row (by decide)]; exact r46_60
                        have r47_61 : h61 47 = sc_c0 3 := by rw [e61, mh_up_row (by decide)]; exact r47_60
                        have r48_61 : h61 48 = sc_c0 4 := by rw [e61, mh_up_row (by decide)]; exact r48_60
                        have r49_61 : h61 49 = sc_c0 5 := by rw [e61, mh_up_row (by decide)]; exact (hc59.trans (by rw [r49_58]; rfl))
                        have fr61 : mh_fr [49, 48, 47, 46, 45, 44, 43, 39, 40, 41, 42, 38, 34, 35, 36, 37, 33, 32, 31, 30, 29, 28, 27, 25, 26] h h61 := mh_fr.upi fr60 e61 (by simp)
                        refine mh_iinc2 (pc := 182) F dX10_init_182 rfl (by decide) ?_
                        refine mh_goto (pc := 185) (tgt := 161) F dX10_init_185 rfl ?_
                        refine mh_iload2 (pc := 161) F dX10_init_161 ?_
                        refine mh_bipush (pc := 162) F dX10_init_162 rfl ?_
                        refine mh_icmp_ge (pc := 164) (tgt := 188) F dX10_init_164 rfl (by omega) (by omega) (fun c_164 => ?_) (fun c_164 => ?_)
                        · exact mh_return F Z dX10_init_188 ⟨rfl, (fr61.mono (by simp)), ⟨(by rw [r25_61]; decide +kernel), (by rw [r25_61]; decide +kernel), (by rw [r25_61]; decide +kernel), (by rw [r25_61]; decide +kernel), (by rw [r25_61]; decide +kernel), (by rw [r25_61]; decide +kernel), (by rw [r25_61]; decide +kernel), (by rw [r25_61]; decide +kernel), (by rw [r25_61]; decide +kernel), (by rw [r25_61]; decide +kernel)⟩, ⟨(by rw [r25_61]; decide +kernel), (by rw [r25_61]; decide +kernel), (by rw [r25_61]; decide +kernel), (by rw [r25_61]; decide +kernel), (by rw [r25_61]; decide +kernel), (by rw [r25_61]; decide +kernel)⟩, (fun k k0 k1 => ⟨by rw [r26_61]; exact hf26 k k0 k1, by rw [r27_61], by rw [r28_61]; exact hf28 k k0 k1⟩), (by rw [r29_61, r30_61]; decide +kernel), (by rw [r31_61]; decide +kernel), ⟨r44_61, r45_61, r46_61, r47_61, r48_61, r49_61⟩, (by rw [r33_61, r34_61]; exact ht33), (by rw [r38_61, r39_61]; exact ht38), r32_61⟩
                        · exact absurd c_164 (by decide)
          · exact absurd c_129 (by decide)

set_option maxRecDepth 100000 in
set_option maxHeartbeats 4000000 in
theorem q46_world_50 {g : mh_G} {d : Nat} (hd : 76 ≤ d) {h : Nat → Int → Int}  (r50 : h 50 = fun _ => (0 : Int)) : mh_M g d yX10_init cX10_init 3 none 51 24 511 [.ref 50, .ref 2] h (fun r h2 => r = none ∧ mh_fr [50, 51, 52, 53, 54, 55, 56, 57, 58, 59, 60, 61, 62, 63, 64, 65, 66, 67, 68, 69, 70, 71, 72, 73, 74] h h2 ∧ sc_w0 h2 50) := by
  refine mh_M_of RX10 rfl (by decide +kernel) [some (.ref 50), some (.ref 2), none] rfl (Nat.le_of_ble_eq_true rfl) (fun f F Z hn0 hR => ?_)
  refine mh_aload0 (pc := 0) F dX10_init_0 ?_
  refine mh_objI (pc := 1) F (by omega) tw_1_143 (Nat.le_of_ble_eq_true rfl) dX10_init_1 ?_
  refine mh_aload0 (pc := 4) F dX10_init_4 ?_
  refine mh_bipush (pc := 5) F dX10_init_5 rfl ?_
  refine mh_newarr (t := 0) (len := 9) (n1 := 52) (cl1 := 1) (sl1 := 9) (pc := 7) F sh_51 (by decide) (by decide) rfl rfl tw_1_134 ⟨rfl, rfl, rfl⟩ (by rw [hR.1, hR.2]; exact ⟨Nat.le_of_ble_eq_true rfl, Nat.le_of_ble_eq_true rfl⟩) dX10_init_7 ?_
  refine mh_nmh (fun h1 e1 => ?_)
  have r50_1 : h1 50 = fun _ => (0 : Int) := by rw [e1, mh_zr_row (by decide)]; exact r50
  have r51_1 : h1 51 = fun _ => (0 : Int) := by rw [e1]; exact mh_zr_rs
  have fr1 : mh_fr [51] h h1 := mh_fr.zr mh_fr.rf e1
  refine mh_putFr (pc := 9) F hn0 sh_50 (by decide) qw_RX10_9_10 dX10_init_9 rfl ?_
  refine mh_nmh (fun h2 e2 => ?_)
  have r50_2 : h2 50 = mh_ur (fun _ => (0 : Int)) 0 (((51 : Nat) : Int) + 1) := by rw [e2, mh_up_rs, r50_1] <;> rfl
  have r51_2 : h2 51 = fun _ => (0 : Int) := by rw [e2, mh_up_row (by decide)]; exact r51_1
  have fr2 : mh_fr [50, 51] h h2 := mh_fr.up fr1 e2
  refine mh_aload0 (pc := 12) F dX10_init_12 ?_
  refine mh_bipush (pc := 13) F dX10_init_13 rfl ?_
  refine mh_newarr (t := 0) (len := 9) (n1 := 53) (cl1 := 2) (sl1 := 18) (pc := 15) F sh_52 (by decide) (by decide) rfl rfl tw_1_134 ⟨rfl, rfl, rfl⟩ (by rw [hR.1, hR.2]; exact ⟨Nat.le_of_ble_eq_true rfl, Nat.le_of_ble_eq_true rfl⟩) dX10_init_15 ?_
  refine mh_nmh (fun h3 e3 => ?_)
  have r50_3 : h3 50 = mh_ur (fun _ => (0 : Int)) 0 (((51 : Nat) : Int) + 1) := by rw [e3, mh_zr_row (by decide)]; exact r50_2
  have r51_3 : h3 51 = fun _ => (0 : Int) := by rw [e3, mh_zr_row (by decide)]; exact r51_2
  have r52_3 : h3 52 = fun _ => (0 : Int) := by rw [e3]; exact mh_zr_rs
  have fr3 : mh_fr [52, 50, 51] h h3 := mh_fr.zr fr2 e3
  refine mh_putFr (pc := 17) F hn0 sh_50 (by decide) qw_RX10_15_10 dX10_init_17 rfl ?_
  refine mh_nmh (fun h4 e4 => ?_)
  have r50_4 : h4 50 = mh_ur (mh_ur (fun _ => (0 : Int)) 0 (((51 : Nat) : Int) + 1)) 1 (((52 : Nat) : Int) + 1) := by rw [e4, mh_up_rs, r50_3] <;> rfl
  have r51_4 : h4 51 = fun _ => (0 : Int) := by rw [e4, mh_up_row (by decide)]; exact r51_3
  have r52_4 : h4 52 = fun _ => (0 : Int) := by rw [e4, mh_up_row (by decide)]; exact r52_3
  have fr4 : mh_fr [52, 50, 51] h h4 := mh_fr.upi fr3 e4 (by simp)
  refine mh_aload0 (pc := 20) F dX10_init_20 ?_
  refine mh_bipush (pc := 21) F dX10_init_21 rfl ?_
  refine mh_newarr (t := 0) (len := 9) (n1 := 54) (cl1 := 3) (sl1 := 27) (pc := 23) F sh_53 (by decide) (by decide) rfl rfl tw_1_134 ⟨rfl, rfl, rfl⟩ (by rw [hR.1, hR.2]; exact ⟨Nat.le_of_ble_eq_true rfl, Nat.le_of_ble_eq_true rfl⟩) dX10_init_23 ?_
  refine mh_nmh (fun h5 e5 => ?_)
  have r50_5 : h5 50 = mh_ur (mh_ur (fun _ => (0 : Int)) 0 (((51 : Nat) : Int) + 1)) 1 (((52 : Nat) : Int) + 1) := by rw [e5, mh_zr_row (by decide)]; exact r50_4
  have r51_5 : h5 51 = fun _ => (0 : Int) := by rw [e5, mh_zr_row (by decide)]; exact r51_4
  have r52_5 : h5 52 = fun _ => (0 : Int) := by rw [e5, mh_zr_row (by decide)]; exact r52_4
  have r53_5 : h5 53 = fun _ => (0 : Int) := by rw [e5]; exact mh_zr_rs
  have fr5 : mh_fr [53, 52, 50, 51] h h5 := mh_fr.zr fr4 e5
  refine mh_putFr (pc := 25) F hn0 sh_50 (by decide) qw_RX10_18_10 dX10_init_25 rfl ?_
  refine mh_nmh (fun h6 e6 => ?_)
  have r50_6 : h6 50 = mh_ur (mh_ur (mh_ur (fun _ => (0 : Int)) 0 (((51 : Nat) : Int) + 1)) 1 (((52 : Nat) : Int) + 1)) 2 (((53 : Nat) : Int) + 1) := by rw [e6, mh_up_rs, r50_5] <;> rfl
  have r51_6 : h6 51 = fun _ => (0 : Int) := by rw [e6, mh_up_row (by decide)]; exact r51_5
  have r52_6 : h6 52 = fun _ => (0 : Int) := by rw [e6, mh_up_row (by decide)]; exact r52_5
  have r53_6 : h6 53 = fun _ => (0 : Int) := by rw [e6, mh_up_row (by decide)]; exact r53_5
  have fr6 : mh_fr [53, 52, 50, 51] h h6 := mh_fr.upi fr5 e6 (by simp)
  refine mh_aload0 (pc := 28) F dX10_init_28 ?_
  refine mh_iconst (pc := 29) F dX10_init_29 ?_
  refine mh_newarr (t := 0) (len := 4) (n1 := 55) (cl1 := 4) (sl1 := 31) (pc := 30) F sh_54 (by decide) (by decide) rfl rfl tw_1_134 ⟨rfl, rfl, rfl⟩ (by rw [hR.1, hR.2]; exact ⟨Nat.le_of_ble_eq_true rfl, Nat.le_of_ble_eq_true rfl⟩) dX10_init_30 ?_
  refine mh_nmh (fun h7 e7 => ?_)
  have r50_7 : h7 50 = mh_ur (mh_ur (mh_ur (fun _ => (0 : Int)) 0 (((51 : Nat) : Int) + 1)) 1 (((52 : Nat) : Int) + 1)) 2 (((53 : Nat) : Int) + 1) := by rw [e7, mh_zr_row (by decide)]; exact r50_6
  have r51_7 : h7 51 = fun _ => (0 : Int) := by rw [e7, mh_zr_row (by decide)]; exact r51_6
  have r52_7 : h7 52 = fun _ => (0 : Int) := by rw [e7, mh_zr_row (by decide)]; exact r52_6
  have r53_7 : h7 53 = fun _ => (0 : Int) := by rw [e7, mh_zr_row (by decide)]; exact r53_6
  have r54_7 : h7 54 = fun _ => (0 : Int) := by rw [e7]; exact mh_zr_rs
  have fr7 : mh_fr [54, 53, 52, 50, 51] h h7 := mh_fr.zr fr6 e7
  refine mh_putFr (pc := 32) F hn0 sh_50 (by decide) qw_RX10_21_10 dX10_init_32 rfl ?_
  refine mh_nmh (fun h8 e8 => ?_)
  have r50_8 : h8 50 = mh_ur (mh_ur (mh_ur (mh_ur (fun _ => (0 : Int)) 0 (((51 : Nat) : Int) + 1)) 1 (((52 : Nat) : Int) + 1)) 2 (((53 : Nat) : Int) + 1)) 3 (((54 : Nat) : Int) + 1) := by rw [e8, mh_up_rs, r50_7] <;> rfl
  have r51_8 : h8 51 = fun _ => (0 : Int) := by rw [e8, mh_up_row (by decide)]; exact r51_7
  have r52_8 : h8 52 = fun _ => (0 : Int) := by rw [e8, mh_up_row (by decide)]; exact r52_7
  have r53_8 : h8 53 = fun _ => (0 : Int) := by rw [e8, mh_up_row (by decide)]; exact r53_7
  have r54_8 : h8 54 = fun _ => (0 : Int) := by rw [e8, mh_up_row (by decide)]; exact r54_7
  have fr8 : mh_fr [54, 53, 52, 50, 51] h h8 := mh_fr.upi fr7 e8 (by simp)
  refine mh_aload0 (pc := 35) F dX10_init_35 ?_
  refine mh_iconst (pc := 36) F dX10_init_36 ?_
  refine mh_newarr (t := 0) (len := 4) (n1 := 56) (cl1 := 5) (sl1 := 35) (pc := 37) F sh_55 (by decide) (by decide) rfl rfl tw_1_134 ⟨rfl, rfl, rfl⟩ (by rw [hR.1, hR.2]; exact ⟨Nat.le_of_ble_eq_true rfl, Nat.le_of_ble_eq_true rfl⟩) dX10_init_37 ?_
  refine mh_nmh (fun h9 e9 => ?_)
  have r50_9 : h9 50 = mh_ur (mh_ur (mh_ur (mh_ur (fun _ => (0 : Int)) 0 (((51 : Nat) : Int) + 1)) 1 (((52 : Nat) : Int) + 1)) 2 (((53 : Nat) : Int) + 1)) 3 (((54 : Nat) : Int) + 1) := by rw [e9, mh_zr_row (by decide)]; exact r50_8
  have r51_9 : h9 51 = fun _ => (0 : Int) := by rw [e9, mh_zr_row (by decide)]; exact r51_8
  have r52_9 : h9 52 = fun _ => (0 : Int) := by rw [e9, mh_zr_row (by decide)]; exact r52_8
  have r53_9 : h9 53 = fun _ => (0 : Int) := by rw [e9, mh_zr_row (by decide)]; exact r53_8
  have r54_9 : h9 54 = fun _ => (0 : Int) := by rw [e9, mh_zr_row (by decide)]; exact r54_8
  have r55_9 : h9 55 = fun _ => (0 : Int) := by rw [e9]; exact mh_zr_rs
  have fr9 : mh_fr [55, 54, 53, 52, 50, 51] h h9 := mh_fr.zr fr8 e9
  refine mh_putFr (pc := 39) F hn0 sh_50 (by decide) qw_RX10_24_10 dX10_init_39 rfl ?_
  refine mh_nmh (fun h10 e10 => ?_)
  have r50_10 : h10 50 = mh_ur (mh_ur (mh_ur (mh_ur (mh_ur (fun _ => (0 : Int)) 0 (((51 : Nat) : Int) + 1)) 1 (((52 : Nat) : Int) + 1)) 2 (((53 : Nat) : Int) + 1)) 3 (((54 : Nat) : Int) + 1)) 4 (((55 : Nat) : Int) + 1) := by rw [e10, mh_up_rs, r50_9] <;> rfl
  have r51_10 : h10 51 = fun _ => (0 : Int) := by rw [e10, mh_up_row (by decide)]; exact r51_9
  have r52_10 : h10 52 = fun _ => (0 : Int) := by rw [e10, mh_up_row (by decide)]; exact r52_9
  have r53_10 : h10 53 = fun _ => (0 : Int) := by rw [e10, mh_up_row (by decide)]; exact r53_9
  have r54_10 : h10 54 = fun _ => (0 : Int) := by rw [e10, mh_up_row (by decide)]; exact r54_9
  have r55_10 : h10 55 = fun _ => (0 : Int) := by rw [e10, mh_up_row (by decide)]; exact r55_9
  have fr10 : mh_fr [55, 54, 53, 52, 50, 51] h h10 := mh_fr.upi fr9 e10 (by simp)
  refine mh_aload0 (pc := 42) F dX10_init_42 ?_
  refine mh_bipush (pc := 43) F dX10_init_43 rfl ?_
  refine mh_anew (t := 4) (len := 6) (n1 := 57) (cl1 := 6) (sl1 := 41) (pc := 45) F sh_56 (by decide) rfl (by decide) rfl tw_1_144 F.kk.2.2.2.1 ⟨rfl, rfl, rfl⟩ (by rw [hR.1, hR.2]; exact ⟨Nat.le_of_ble_eq_true rfl, Nat.le_of_ble_eq_true rfl⟩) dX10_init_45 ?_
  refine mh_nmh (fun h11 e11 => ?_)
  have r50_11 : h11 50 = mh_ur (mh_ur (mh_ur (mh_ur (mh_ur (fun _ => (0 : Int)) 0 (((51 : Nat) : Int) + 1)) 1 (((52 : Nat) : Int) + 1)) 2 (((53 : Nat) : Int) + 1)) 3 (((54 : Nat) : Int) + 1)) 4 (((55 : Nat) : Int) + 1) := by rw [e11, mh_zr_row (by decide)]; exact r50_10
  have r51_11 : h11 51 = fun _ => (0 : Int) := by rw [e11, mh_zr_row (by decide)]; exact r51_10
  have r52_11 : h11 52 = fun _ => (0 : Int) := by rw [e11, mh_zr_row (by decide)]; exact r52_10
  have r53_11 : h11 53 = fun _ => (0 : Int) := by rw [e11, mh_zr_row (by decide)]; exact r53_10
  have r54_11 : h11 54 = fun _ => (0 : Int) := by rw [e11, mh_zr_row (by decide)]; exact r54_10
  have r55_11 : h11 55 = fun _ => (0 : Int) := by rw [e11, mh_zr_row (by decide)]; exact r55_10
  have r56_11 : h11 56 = fun _ => (0 : Int) := by rw [e11]; exact mh_zr_rs
  have fr11 : mh_fr [56, 55, 54, 53, 52, 50, 51] h h11 := mh_fr.zr fr10 e11
  refine mh_putFr (pc := 48) F hn0 sh_50 (by decide) qw_RX10_29_10 dX10_init_48 rfl ?_
  refine mh_nmh (fun h12 e12 => ?_)
  have r50_12 : h12 50 = mh_ur (mh_ur (mh_ur (mh_ur (mh_ur (mh_ur (fun _ => (0 : Int)) 0 (((51 : Nat) : Int) + 1)) 1 (((52 : Nat) : Int) + 1)) 2 (((53 : Nat) : Int) + 1)) 3 (((54 : Nat) : Int) + 1)) 4 (((55 : Nat) : Int) + 1)) 5 (((56 : Nat) : Int) + 1) := by rw [e12, mh_up_rs, r50_11] <;> rfl
  have r51_12 : h12 51 = fun _ => (0 : Int) := by rw [e12, mh_up_row (by decide)]; exact r51_11
  have r52_12 : h12 52 = fun _ => (0 : Int) := by rw [e12, mh_up_row (by decide)]; exact r52_11
  have r53_12 : h12 53 = fun _ => (0 : Int) := by rw [e12, mh_up_row (by decide)]; exact r53_11
  have r54_12 : h12 54 = fun _ => (0 : Int) := by rw [e12, mh_up_row (by decide)]; exact r54_11
  have r55_12 : h12 55 = fun _ => (0 : Int) := by rw [e12, mh_up_row (by decide)]; exact r55_11
  have r56_12 : h12 56 = fun _ => (0 : Int) := by rw [e12, mh_up_row (by decide)]; exact r56_11
  have fr12 : mh_fr [56, 55, 54, 53, 52, 50, 51] h h12 := mh_fr.upi fr11 e12 (by simp)
  refine mh_aload0 (pc := 51) F dX10_init_51 ?_
  refine mh_bipush (pc := 52) F dX10_init_52 rfl ?_
  refine mh_newarr (t := 2) (len := 50) (n1 := 58) (cl1 := 7) (sl1 := 91) (pc := 54) F sh_57 (by decide) (by decide) rfl rfl tw_2_108 ⟨rfl, rfl, rfl⟩ (by rw [hR.1, hR.2]; exact ⟨Nat.le_of_ble_eq_true rfl, Nat.le_of_ble_eq_true rfl⟩) dX10_init_54 ?_
  refine mh_nmh (fun h13 e13 => ?_)
  have r50_13 : h13 50 = mh_ur (mh_ur (mh_ur (mh_ur (mh_ur (mh_ur (fun _ => (0 : Int)) 0 (((51 : Nat) : Int) + 1)) 1 (((52 : Nat) : Int) + 1)) 2 (((53 : Nat) : Int) + 1)) 3 (((54 : Nat) : Int) + 1)) 4 (((55 : Nat) : Int) + 1)) 5 (((56 : Nat) : Int) + 1) := by rw [e13, mh_zr_row (by decide)]; exact r50_12
  have r51_13 : h13 51 = fun _ => (0 : Int) := by rw [e13, mh_zr_row (by decide)]; exact r51_12
  have r52_13 : h13 52 = fun _ => (0 : Int) := by rw [e13, mh_zr_row (by decide)]; exact r52_12
  have r53_13 : h13 53 = fun _ => (0 : Int) := by rw [e13, mh_zr_row (by decide)]; exact r53_12
  have r54_13 : h13 54 = fun _ => (0 : Int) := by rw [e13, mh_zr_row (by decide)]; exact r54_12
  have r55_13 : h13 55 = fun _ => (0 : Int) := by rw [e13, mh_zr_row (by decide)]; exact r55_12
  have r56_13 : h13 56 = fun _ => (0 : Int) := by rw [e13, mh_zr_row (by decide)]; exact r56_12
  have r57_13 : h13 57 = fun _ => (0 : Int) := by rw [e13]; exact mh_zr_rs
  have fr13 : mh_fr [57, 56, 55, 54, 53, 52, 50, 51] h h13 := mh_fr.zr fr12 e13
  refine mh_putFr (pc := 56) F hn0 sh_50 (by decide) qw_RX10_33_10 dX10_init_56 rfl ?_
  refine mh_nmh (fun h14 e14 => ?_)
  have r50_14 : h14 50 = mh_ur (mh_ur (mh_ur (mh_ur (mh_ur (mh_ur (mh_ur (fun _ => (0 : Int)) 0 (((51 : Nat) : Int) + 1)) 1 (((52 : Nat) : Int) + 1)) 2 (((53 : Nat) : Int) + 1)) 3 (((54 : Nat) : Int) + 1)) 4 (((55 : Nat) : Int) + 1)) 5 (((56 : Nat) : Int) + 1)) 9 (((57 : Nat) : Int) + 1) := by rw [e14, mh_up_rs, r50_13] <;> rfl
  have r51_14 : h14 51 = fun _ => (0 : Int) := by rw [e14, mh_up_row (by decide)]; exact r51_13
  have r52_14 : h14 52 = fun _ => (0 : Int) := by rw [e14, mh_up_row (by decide)]; exact r52_13
  have r53_14 : h14 53 = fun _ => (0 : Int) := by rw [e14, mh_up_row (by decide)]; exact r53_13
  have r54_14 : h14 54 = fun _ => (0 : Int) := by rw [e14, mh_up_row (by decide)]; exact r54_13
  have r55_14 : h14 55 = fun _ => (0 : Int) := by rw [e14, mh_up_row (by decide)]; exact r55_13
  have r56_14 : h14 56 = fun _ => (0 : Int) := by rw [e14, mh_up_row (by decide)]; exact r56_13
  have r57_14 : h14 57 = fun _ => (0 : Int) := by rw [e14, mh_up_row (by decide)]; exact r57_13
  have fr14 : mh_fr [57, 56, 55, 54, 53, 52, 50, 51] h h14 := mh_fr.upi fr13 e14 (by simp)
  refine mh_aload0 (pc := 59) F dX10_init_59 ?_
  refine mh_new (ci := 9) (n1 := 59) (cl1 := 8) (sl1 := 101) (pc := 60) F sh_58 (by decide) tw_1_145 tw_1_146 tw_1_11 ⟨rfl, rfl, rfl⟩ (by rw [hR.1, hR.2]; exact ⟨Nat.le_of_ble_eq_true rfl, Nat.le_of_ble_eq_true rfl⟩) dX10_init_60 ?_
  refine mh_nmh (fun h15 e15 => ?_)
  have r50_15 : h15 50 = mh_ur (mh_ur (mh_ur (mh_ur (mh_ur (mh_ur (mh_ur (fun _ => (0 : Int)) 0 (((51 : Nat) : Int) + 1)) 1 (((52 : Nat) : Int) + 1)) 2 (((53 : Nat) : Int) + 1)) 3 (((54 : Nat) : Int) + 1)) 4 (((55 : Nat) : Int) + 1)) 5 (((56 : Nat) : Int) + 1)) 9 (((57 : Nat) : Int) + 1) := by rw [e15, mh_zr_row (by decide)]; exact r50_14
  have r51_15 : h15 51 = fun _ => (0 : Int) := by rw [e15, mh_zr_row (by decide)]; exact r51_14
  have r52_15 : h15 52 = fun _ => (0 : Int) := by rw [e15, mh_zr_row (by decide)]; exact r52_14
  have r53_15 : h15 53 = fun _ => (0 : Int) := by rw [e15, mh_zr_row (by decide)]; exact r53_14
  have r54_15 : h15 54 = fun _ => (0 : Int) := by rw [e15, mh_zr_row (by decide)]; exact r54_14
  have r55_15 : h15 55 = fun _ => (0 : Int) := by rw [e15, mh_zr_row (by decide)]; exact r55_14
  have r56_15 : h15 56 = fun _ => (0 : Int) := by rw [e15, mh_zr_row (by decide)]; exact r56_14
  have r57_15 : h15 57 = fun _ => (0 : Int) := by rw [e15, mh_zr_row (by decide)]; exact r57_14
  have r58_15 : h15 58 = fun _ => (0 : Int) := by rw [e15]; exact mh_zr_rs
  have fr15 : mh_fr [58, 57, 56, 55, 54, 53, 52, 50, 51] h h15 := mh_fr.zr fr14 e15
  refine mh_dup (pc := 63) F dX10_init_63 rfl ?_
  refine mh_ldcs (i := 0) (pc := 64) F rfl F.kk.2.2.2.2.2.1 dX10_init_64 ?_
  refine mh_ldcs (i := 2) (pc := 66) F rfl F.kk.2.2.2.2.2.2.2.1 dX10_init_66 ?_
  refine mh_bipush (pc := 68) F dX10_init_68 rfl ?_
  refine mh_callIx (pc := 70) (As := [.ref 1000000, .ref 1000002, .int (Int32.ofInt (40))]) (st := [.ref 58, .ref 50]) (n1 := 63) (cl1 := 12) (sl1 := 254) F (by omega) (q45_text_58 (by omega) r58_15) ⟨rfl, rfl, rfl⟩ wi_RX10_43 dX10_init_70 rfl rfl (Nat.le_of_ble_eq_true rfl) (by rw [hR.1, hR.2]; exact ⟨Nat.le_of_ble_eq_true rfl, Nat.le_of_ble_eq_true rfl⟩) (fun r16 h16 q16 => ?_)
  obtain ⟨rfl, fr16, ht58⟩ := q16
  change sc_tzr (h16 58) (h16 59) 58 0 at ht58
  obtain ⟨T58, eT58⟩ : ∃ z : Int → Int, z = h16 58 := ⟨_, rfl⟩
  obtain ⟨T59, eT59⟩ : ∃ z : Int → Int, z = h16 59 := ⟨_, rfl⟩
  rw [← eT58, ← eT59] at ht58
  have r50_17 : h16 50 = mh_ur (mh_ur (mh_ur (mh_ur (mh_ur (mh_ur (mh_ur (fun _ => (0 : Int)) 0 (((51 : Nat) : Int) + 1)) 1 (((52 : Nat) : Int) + 1)) 2 (((53 : Nat) : Int) + 1)) 3 (((54 : Nat) : Int) + 1)) 4 (((55 : Nat) : Int) + 1)) 5 (((56 : Nat) : Int) + 1)) 9 (((57 : Nat) : Int) + 1) := (fr16 _ (by decide)).trans r50_15
  have r51_17 : h16 51 = fun _ => (0 : Int) := (fr16 _ (by decide)).trans r51_15
  have r52_17 : h16 52 = fun _ => (0 : Int) := (fr16 _ (by decide)).trans r52_15
  have r53_17 : h16 53 = fun _ => (0 : Int) := (fr16 _ (by decide)).trans r53_15
  have r54_17 : h16 54 = fun _ => (0 : Int) := (fr16 _ (by decide)).trans r54_15
  have r55_17 : h16 55 = fun _ => (0 : Int) := (fr16 _ (by decide)).trans r55_15
  have r56_17 : h16 56 = fun _ => (0 : Int) := (fr16 _ (by decide)).trans r56_15
  have r57_17 : h16 57 = fun _ => (0 : Int) := (fr16 _ (by decide)).trans r57_15
  have fr17 : mh_fr [59, 60, 61, 62, 58, 57, 56, 55, 54, 53, 52, 50, 51] h h16 := (mh_fr.tr fr15 fr16).mono (by simp)
  refine mh_putFr (pc := 73) F hn0 sh_50 (by decide) qw_RX10_46_10 dX10_init_73 rfl ?_
  refine mh_nmh (fun h18 e18 => ?_)
  have r50_18 : h18 50 = mh_ur (mh_ur (mh_ur (mh_ur (mh_ur (mh_ur (mh_ur (mh_ur (fun _ => (0 : Int)) 0 (((51 : Nat) : Int) + 1)) 1 (((52 : Nat) : Int) + 1)) 2 (((53 : Nat) : Int) + 1)) 3 (((54 : Nat) : Int) + 1)) 4 (((55 : Nat) : Int) + 1)) 5 (((56 : Nat) : Int) + 1)) 9 (((57 : Nat) : Int) + 1)) 11 (((58 : Nat) : Int) + 1) := by rw [e18, mh_up_rs, r50_17] <;> rfl
  have r51_18 : h18 51 = fun _ => (0 : Int) := by rw [e18, mh_up_row (by decide)]; exact r51_17
  have r52_18 : h18 52 = fun _ => (0 : Int) := by rw [e18, mh_up_row (by decide)]; exact r52_17
  have r53_18 : h18 53 = fun _ => (0 : Int) := by rw [e18, mh_up_row (by decide)]; exact r53_17
  have r54_18 : h18 54 = fun _ => (0 : Int) := by rw [e18, mh_up_row (by decide)]; exact r54_17
  have r55_18 : h18 55 = fun _ => (0 : Int) := by rw [e18, mh_up_row (by decide)]; exact r55_17
  have r56_18 : h18 56 = fun _ => (0 : Int) := by rw [e18, mh_up_row (by decide)]; exact r56_17
  have r57_18 : h18 57 = fun _ => (0 : Int) := by rw [e18, mh_up_row (by decide)]; exact r57_17
  have r58_18 : h18 58 = T58 := by rw [e18, mh_up_row (by decide)]; exact eT58.symm
  have r59_18 : h18 59 = T59 := by rw [e18, mh_up_row (by decide)]; exact eT59.symm
  have fr18 : mh_fr [59, 60, 61, 62, 58, 57, 56, 55, 54, 53, 52, 50, 51] h h18 := mh_fr.upi fr17 e18 (by simp)
  refine mh_aload0 (pc := 76) F dX10_init_76 ?_
  refine mh_new (ci := 9) (n1 := 64) (cl1 := 13) (sl1 := 264) (pc := 77) F sh_63 (by decide) tw_1_145 tw_1_146 tw_1_11 ⟨rfl, rfl, rfl⟩ (by rw [hR.1, hR.2]; exact ⟨Nat.le_of_ble_eq_true rfl, Nat.le_of_ble_eq_true rfl⟩) dX10_init_77 ?_
  refine mh_nmh (fun h19 e19 => ?_)
  have r50_19 : h19 50 = mh_ur (mh_ur (mh_ur (mh_ur (mh_ur (mh_ur (mh_ur (mh_ur (fun _ => (0 : Int)) 0 (((51 : Nat) : Int) + 1)) 1 (((52 : Nat) : Int) + 1)) 2 (((53 : Nat) : Int) + 1)) 3 (((54 : Nat) : Int) + 1)) 4 (((55 : Nat) : Int) + 1)) 5 (((56 : Nat) : Int) + 1)) 9 (((57 : Nat) : Int) + 1)) 11 (((58 : Nat) : Int) + 1) := by rw [e19, mh_zr_row (by decide)]; exact r50_18
  have r51_19 : h19 51 = fun _ => (0 : Int) := by rw [e19, mh_zr_row (by decide)]; exact r51_18
  have r52_19 : h19 52 = fun _ => (0 : Int) := by rw [e19, mh_zr_row (by decide)]; exact r52_18
  have r53_19 : h19 53 = fun _ => (0 : Int) := by rw [e19, mh_zr_row (by decide)]; exact r53_18
  have r54_19 : h19 54 = fun _ => (0 : Int) := by rw [e19, mh_zr_row (by decide)]; exact r54_18
  have r55_19 : h19 55 = fun _ => (0 : Int) := by rw [e19, mh_zr_row (by decide)]; exact r55_18
  have r56_19 : h19 56 = fun _ => (0 : Int) := by rw [e19, mh_zr_row (by decide)]; exact r56_18
  have r57_19 : h19 57 = fun _ => (0 : Int) := by rw [e19, mh_zr_row (by decide)]; exact r57_18
  have r58_19 : h19 58 = T58 := by rw [e19, mh_zr_row (by decide)]; exact r58_18
  have r59_19 : h19 59 = T59 := by rw [e19, mh_zr_row (by decide)]; exact r59_18
  have r63_19 : h19 63 = fun _ => (0 : Int) := by rw [e19]; exact mh_zr_rs
  have fr19 : mh_fr [63, 59, 60, 61, 62, 58, 57, 56, 55, 54, 53, 52, 50, 51] h h19 := mh_fr.zr fr18 e19
  refine mh_dup (pc := 80) F dX10_init_80 rfl ?_
  refine mh_ldcs (i := 1) (pc := 81) F rfl F.kk.2.2.2.2.2.2.1 dX10_init_81 ?_
  refine mh_ldcs (i := 3) (pc := 83) F rfl F.kk.2.2.2.2.2.2.2.2 dX10_init_83 ?_
  refine mh_sipush (pc := 85) F dX10_init_85 rfl ?_
  refine mh_callIx (pc := 88) (As := [.ref 1000001, .ref 1000003, .int (Int32.ofInt (999))]) (st := [.ref 63, .ref 50]) (n1 := 68) (cl1 := 17) (sl1 := 431) F (by omega) (q45_text_63 (by omega) r63_19) ⟨rfl, rfl, rfl⟩ wi_RX10_43 dX10_init_88 rfl rfl (Nat.le_of_ble_eq_true rfl) (by rw [hR.1, hR.2]; exact ⟨Nat.le_of_ble_eq_true rfl, Nat.le_of_ble_eq_true rfl⟩) (fun r20 h20 q20 => ?_)
  obtain ⟨rfl, fr20, ht63⟩ := q20
  change sc_tzr (h20 63) (h20 64) 63 1 at ht63
  obtain ⟨T63, eT63⟩ : ∃ z : Int → Int, z = h20 63 := ⟨_, rfl⟩
  obtain ⟨T64, eT64⟩ : ∃ z : Int → Int, z = h20 64 := ⟨_, rfl⟩
  rw [← eT63, ← eT64] at ht63
  have r50_21 : h20 50 = mh_ur (mh_ur (mh_ur (mh_ur (mh_ur (mh_ur (mh_ur (mh_ur (fun _ => (0 : Int)) 0 (((51 : Nat) : Int) + 1)) 1 (((52 : Nat) : Int) + 1)) 2 (((53 : Nat) : Int) + 1)) 3 (((54 : Nat) : Int) + 1)) 4 (((55 : Nat) : Int) + 1)) 5 (((56 : Nat) : Int) + 1)) 9 (((57 : Nat) : Int) + 1)) 11 (((58 : Nat) : Int) + 1) := (fr20 _ (by decide)).trans r50_19
  have r51_21 : h20 51 = fun _ => (0 : Int) := (fr20 _ (by decide)).trans r51_19
  have r52_21 : h20 52 = fun _ => (0 : Int) := (fr20 _ (by decide)).trans r52_19
  have r53_21 : h20 53 = fun _ => (0 : Int) := (fr20 _ (by decide)).trans r53_19
  have r54_21 : h20 54 = fun _ => (0 : Int) := (fr20 _ (by decide)).trans r54_19
  have r55_21 : h20 55 = fun _ => (0 : Int) := (fr20 _ (by decide)).trans r55_19
  have r56_21 : h20 56 = fun _ => (0 : Int) := (fr20 _ (by decide)).trans r56_19
  have r57_21 : h20 57 = fun _ => (0 : Int) := (fr20 _ (by decide)).trans r57_19
  have r58_21 : h20 58 = T58 := (fr20 _ (by decide)).trans r58_19
  have r59_21 : h20 59 = T59 := (fr20 _ (by decide)).trans r59_19
  have fr21 : mh_fr [64, 65, 66, 67, 63, 59, 60, 61, 62, 58, 57, 56, 55, 54, 53, 52, 50, 51] h h20 := (mh_fr.tr fr19 fr20).mono (by simp)
  refine mh_putFr (pc := 91) F hn0 sh_50 (by decide) qw_RX10_54_10 dX10_init_91 rfl ?_
  refine mh_nmh (fun h22 e22 => ?_)
  have r50_22 : h22 50 = mh_ur (mh_ur (mh_ur (mh_ur (mh_ur (mh_ur (mh_ur (mh_ur (mh_ur (fun _ => (0 : Int)) 0 (((51 : Nat) : Int) + 1)) 1 (((52 : Nat) : Int) + 1)) 2 (((53 : Nat) : Int) + 1)) 3 (((54 : Nat) : Int) + 1)) 4 (((55 : Nat) : Int) + 1)) 5 (((56 : Nat) : Int) + 1)) 9 (((57 : Nat) : Int) + 1)) 11 (((58 : Nat) : Int) + 1)) 12 (((63 : Nat) : Int) + 1) := by rw [e22, mh_up_rs, r50_21] <;> rfl
  have r51_22 : h22 51 = fun _ => (0 : Int) := by rw [e22, mh_up_row (by decide)]; exact r51_21
  have r52_22 : h22 52 = fun _ => (0 : Int) := by rw [e22, mh_up_row (by decide)]; exact r52_21
  have r53_22 : h22 53 = fun _ => (0 : Int) := by rw [e22, mh_up_row (by decide)]; exact r53_21
  have r54_22 : h22 54 = fun _ => (0 : Int) := by rw [e22, mh_up_row (by decide)]; exact r54_21
  have r55_22 : h22 55 = fun _ => (0 : Int) := by rw [e22, mh_up_row (by decide)]; exact r55_21
  have r56_22 : h22 56 = fun _ => (0 : Int) := by rw [e22, mh_up_row (by decide)]; exact r56_21
  have r57_22 : h22 57 = fun _ => (0 : Int) := by rw [e22, mh_up_row (by decide)]; exact r57_21
  have r58_22 : h22 58 = T58 := by rw [e22, mh_up_row (by decide)]; exact r58_21
  have r59_22 : h22 59 = T59 := by rw [e22, mh_up_row (by decide)]; exact r59_21
  have r63_22 : h22 63 = T63 := by rw [e22, mh_up_row (by decide)]; exact eT63.symm
  have r64_22 : h22 64 = T64 := by rw [e22, mh_up_row (by decide)]; exact eT64.symm
  have fr22 : mh_fr [64, 65, 66, 67, 63, 59, 60, 61, 62, 58, 57, 56, 55, 54, 53, 52, 50, 51] h h22 := mh_fr.upi fr21 e22 (by simp)
  refine mh_aload0 (pc := 94) F dX10_init_94 ?_
  refine mh_bipush (pc := 95) F dX10_init_95 rfl ?_
  refine mh_newarr (t := 0) (len := 20) (n1 := 69) (cl1 := 18) (sl1 := 451) (pc := 97) F sh_68 (by decide) (by decide) rfl rfl tw_1_134 ⟨rfl, rfl, rfl⟩ (by rw [hR.1, hR.2]; exact ⟨Nat.le_of_ble_eq_true rfl, Nat.le_of_ble_eq_true rfl⟩) dX10_init_97 ?_
  refine mh_nmh (fun h23 e23 => ?_)
  have r50_23 : h23 50 = mh_ur (mh_ur (mh_ur (mh_ur (mh_ur (mh_ur (mh_ur (mh_ur (mh_ur (fun _ => (0 : Int)) 0 (((51 : Nat) : Int) + 1)) 1 (((52 : Nat) : Int) + 1)) 2 (((53 : Nat) : Int) + 1)) 3 (((54 : Nat) : Int) + 1)) 4 (((55 : Nat) : Int) + 1)) 5 (((56 : Nat) : Int) + 1)) 9 (((57 : Nat) : Int) + 1)) 11 (((58 : Nat) : Int) + 1)) 12 (((63 : Nat) : Int) + 1) := by rw [e23, mh_zr_row (by decide)]; exact r50_22
  have r51_23 : h23 51 = fun _ => (0 : Int) := by rw [e23, mh_zr_row (by decide)]; exact r51_22
  have r52_23 : h23 52 = fun _ => (0 : Int) := by rw [e23, mh_zr_row (by decide)]; exact r52_22
  have r53_23 : h23 53 = fun _ => (0 : Int) := by rw [e23, mh_zr_row (by decide)]; exact r53_22
  have r54_23 : h23 54 = fun _ => (0 : Int) := by rw [e23, mh_zr_row (by decide)]; exact r54_22
  have r55_23 : h23 55 = fun _ => (0 : Int) := by rw [e23, mh_zr_row (by decide)]; exact r55_22
  have r56_23 : h23 56 = fun _ => (0 : Int) := by rw [e23, mh_zr_row (by decide)]; exact r56_22
  have r57_23 : h23 57 = fun _ => (0 : Int) := by rw [e23, mh_zr_row (by decide)]; exact r57_22
  have r58_23 : h23 58 = T58 := by rw [e23, mh_zr_row (by decide)]; exact r58_22
  have r59_23 : h23 59 = T59 := by rw [e23, mh_zr_row (by decide)]; exact r59_22
  have r63_23 : h23 63 = T63 := by rw [e23, mh_zr_row (by decide)]; exact r63_22
  have r64_23 : h23 64 = T64 := by rw [e23, mh_zr_row (by decide)]; exact r64_22
  have r68_23 : h23 68 = fun _ => (0 : Int) := by rw [e23]; exact mh_zr_rs
  have fr23 : mh_fr [68, 64, 65, 66, 67, 63, 59, 60, 61, 62, 58, 57, 56, 55, 54, 53, 52, 50, 51] h h23 := mh_fr.zr fr22 e23
  refine mh_putFr (pc := 99) F hn0 sh_50 (by decide) qw_RX10_57_10 dX10_init_99 rfl ?_
  refine mh_nmh (fun h24 e24 => ?_)
  have r50_24 : h24 50 = mh_ur (mh_ur (mh_ur (mh_ur (mh_ur (mh_ur (mh_ur (mh_ur (mh_ur (mh_ur (fun _ => (0 : Int)) 0 (((51 : Nat) : Int) + 1)) 1 (((52 : Nat) : Int) + 1)) 2 (((53 : Nat) : Int) + 1)) 3 (((54 : Nat) : Int) + 1)) 4 (((55 : Nat) : Int) + 1)) 5 (((56 : Nat) : Int) + 1)) 9 (((57 : Nat) : Int) + 1)) 11 (((58 : Nat) : Int) + 1)) 12 (((63 : Nat) : Int) + 1)) 13 (((68 : Nat) : Int) + 1) := by rw [e24, mh_up_rs, r50_23] <;> rfl
  have r51_24 : h24 51 = fun _ => (0 : Int) := by rw [e24, mh_up_row (by decide)]; exact r51_23
  have r52_24 : h24 52 = fun _ => (0 : Int) := by rw [e24, mh_up_row (by decide)]; exact r52_23
  have r53_24 : h24 53 = fun _ => (0 : Int) := by rw [e24, mh_up_row (by decide)]; exact r53_23
  have r54_24 : h24 54 = fun _ => (0 : Int) := by rw [e24, mh_up_row (by decide)]; exact r54_23
  have r55_24 : h24 55 = fun _ => (0 : Int) := by rw [e24, mh_up_row (by decide)]; exact r55_23
  have r56_24 : h24 56 = fun _ => (0 : Int) := by rw [e24, mh_up_row (by decide)]; exact r56_23
  have r57_24 : h24 57 = fun _ => (0 : Int) := by rw [e24, mh_up_row (by decide)]; exact r57_23
  have r58_24 : h24 58 = T58 := by rw [e24, mh_up_row (by decide)]; exact r58_23
  have r59_24 : h24 59 = T59 := by rw [e24, mh_up_row (by decide)]; exact r59_23
  have r63_24 : h24 63 = T63 := by rw [e24, mh_up_row (by decide)]; exact r63_23
  have r64_24 : h24 64 = T64 := by rw [e24, mh_up_row (by decide)]; exact r64_23
  have fr24 : mh_fr [68, 64, 65, 66, 67, 63, 59, 60, 61, 62, 58, 57, 56, 55, 54, 53, 52, 50, 51] h h24 := mh_fr.upi fr23 e24 (by simp)
  refine mh_aload0 (pc := 102) F dX10_init_102 ?_
  refine mh_iconst (pc := 103) F dX10_init_103 ?_
  refine mh_puti (pc := 104) F sh_50 (by decide) pw_RX10_60_10 dX10_init_104 ?_
  refine mh_nmh (fun h25 e25 => ?_)
  have r50_25 : h25 50 = mh_ur (mh_ur (mh_ur (mh_ur (mh_ur (mh_ur (mh_ur (mh_ur (mh_ur (mh_ur (mh_ur (fun _ => (0 : Int)) 0 (((51 : Nat) : Int) + 1)) 1 (((52 : Nat) : Int) + 1)) 2 (((53 : Nat) : Int) + 1)) 3 (((54 : Nat) : Int) + 1)) 4 (((55 : Nat) : Int) + 1)) 5 (((56 : Nat) : Int) + 1)) 9 (((57 : Nat) : Int) + 1)) 11 (((58 : Nat) : Int) + 1)) 12 (((63 : Nat) : Int) + 1)) 13 (((68 : Nat) : Int) + 1)) 15 1 := by rw [e25, mh_up_rs, r50_24] <;> rfl
  have r51_25 : h25 51 = fun _ => (0 : Int) := by rw [e25, mh_up_row (by decide)]; exact r51_24
  have r52_25 : h25 52 = fun _ => (0 : Int) := by rw [e25, mh_up_row (by decide)]; exact r52_24
  have r53_25 : h25 53 = fun _ => (0 : Int) := by rw [e25, mh_up_row (by decide)]; exact r53_24
  have r54_25 : h25 54 = fun _ => (0 : Int) := by rw [e25, mh_up_row (by decide)]; exact r54_24
  have r55_25 : h25 55 = fun _ => (0 : Int) := by rw [e25, mh_up_row (by decide)]; exact r55_24
  have r56_25 : h25 56 = fun _ => (0 : Int) := by rw [e25, mh_up_row (by decide)]; exact r56_24
  have r57_25 : h25 57 = fun _ => (0 : Int) := by rw [e25, mh_up_row (by decide)]; exact r57_24
  have r58_25 : h25 58 = T58 := by rw [e25, mh_up_row (by decide)]; exact r58_24
  have r59_25 : h25 59 = T59 := by rw [e25, mh_up_row (by decide)]; exact r59_24
  have r63_25 : h25 63 = T63 := by rw [e25, mh_up_row (by decide)]; exact r63_24
  have r64_25 : h25 64 = T64 := by rw [e25, mh_up_row (by decide)]; exact r64_24
  have fr25 : mh_fr [68, 64, 65, 66, 67, 63, 59, 60, 61, 62, 58, 57, 56, 55, 54, 53, 52, 50, 51] h h25 := mh_fr.upi fr24 e25 (by simp)
  refine mh_aload0 (pc := 107) F dX10_init_107 ?_
  refine mh_getr (b := 51) (pc := 108) F sh_50 (by decide) fw_RX10_9_10 dX10_init_108 rfl (by rw [r50_25]; simp [mh_ur]) ?_
  refine mh_bipush (pc := 111) F dX10_init_111 rfl ?_
  refine mh_callS0 (pc := 113) (As := [.ref 51, .int (Int32.ofInt (8))]) (st := []) F (by omega) (q44_fill (L := 9) (by omega) r51_25 sh_51 (by decide)) ws_RX10_64 dX10_init_113 rfl rfl (Nat.le_of_ble_eq_true rfl) (by rw [hR.1, hR.2]; exact ⟨Nat.le_of_ble_eq_true rfl, Nat.le_of_ble_eq_true rfl⟩) (fun r26 h26 q26 => ?_)
  obtain ⟨rfl, fr26, hf51⟩ := q26
  obtain ⟨T51, eT51⟩ : ∃ z : Int → Int, z = h26 51 := ⟨_, rfl⟩
  rw [← eT51] at hf51
  have r50_27 : h26 50 = mh_ur (mh_ur (mh_ur (mh_ur (mh_ur (mh_ur (mh_ur (mh_ur (mh_ur (mh_ur (mh_ur (fun _ => (0 : Int)) 0 (((51 : Nat) : Int) + 1)) 1 (((52 : Nat) : Int) + 1)) 2 (((53 : Nat) : Int) + 1)) 3 (((54 : Nat) : Int) + 1)) 4 (((55 : Nat) : Int) + 1)) 5 (((56 : Nat) : Int) + 1)) 9 (((57 : Nat) : Int) + 1)) 11 (((58 : Nat) : Int) + 1)) 12 (((63 : Nat) : Int) + 1)) 13 (((68 : Nat) : Int) + 1)) 15 1 := (fr26 _ (by decide)).trans r50_25
  have r52_27 : h26 52 = fun _ => (0 : Int) := (fr26 _ (by decide)).trans r52_25
  have r53_27 : h26 53 = fun _ => (0 : Int) := (fr26 _ (by decide)).trans r53_25
  have r54_27 : h26 54 = fun _ => (0 : Int) := (fr26 _ (by decide)).trans r54_25
  have r55_27 : h26 55 = fun _ => (0 : Int) := (fr26 _ (by decide)).trans r55_25
  have r56_27 : h26 56 = fun _ => (0 : Int) := (fr26 _ (by decide)).trans r56_25
  have r57_27 : h26 57 = fun _ => (0 : Int) := (fr26 _ (by decide)).trans r57_25
  have r58_27 : h26 58 = T58 := (fr26 _ (by decide)).trans r58_25
  have r59_27 : h26 59 = T59 := (fr26 _ (by decide)).trans r59_25
  have r63_27 : h26 63 = T63 := (fr26 _ (by decide)).trans r63_25
  have r64_27 : h26 64 = T64 := (fr26 _ (by decide)).trans r64_25
  have fr27 : mh_fr [68, 64, 65, 66, 67, 63, 59, 60, 61, 62, 58, 57, 56, 55, 54, 53, 52, 50, 51] h h26 := (mh_fr.tr fr25 fr26).mono (by simp)
  refine mh_aload0 (pc := 116) F dX10_init_116 ?_
  refine mh_getr (b := 53) (pc := 117) F sh_50 (by decide) fw_RX10_18_10 dX10_init_117 rfl (by rw [r50_27]; simp [mh_ur]) ?_
  refine mh_bipush (pc := 120) F dX10_init_120 rfl ?_
  refine mh_callS0 (pc := 122) (As := [.ref 53, .int (Int32.ofInt (10))]) (st := []) F (by omega) (q44_fill (L := 9) (by omega) r53_27 sh_53 (by decide)) ws_RX10_64 dX10_init_122 rfl rfl (Nat.le_of_ble_eq_true rfl) (by rw [hR.1, hR.2]; exact ⟨Nat.le_of_ble_eq_true rfl, Nat.le_of_ble_eq_true rfl⟩) (fun r28 h28 q28 => ?_)
  obtain ⟨rfl, fr28, hf53⟩ := q28
  obtain ⟨T53, eT53⟩ : ∃ z : Int → Int, z = h28 53 := ⟨_, rfl⟩
  rw [← eT53] at hf53
  have r50_29 : h28 50 = mh_ur (mh_ur (mh_ur (mh_ur (mh_ur (mh_ur (mh_ur (mh_ur (mh_ur (mh_ur (mh_ur (fun _ => (0 : Int)) 0 (((51 : Nat) : Int) + 1)) 1 (((52 : Nat) : Int) + 1)) 2 (((53 : Nat) : Int) + 1)) 3 (((54 : Nat) : Int) + 1)) 4 (((55 : Nat) : Int) + 1)) 5 (((56 : Nat) : Int) + 1)) 9 (((57 : Nat) : Int) + 1)) 11 (((58 : Nat) : Int) + 1)) 12 (((63 : Nat) : Int) + 1)) 13 (((68 : Nat) : Int) + 1)) 15 1 := (fr28 _ (by decide)).trans r50_27
  have r52_29 : h28 52 = fun _ => (0 : Int) := (fr28 _ (by decide)).trans r52_27
  have r54_29 : h28 54 = fun _ => (0 : Int) := (fr28 _ (by decide)).trans r54_27
  have r55_29 : h28 55 = fun _ => (0 : Int) := (fr28 _ (by decide)).trans r55_27
  have r56_29 : h28 56 = fun _ => (0 : Int) := (fr28 _ (by decide)).trans r56_27
  have r57_29 : h28 57 = fun _ => (0 : Int) := (fr28 _ (by decide)).trans r57_27
  have r58_29 : h28 58 = T58 := (fr28 _ (by decide)).trans r58_27
  have r59_29 : h28 59 = T59 := (fr28 _ (by decide)).trans r59_27
  have r63_29 : h28 63 = T63 := (fr28 _ (by decide)).trans r63_27
  have r64_29 : h28 64 = T64 := (fr28 _ (by decide)).trans r64_27
  have r51_29 : h28 51 = T51 := (fr28 _ (by decide)).trans eT51.symm
  have fr29 : mh_fr [68, 64, 65, 66, 67, 63, 59, 60, 61, 62, 58, 57, 56, 55, 54, 53, 52, 50, 51] h h28 := (mh_fr.tr fr27 fr28).mono (by simp)
  refine mh_iconst (pc := 125) F dX10_init_125 ?_
  refine mh_istore2 (pc := 126) F dX10_init_126 rfl (by decide) ?_
  refine mh_iload2 (pc := 127) F dX10_init_127 ?_
  refine mh_iconst (pc := 128) F dX10_init_128 ?_
  refine mh_icmp_ge (pc := 129) (tgt := 159) F dX10_init_129 rfl (by omega) (by omega) (fun c_129 => ?_) (fun c_129 => ?_)
  · exact absurd c_129 (by decide)
  · refine mh_aload0 (pc := 132) F dX10_init_132 ?_
    refine mh_getr (b := 54) (pc := 133) F sh_50 (by decide) fw_RX10_21_10 dX10_init_133 rfl (by rw [r50_29]; simp [mh_ur]) ?_
    refine mh_iload2 (pc := 136) F dX10_init_136 ?_
    refine mh_iload2 (pc := 137) F dX10_init_137 ?_
    refine mh_iconst (pc := 138) F dX10_init_138 ?_
    refine mh_iadd (pc := 139) F dX10_init_139 ?_
    refine mh_top (y := 1) rfl ?_
    refine mh_iastore (pc := 140) F sh_54 (by decide) (by omega) dX10_init_140 ?_
    refine mh_nmh (fun h30 e30 => ?_)
    have r50_30 : h30 50 = mh_ur (mh_ur (mh_ur (mh_ur (mh_ur (mh_ur (mh_ur (mh_ur (mh_ur (mh_ur (mh_ur (fun _ => (0 : Int)) 0 (((51 : Nat) : Int) + 1)) 1 (((52 : Nat) : Int) + 1)) 2 (((53 : Nat) : Int) + 1)) 3 (((54 : Nat) : Int) + 1)) 4 (((55 : Nat) : Int) + 1)) 5 (((56 : Nat) : Int) + 1)) 9 (((57 : Nat) : Int) + 1)) 11 (((58 : Nat) : Int) + 1)) 12 (((63 : Nat) : Int) + 1)) 13 (((68 : Nat) : Int) + 1)) 15 1 := by rw [e30, mh_up_row (by decide)]; exact r50_29
    have r52_30 : h30 52 = fun _ => (0 : Int) := by rw [e30, mh_up_row (by decide)]; exact r52_29
    have r54_30 : h30 54 = mh_ur (fun _ => (0 : Int)) 0 1 := by rw [e30, mh_up_rs, r54_29] <;> rfl
    have r55_30 : h30 55 = fun _ => (0 : Int) := by rw [e30, mh_up_row (by decide)]; exact r55_29
    have r56_30 : h30 56 = fun _ => (0 : Int) := by rw [e30, mh_up_row (by decide)]; exact r56_29
    have r57_30 : h30 57 = fun _ => (0 : Int) := by rw [e30, mh_up_row (by decide)]; exact r57_29
    have r58_30 : h30 58 = T58 := by rw [e30, mh_up_row (by decide)]; exact r58_29
    have r59_30 : h30 59 = T59 := by rw [e30, mh_up_row (by decide)]; exact r59_29
    have r63_30 : h30 63 = T63 := by rw [e30, mh_up_row (by decide)]; exact r63_29
    have r64_30 : h30 64 = T64 := by rw [e30, mh_up_row (by decide)]; exact r64_29
    have r51_30 : h30 51 = T51 := by rw [e30, mh_up_row (by decide)]; exact r51_29
    have r53_30 : h30 53 = T53 := by rw [e30, mh_up_row (by decide)]; exact eT53.symm
    have fr30 : mh_fr [68, 64, 65, 66, 67, 63, 59, 60, 61, 62, 58, 57, 56, 55, 54, 53, 52, 50, 51] h h30 := mh_fr.upi fr29 e30 (by simp)
    refine mh_aload0 (pc := 141) F dX10_init_141 ?_
    refine mh_getr (b := 55) (pc := 142) F sh_50 (by decide) fw_RX10_24_10 dX10_init_142 rfl (by rw [r50_30]; simp [mh_ur]) ?_
    refine mh_iload2 (pc := 145) F dX10_init_145 ?_
    refine mh_bipush (pc := 146) F dX10_init_146 rfl ?_
    refine mh_iconst (pc := 148) F dX10_init_148 ?_
    refine mh_iload2 (pc := 149) F dX10_init_149 ?_
    refine mh_imul (pc := 150) F dX10_init_150 ?_
    refine mh_top (y := 0) rfl ?_
    refine mh_isub (pc := 151) F dX10_init_151 ?_
    refine mh_top (y := 9) rfl ?_
    refine mh_iastore (pc := 152) F sh_55 (by decide) (by omega) dX10_init_152 ?_
    refine mh_nmh (fun h31 e31 => ?_)
    have r50_31 : h31 50 = mh_ur (mh_ur (mh_ur (mh_ur (mh_ur (mh_ur (mh_ur (mh_ur (mh_ur (mh_ur (mh_ur (fun _ => (0 : Int)) 0 (((51 : Nat) : Int) + 1)) 1 (((52 : Nat) : Int) + 1)) 2 (((53 : Nat) : Int) + 1)) 3 (((54 : Nat) : Int) + 1)) 4 (((55 : Nat) : Int) + 1)) 5 (((56 : Nat) : Int) + 1)) 9 (((57 : Nat) : Int) + 1)) 11 (((58 : Nat) : Int) + 1)) 12 (((63 : Nat) : Int) + 1)) 13 (((68 : Nat) : Int) + 1)) 15 1 := by rw [e31, mh_up_row (by decide)]; exact r50_30
    have r52_31 : h31 52 = fun _ => (0 : Int) := by rw [e31, mh_up_row (by decide)]; exact r52_30
    have r54_31 : h31 54 = mh_ur (fun _ => (0 : Int)) 0 1 := by rw [e31, mh_up_row (by decide)]; exact r54_30
    have r55_31 : h31 55 = mh_ur (fun _ => (0 : Int)) 0 9 := by rw [e31, mh_up_rs, r55_30] <;> rfl
    have r56_31 : h31 56 = fun _ => (0 : Int) := by rw [e31, mh_up_row (by decide)]; exact r56_30
    have r57_31 : h31 57 = fun _ => (0 : Int) := by rw [e31, mh_up_row (by decide)]; exact r57_30
    have r58_31 : h31 58 = T58 := by rw [e31, mh_up_row (by decide)]; exact r58_30
    have r59_31 : h31 59 = T59 := by rw [e31, mh_up_row (by decide)]; exact r59_30
    have r63_31 : h31 63 = T63 := by rw [e31, mh_up_row (by decide)]; exact r63_30
    have r64_31 : h31 64 = T64 := by rw [e31, mh_up_row (by decide)]; exact r64_30
    have r51_31 : h31 51 = T51 := by rw [e31, mh_up_row (by decide)]; exact r51_30
    have r53_31 : h31 53 = T53 := by rw [e31, mh_up_row (by decide)]; exact r53_30
    have fr31 : mh_fr [68, 64, 65, 66, 67, 63, 59, 60, 61, 62, 58, 57, 56, 55, 54, 53, 52, 50, 51] h h31 := mh_fr.upi fr30 e31 (by simp)
    refine mh_iinc2 (pc := 153) F dX10_init_153 rfl (by decide) ?_
    refine mh_goto (pc := 156) (tgt := 127) F dX10_init_156 rfl ?_
    refine mh_iload2 (pc := 127) F dX10_init_127 ?_
    refine mh_iconst (pc := 128) F dX10_init_128 ?_
    refine mh_icmp_ge (pc := 129) (tgt := 159) F dX10_init_129 rfl (by omega) (by omega) (fun c_129 => ?_) (fun c_129 => ?_)
    · exact absurd c_129 (by decide)
    · refine mh_aload0 (pc := 132) F dX10_init_132 ?_
      refine mh_getr (b := 54) (pc := 133) F sh_50 (by decide) fw_RX10_21_10 dX10_init_133 rfl (by rw [r50_31]; simp [mh_ur]) ?_
      refine mh_iload2 (pc := 136) F dX10_init_136 ?_
      refine mh_iload2 (pc := 137) F dX10_init_137 ?_
      refine mh_iconst (pc := 138) F dX10_init_138 ?_
      refine mh_iadd (pc := 139) F dX10_init_139 ?_
      refine mh_top (y := 2) rfl ?_
      refine mh_iastore (pc := 140) F sh_54 (by decide) (by omega) dX10_init_140 ?_
      refine mh_nmh (fun h32 e32 => ?_)
      have r50_32 : h32 50 = mh_ur (mh_ur (mh_ur (mh_ur (mh_ur (mh_ur (mh_ur (mh_ur (mh_ur (mh_ur (mh_ur (fun _ => (0 : Int)) 0 (((51 : Nat) : Int) + 1)) 1 (((52 : Nat) : Int) + 1)) 2 (((53 : Nat) : Int) + 1)) 3 (((54 : Nat) : Int) + 1)) 4 (((55 : Nat) : Int) + 1)) 5 (((56 : Nat) : Int) + 1)) 9 (((57 : Nat) : Int) + 1)) 11 (((58 : Nat) : Int) + 1)) 12 (((63 : Nat) : Int) + 1)) 13 (((68 : Nat) : Int) + 1)) 15 1 := by rw [e32, mh_up_row (by decide)]; exact r50_31
      have r52_32 : h32 52 = fun _ => (0 : Int) := by rw [e32, mh_up_row (by decide)]; exact r52_31
      have r54_32 : h32 54 = mh_ur (mh_ur (fun _ => (0 : Int)) 0 1) 1 2 := by rw [e32, mh_up_rs, r54_31] <;> rfl
      have r55_32 : h32 55 = mh_ur (fun _ => (0 : Int)) 0 9 := by rw [e32, mh_up_row (by decide)]; exact r55_31
      have r56_32 : h32 56 = fun _ => (0 : Int) := by rw [e32, mh_up_row (by decide)]; exact r56_31
      have r57_32 : h32 57 = fun _ => (0 : Int) := by rw [e32, mh_up_row (by decide)]; exact r57_31
      have r58_32 : h32 58 = T58 := by rw [e32, mh_up_row (by decide)]; exact r58_31
      have r59_32 : h32 59 = T59 := by rw [e32, mh_up_row (by decide)]; exact r59_31
      have r63_32 : h32 63 = T63 := by rw [e32, mh_up_row (by decide)]; exact r63_31
      have r64_32 : h32 64 = T64 := by rw [e32, mh_up_row (by decide)]; exact r64_31
      have r51_32 : h32 51 = T51 := by rw [e32, mh_up_row (by decide)]; exact r51_31
      have r53_32 : h32 53 = T53 := by rw [e32, mh_up_row (by decide)]; exact r53_31
      have fr32 : mh_fr [68, 64, 65, 66, 67, 63, 59, 60, 61, 62, 58, 57, 56, 55, 54, 53, 52, 50, 51] h h32 := mh_fr.upi fr31 e32 (by simp)
      refine mh_aload0 (pc := 141) F dX10_init_141 ?_
      refine mh_getr (b := 55) (pc := 142) F sh_50 (by decide) fw_RX10_24_10 dX10_init_142 rfl (by rw [r50_32]; simp [mh_ur]) ?_
      refine mh_iload2 (pc := 145) F dX10_init_145 ?_
      refine mh_bipush (pc := 146) F dX10_init_146 rfl ?_
      refine mh_iconst (pc := 148) F dX10_init_148 ?_
      refine mh_iload2 (pc := 149) F dX10_init_149 ?_
      refine mh_imul (pc := 150) F dX10_init_150 ?_
      refine mh_top (y := 2) rfl ?_
      refine mh_isub (pc := 151) F dX10_init_151 ?_
      refine mh_top (y := 7) rfl ?_
      refine mh_iastore (pc := 152) F sh_55 (by decide) (by omega) dX10_init_152 ?_
      refine mh_nmh (fun h33 e33 => ?_)
      have r50_33 : h33 50 = mh_ur (mh_ur (mh_ur (mh_ur (mh_ur (mh_ur (mh_ur (mh_ur (mh_ur (mh_ur (mh_ur (fun _ => (0 : Int)) 0 (((51 : Nat) : Int) + 1)) 1 (((52 : Nat) : Int) + 1)) 2 (((53 : Nat) : Int) + 1)) 3 (((54 : Nat) : Int) + 1)) 4 (((55 : Nat) : Int) + 1)) 5 (((56 : Nat) : Int) + 1)) 9 (((57 : Nat) : Int) + 1)) 11 (((58 : Nat) : Int) + 1)) 12 (((63 : Nat) : Int) + 1)) 13 (((68 : Nat) : Int) + 1)) 15 1 := by rw [e33, mh_up_row (by decide)]; exact r50_32
      have r52_33 : h33 52 = fun _ => (0 : Int) := by rw [e33, mh_up_row (by decide)]; exact r52_32
      have r54_33 : h33 54 = mh_ur (mh_ur (fun _ => (0 : Int)) 0 1) 1 2 := by rw [e33, mh_up_row (by decide)]; exact r54_32
      have r55_33 : h33 55 = mh_ur (mh_ur (fun _ => (0 : Int)) 0 9) 1 7 := by rw [e33, mh_up_rs, r55_32] <;> rfl
      have r56_33 : h33 56 = fun _ => (0 : Int) := by rw [e33, mh_up_row (by decide)]; exact r56_32
      have r57_33 : h33 57 = fun _ => (0 : Int) := by rw [e33, mh_up_row (by decide)]; exact r57_32
      have r58_33 : h33 58 = T58 := by rw [e33, mh_up_row (by decide)]; exact r58_32
      have r59_33 : h33 59 = T59 := by rw [e33, mh_up_row (by decide)]; exact r59_32
      have r63_33 : h33 63 = T63 := by rw [e33, mh_up_row (by decide)]; exact r63_32
      have r64_33 : h33 64 = T64 := by rw [e33, mh_up_row (by decide)]; exact r64_32
      have r51_33 : h33 51 = T51 := by rw [e33, mh_up_row (by decide)]; exact r51_32
      have r53_33 : h33 53 = T53 := by rw [e33, mh_up_row (by decide)]; exact r53_32
      have fr33 : mh_fr [68, 64, 65, 66, 67, 63, 59, 60, 61, 62, 58, 57, 56, 55, 54, 53, 52, 50, 51] h h33 := mh_fr.upi fr32 e33 (by simp)
      refine mh_iinc2 (pc := 153) F dX10_init_153 rfl (by decide) ?_
      refine mh_goto (pc := 156) (tgt := 127) F dX10_init_156 rfl ?_
      refine mh_iload2 (pc := 127) F dX10_init_127 ?_
      refine mh_iconst (pc := 128) F dX10_init_128 ?_
      refine mh_icmp_ge (pc := 129) (tgt := 159) F dX10_init_129 rfl (by omega) (by omega) (fun c_129 => ?_) (fun c_129 => ?_)
      · exact absurd c_129 (by decide)
      · refine mh_aload0 (pc := 132) F dX10_init_132 ?_
        refine mh_getr (b := 54) (pc := 133) F sh_50 (by decide) fw_RX10_21_10 dX10_init_133 rfl (by rw [r50_33]; simp [mh_ur]) ?_
        refine mh_iload2 (pc := 136) F dX10_init_136 ?_
        refine mh_iload2 (pc := 137) F dX10_init_137 ?_
        refine mh_iconst (pc := 138) F dX10_init_138 ?_
        refine mh_iadd (pc := 139) F dX10_init_139 ?_
        refine mh_top (y := 3) rfl ?_
        refine mh_iastore (pc := 140) F sh_54 (by decide) (by omega) dX10_init_140 ?_
        refine mh_nmh (fun h34 e34 => ?_)
        have r50_34 : h34 50 = mh_ur (mh_ur (mh_ur (mh_ur (mh_ur (mh_ur (mh_ur (mh_ur (mh_ur (mh_ur (mh_ur (fun _ => (0 : Int)) 0 (((51 : Nat) : Int) + 1)) 1 (((52 : Nat) : Int) + 1)) 2 (((53 : Nat) : Int) + 1)) 3 (((54 : Nat) : Int) + 1)) 4 (((55 : Nat) : Int) + 1)) 5 (((56 : Nat) : Int) + 1)) 9 (((57 : Nat) : Int) + 1)) 11 (((58 : Nat) : Int) + 1)) 12 (((63 : Nat) : Int) + 1)) 13 (((68 : Nat) : Int) + 1)) 15 1 := by rw [e34, mh_up_row (by decide)]; exact r50_33
        have r52_34 : h34 52 = fun _ => (0 : Int) := by rw [e34, mh_up_row (by decide)]; exact r52_33
        have r54_34 : h34 54 = mh_ur (mh_ur (mh_ur (fun _ => (0 : Int)) 0 1) 1 2) 2 3 := by rw [e34, mh_up_rs, r54_33] <;> rfl
        have r55_34 : h34 55 = mh_ur (mh_ur (fun _ => (0 : Int)) 0 9) 1 7 := by rw [e34, mh_up_row (by decide)]; exact r55_33
        have r56_34 : h34 56 = fun _ => (0 : Int) := by rw [e34, mh_up_row (by decide)]; exact r56_33
        have r57_34 : h34 57 = fun _ => (0 : Int) := by rw [e34, mh_up_row (by decide)]; exact r57_33
        have r58_34 : h34 58 = T58 := by rw [e34, mh_up_row (by decide)]; exact r58_33
        have r59_34 : h34 59 = T59 := by rw [e34, mh_up_row (by decide)]; exact r59_33
        have r63_34 : h34 63 = T63 := by rw [e34, mh_up_row (by decide)]; exact r63_33
        have r64_34 : h34 64 = T64 := by rw [e34, mh_up_row (by decide)]; exact r64_33
        have r51_34 : h34 51 = T51 := by rw [e34, mh_up_row (by decide)]; exact r51_33
        have r53_34 : h34 53 = T53 := by rw [e34, mh_up_row (by decide)]; exact r53_33
        have fr34 : mh_fr [68, 64, 65, 66, 67, 63, 59, 60, 61, 62, 58, 57, 56, 55, 54, 53, 52, 50, 51] h h34 := mh_fr.upi fr33 e34 (by simp)
        refine mh_aload0 (pc := 141) F dX10_init_141 ?_
        refine mh_getr (b := 55) (pc := 142) F sh_50 (by decide) fw_RX10_24_10 dX10_init_142 rfl (by rw [r50_34]; simp [mh_ur]) ?_
        refine mh_iload2 (pc := 145) F dX10_init_145 ?_
        refine mh_bipush (pc := 146) F dX10_init_146 rfl ?_
        refine mh_iconst (pc := 148) F dX10_init_148 ?_
        refine mh_iload2 (pc := 149) F dX10_init_149 ?_
        refine mh_imul (pc := 150) F dX10_init_150 ?_
        refine mh_top (y := 4) rfl ?_
        refine mh_isub (pc := 151) F dX10_init_151 ?_
        refine mh_top (y := 5) rfl ?_
        refine mh_iastore (pc := 152) F sh_55 (by decide) (by omega) dX10_init_152 ?_
        refine mh_nmh (fun h35 e35 => ?_)
        have r50_35 : h35 50 = mh_ur (mh_ur (mh_ur (mh_ur (mh_ur (mh_ur (mh_ur (mh_ur (mh_ur (mh_ur (mh_ur (fun _ => (0 : Int)) 0 (((51 : Nat) : Int) + 1)) 1 (((52 : Nat) : Int) + 1)) 2 (((53 : Nat) : Int) + 1)) 3 (((54 : Nat) : Int) + 1)) 4 (((55 : Nat) : Int) + 1)) 5 (((56 : Nat) : Int) + 1)) 9 (((57 : Nat) : Int) + 1)) 11 (((58 : Nat) : Int) + 1)) 12 (((63 : Nat) : Int) + 1)) 13 (((68 : Nat) : Int) + 1)) 15 1 := by rw [e35, mh_up_row (by decide)]; exact r50_34
        have r52_35 : h35 52 = fun _ => (0 : Int) := by rw [e35, mh_up_row (by decide)]; exact r52_34
        have r54_35 : h35 54 = mh_ur (mh_ur (mh_ur (fun _ => (0 : Int)) 0 1) 1 2) 2 3 := by rw [e35, mh_up_row (by decide)]; exact r54_34
        have r55_35 : h35 55 = mh_ur (mh_ur (mh_ur (fun _ => (0 : Int)) 0 9) 1 7) 2 5 := by rw [e35, mh_up_rs, r55_34] <;> rfl
        have r56_35 : h35 56 = fun _ => (0 : Int) := by rw [e35, mh_up_row (by decide)]; exact r56_34
        have r57_35 : h35 57 = fun _ => (0 : Int) := by rw [e35, mh_up_row (by decide)]; exact r57_34
        have r58_35 : h35 58 = T58 := by rw [e35, mh_up_row (by decide)]; exact r58_34
        have r59_35 : h35 59 = T59 := by rw [e35, mh_up_row (by decide)]; exact r59_34
        have r63_35 : h35 63 = T63 := by rw [e35, mh_up_row (by decide)]; exact r63_34
        have r64_35 : h35 64 = T64 := by rw [e35, mh_up_row (by decide)]; exact r64_34
        have r51_35 : h35 51 = T51 := by rw [e35, mh_up_row (by decide)]; exact r51_34
        have r53_35 : h35 53 = T53 := by rw [e35, mh_up_row (by decide)]; exact r53_34
        have fr35 : mh_fr [68, 64, 65, 66, 67, 63, 59, 60, 61, 62, 58, 57, 56, 55, 54, 53, 52, 50, 51] h h35 := mh_fr.upi fr34 e35 (by simp)
        refine mh_iinc2 (pc := 153) F dX10_init_153 rfl (by decide) ?_
        refine mh_goto (pc := 156) (tgt := 127) F dX10_init_156 rfl ?_
        refine mh_iload2 (pc := 127) F dX10_init_127 ?_
        refine mh_iconst (pc := 128) F dX10_init_128 ?_
        refine mh_icmp_ge (pc := 129) (tgt := 159) F dX10_init_129 rfl (by omega) (by omega) (fun c_129 => ?_) (fun c_129 => ?_)
        · exact absurd c_129 (by decide)
        · refine mh_aload0 (pc := 132) F dX10_init_132 ?_
          refine mh_getr (b := 54) (pc := 133) F sh_50 (by decide) fw_RX10_21_10 dX10_init_133 rfl (by rw [r50_35]; simp [mh_ur]) ?_
          refine mh_iload2 (pc := 136) F dX10_init_136 ?_
          refine mh_iload2 (pc := 137) F dX10_init_137 ?_
          refine mh_iconst (pc := 138) F dX10_init_138 ?_
          refine mh_iadd (pc := 139) F dX10_init_139 ?_
          refine mh_top (y := 4) rfl ?_
          refine mh_iastore (pc := 140) F sh_54 (by decide) (by omega) dX10_init_140 ?_
          refine mh_nmh (fun h36 e36 => ?_)
          have r50_36 : h36 50 = mh_ur (mh_ur (mh_ur (mh_ur (mh_ur (mh_ur (mh_ur (mh_ur (mh_ur (mh_ur (mh_ur (fun _ => (0 : Int)) 0 (((51 : Nat) : Int) + 1)) 1 (((52 : Nat) : Int) + 1)) 2 (((53 : Nat) : Int) + 1)) 3 (((54 : Nat) : Int) + 1)) 4 (((55 : Nat) : Int) + 1)) 5 (((56 : Nat) : Int) + 1)) 9 (((57 : Nat) : Int) + 1)) 11 (((58 : Nat) : Int) + 1)) 12 (((63 : Nat) : Int) + 1)) 13 (((68 : Nat) : Int) + 1)) 15 1 := by rw [e36, mh_up_row (by decide)]; exact r50_35
          have r52_36 : h36 52 = fun _ => (0 : Int) := by rw [e36, mh_up_row (by decide)]; exact r52_35
          have r54_36 : h36 54 = mh_ur (mh_ur (mh_ur (mh_ur (fun _ => (0 : Int)) 0 1) 1 2) 2 3) 3 4 := by rw [e36, mh_up_rs, r54_35] <;> rfl
          have r55_36 : h36 55 = mh_ur (mh_ur (mh_ur (fun _ => (0 : Int)) 0 9) 1 7) 2 5 := by rw [e36, mh_up_row (by decide)]; exact r55_35
          have r56_36 : h36 56 = fun _ => (0 : Int) := by rw [e36, mh_up_row (by decide)]; exact r56_35
          have r57_36 : h36 57 = fun _ => (0 : Int) := by rw [e36, mh_up_row (by decide)]; exact r57_35
          have r58_36 : h36 58 = T58 := by rw [e36, mh_up_row (by decide)]; exact r58_35
          have r59_36 : h36 59 = T59 := by rw [e36, mh_up_row (by decide)]; exact r59_35
          have r63_36 : h36 63 = T63 := by rw [e36, mh_up_row (by decide)]; exact r63_35
          have r64_36 : h36 64 = T64 := by rw [e36, mh_up_row (by decide)]; exact r64_35
          have r51_36 : h36 51 = T51 := by rw [e36, mh_up_row (by decide)]; exact r51_35
          have r53_36 : h36 53 = T53 := by rw [e36, mh_up_row (by decide)]; exact r53_35
          have fr36 : mh_fr [68, 64, 65, 66, 67, 63, 59, 60, 61, 62, 58, 57, 56, 55, 54, 53, 52, 50, 51] h h36 := mh_fr.upi fr35 e36 (by simp)
          refine mh_aload0 (pc := 141) F dX10_init_141 ?_
          refine mh_getr (b := 55) (pc := 142) F sh_50 (by decide) fw_RX10_24_10 dX10_init_142 rfl (by rw [r50_36]; simp [mh_ur]) ?_
          refine mh_iload2 (pc := 145) F dX10_init_145 ?_
          refine mh_bipush (pc := 146) F dX10_init_146 rfl ?_
          refine mh_iconst (pc := 148) F dX10_init_148 ?_
          refine mh_iload2 (pc := 149) F dX10_init_149 ?_
          refine mh_imul (pc := 150) F dX10_init_150 ?_
          refine mh_top (y := 6) rfl ?_
          refine mh_isub (pc := 151) F dX10_init_151 ?_
          refine mh_top (y := 3) rfl ?_
          refine mh_iastore (pc := 152) F sh_55 (by decide) (by omega) dX10_init_152 ?_
          refine mh_nmh (fun h37 e37 => ?_)
          have r50_37 : h37 50 = mh_ur (mh_ur (mh_ur (mh_ur (mh_ur (mh_ur (mh_ur (mh_ur (mh_ur (mh_ur (mh_ur (fun _ => (0 : Int)) 0 (((51 : Nat) : Int) + 1)) 1 (((52 : Nat) : Int) + 1)) 2 (((53 : Nat) : Int) + 1)) 3 (((54 : Nat) : Int) + 1)) 4 (((55 : Nat) : Int) + 1)) 5 (((56 : Nat) : Int) + 1)) 9 (((57 : Nat) : Int) + 1)) 11 (((58 : Nat) : Int) + 1)) 12 (((63 : Nat) : Int) + 1)) 13 (((68 : Nat) : Int) + 1)) 15 1 := by rw [e37, mh_up_row (by decide)]; exact r50_36
          have r52_37 : h37 52 = fun _ => (0 : Int) := by rw [e37, mh_up_row (by decide)]; exact r52_36
          have r54_37 : h37 54 = mh_ur (mh_ur (mh_ur (mh_ur (fun _ => (0 : Int)) 0 1) 1 2) 2 3) 3 4 := by rw [e37, mh_up_row (by decide)]; exact r54_36
          have r55_37 : h37 55 = mh_ur (mh_ur (mh_ur (mh_ur (fun _ => (0 : Int)) 0 9) 1 7) 2 5) 3 3 := by rw [e37, mh_up_rs, r55_36] <;> rfl
          have r56_37 : h37 56 = fun _ => (0 : Int) := by rw [e37, mh_up_row (by decide)]; exact r56_36
          have r57_37 : h37 57 = fun _ => (0 : Int) := by rw [e37, mh_up_row (by decide)]; exact r57_36
          have r58_37 : h37 58 = T58 := by rw [e37, mh_up_row (by decide)]; exact r58_36
          have r59_37 : h37 59 = T59 := by rw [e37, mh_up_row (by decide)]; exact r59_36
          have r63_37 : h37 63 = T63 := by rw [e37, mh_up_row (by decide)]; exact r63_36
          have r64_37 : h37 64 = T64 := by rw [e37, mh_up_row (by decide)]; exact r64_36
          have r51_37 : h37 51 = T51 := by rw [e37, mh_up_row (by decide)]; exact r51_36
          have r53_37 : h37 53 = T53 := by rw [e37, mh_up_row (by decide)]; exact r53_36
          have fr37 : mh_fr [68, 64, 65, 66, 67, 63, 59, 60, 61, 62, 58, 57, 56, 55, 54, 53, 52, 50, 51] h h37 := mh_fr.upi fr36 e37 (by simp)
          refine mh_iinc2 (pc := 153) F dX10_init_153 rfl (by decide) ?_
          refine mh_goto (pc := 156) (tgt := 127) F dX10_init_156 rfl ?_
          refine mh_iload2 (pc := 127) F dX10_init_127 ?_
          refine mh_iconst (pc := 128) F dX10_init_128 ?_
          refine mh_icmp_ge (pc := 129) (tgt := 159) F dX10_init_129 rfl (by omega) (by omega) (fun c_129 => ?_) (fun c_129 => ?_)
          · refine mh_iconst (pc := 159) F dX10_init_159 ?_
            refine mh_istore2 (pc := 160) F dX10_init_160 rfl (by decide) ?_
            refine mh_iload2 (pc := 161) F dX10_init_161 ?_
            refine mh_bipush (pc := 162) F dX10_init_162 rfl ?_
            refine mh_icmp_ge (pc := 164) (tgt := 188) F dX10_init_164 rfl (by omega) (by omega) (fun c_164 => ?_) (fun c_164 => ?_)
            · exact absurd c_164 (by decide)
            · refine mh_aload0 (pc := 167) F dX10_init_167 ?_
              refine mh_getr (b := 56) (pc := 168) F sh_50 (by decide) fw_RX10_29_10 dX10_init_168 rfl (by rw [r50_37]; simp [mh_ur]) ?_
              refine mh_iload2 (pc := 171) F dX10_init_171 ?_
              refine mh_new (ci := 0) (n1 := 70) (cl1 := 19) (sl1 := 461) (pc := 172) F sh_69 (by decide) tw_1_144 tw_2_114 tw_1_20 ⟨rfl, rfl, rfl⟩ (by rw [hR.1, hR.2]; exact ⟨Nat.le_of_ble_eq_true rfl, Nat.le_of_ble_eq_true rfl⟩) dX10_init_172 ?_
              refine mh_nmh (fun h38 e38 => ?_)
              have r50_38 : h38 50 = mh_ur (mh_ur (mh_ur (mh_ur (mh_ur (mh_ur (mh_ur (mh_ur (mh_ur (mh_ur (mh_ur (fun _ => (0 : Int)) 0 (((51 : Nat) : Int) + 1)) 1 (((52 : Nat) : Int) + 1)) 2 (((53 : Nat) : Int) + 1)) 3 (((54 : Nat) : Int) + 1)) 4 (((55 : Nat) : Int) + 1)) 5 (((56 : Nat) : Int) + 1)) 9 (((57 : Nat) : Int) + 1)) 11 (((58 : Nat) : Int) + 1)) 12 (((63 : Nat) : Int) + 1)) 13 (((68 : Nat) : Int) + 1)) 15 1 := by rw [e38, mh_zr_row (by decide)]; exact r50_37
              have r52_38 : h38 52 = fun _ => (0 : Int) := by rw [e38, mh_zr_row (by decide)]; exact r52_37
              have r54_38 : h38 54 = mh_ur (mh_ur (mh_ur (mh_ur (fun _ => (0 : Int)) 0 1) 1 2) 2 3) 3 4 := by rw [e38, mh_zr_row (by decide)]; exact r54_37
              have r55_38 : h38 55 = mh_ur (mh_ur (mh_ur (mh_ur (fun _ => (0 : Int)) 0 9) 1 7) 2 5) 3 3 := by rw [e38, mh_zr_row (by decide)]; exact r55_37
              have r56_38 : h38 56 = fun _ => (0 : Int) := by rw [e38, mh_zr_row (by decide)]; exact r56_37
              have r57_38 : h38 57 = fun _ => (0 : Int) := by rw [e38, mh_zr_row (by decide)]; exact r57_37
              have r58_38 : h38 58 = T58 := by rw [e38, mh_zr_row (by decide)]; exact r58_37
              have r59_38 : h38 59 = T59 := by rw [e38, mh_zr_row (by decide)]; exact r59_37
              have r63_38 : h38 63 = T63 := by rw [e38, mh_zr_row (by decide)]; exact r63_37
              have r64_38 : h38 64 = T64 := by rw [e38, mh_zr_row (by decide)]; exact r64_37
              have r51_38 : h38 51 = T51 := by rw [e38, mh_zr_row (by decide)]; exact r51_37
              have r53_38 : h38 53 = T53 := by rw [e38, mh_zr_row (by decide)]; exact r53_37
              have r69_38 : h38 69 = fun _ => (0 : Int) := by rw [e38]; exact mh_zr_rs
              have fr38 : mh_fr [69, 68, 64, 65, 66, 67, 63, 59, 60, 61, 62, 58, 57, 56, 55, 54, 53, 52, 50, 51] h h38 := mh_fr.zr fr37 e38
              refine mh_dup (pc := 175) F dX10_init_175 rfl ?_
              refine mh_iload2 (pc := 176) F dX10_init_176 ?_
              refine mh_aload1 (pc := 177) F dX10_init_177 ?_
              refine mh_callIx (pc := 178) (As := [.int (Int32.ofInt (0)), .ref 2]) (st := [.ref 69, .int (Int32.ofInt (0)), .ref 56]) (n1 := 70) (cl1 := 19) (sl1 := 461) F (by omega) (q44_churn (by omega) sh_69 (by decide)) ⟨rfl, rfl, rfl⟩ wi_RX10_70 dX10_init_178 rfl rfl (Nat.le_of_ble_eq_true rfl) (by rw [hR.1, hR.2]; exact ⟨Nat.le_of_ble_eq_true rfl, Nat.le_of_ble_eq_true rfl⟩) (fun r39 h39 q39 => ?_)
              obtain ⟨rfl, fr39, hc39⟩ := q39
              have r50_40 : h39 50 = mh_ur (mh_ur (mh_ur (mh_ur (mh_ur (mh_ur (mh_ur (mh_ur (mh_ur (mh_ur (mh_ur (fun _ => (0 : Int)) 0 (((51 : Nat) : Int) + 1)) 1 (((52 : Nat) : Int) + 1)) 2 (((53 : Nat) : Int) + 1)) 3 (((54 : Nat) : Int) + 1)) 4 (((55 : Nat) : Int) + 1)) 5 (((56 : Nat) : Int) + 1)) 9 (((57 : Nat) : Int) + 1)) 11 (((58 : Nat) : Int) + 1)) 12 (((63 : Nat) : Int) + 1)) 13 (((68 : Nat) : Int) + 1)) 15 1 := (fr39 _ (by decide)).trans r50_38
              have r52_40 : h39 52 = fun _ => (0 : Int) := (fr39 _ (by decide)).trans r52_38
              have r54_40 : h39 54 = mh_ur (mh_ur (mh_ur (mh_ur (fun _ => (0 : Int)) 0 1) 1 2) 2 3) 3 4 := (fr39 _ (by decide)).trans r54_38
              have r55_40 : h39 55 = mh_ur (mh_ur (mh_ur (mh_ur (fun _ => (0 : Int)) 0 9) 1 7) 2 5) 3 3 := (fr39 _ (by decide)).trans r55_38
              have r56_40 : h39 56 = fun _ => (0 : Int) := (fr39 _ (by decide)).trans r56_38
              have r57_40 : h39 57 = fun _ => (0 : Int) := (fr39 _ (by decide)).trans r57_38
              have r58_40 : h39 58 = T58 := (fr39 _ (by decide)).trans r58_38
              have r59_40 : h39 59 = T59 := (fr39 _ (by decide)).trans r59_38
              have r63_40 : h39 63 = T63 := (fr39 _ (by decide)).trans r63_38
              have r64_40 : h39 64 = T64 := (fr39 _ (by decide)).trans r64_38
              have r51_40 : h39 51 = T51 := (fr39 _ (by decide)).trans r51_38
              have r53_40 : h39 53 = T53 := (fr39 _ (by decide)).trans r53_38
              have fr40 : mh_fr [69, 68, 64, 65, 66, 67, 63, 59, 60, 61, 62, 58, 57, 56, 55, 54, 53, 52, 50, 51] h h39 := (mh_fr.tr fr38 fr39).mono (by simp)
              refine mh_aastore (pc := 181) F sh_56 sh_69 (by decide) rfl (by decide) (by decide) (by decide) (Or.inl rfl) dX10_init_181 ?_
              refine mh_nmh (fun h41 e41 => ?_)
              have r50_41 : h41 50 = mh_ur (mh_ur (mh_ur (mh_ur (mh_ur (mh_ur (mh_ur (mh_ur (mh_ur (mh_ur (mh_ur (fun _ => (0 : Int)) 0 (((51 : Nat) : Int) + 1)) 1 (((52 : Nat) : Int) + 1)) 2 (((53 : Nat) : Int) + 1)) 3 (((54 : Nat) : Int) + 1)) 4 (((55 : Nat) : Int) + 1)) 5 (((56 : Nat) : Int) + 1)) 9 (((57 : Nat) : Int) + 1)) 11 (((58 : Nat) : Int) + 1)) 12 (((63 : Nat) : Int) + 1)) 13 (((68 : Nat) : Int) + 1)) 15 1 := by rw [e41, mh_up_row (by decide)]; exact r50_40
              have r52_41 : h41 52 = fun _ => (0 : Int) := by rw [e41, mh_up_row (by decide)]; exact r52_40
              have r54_41 : h41 54 = mh_ur (mh_ur (mh_ur (mh_ur (fun _ => (0 : Int)) 0 1) 1 2) 2 3) 3 4 := by rw [e41, mh_up_row (by decide)]; exact r54_40
              have r55_41 : h41 55 = mh_ur (mh_ur (mh_ur (mh_ur (fun _ => (0 : Int)) 0 9) 1 7) 2 5) 3 3 := by rw [e41, mh_up_row (by decide)]; exact r55_40
              have r56_41 : h41 56 = mh_ur (fun _ => (0 : Int)) 0 (((69 : Nat) : Int) + 1) := by rw [e41, mh_up_rs, r56_40] <;> rfl
              have r57_41 : h41 57 = fun _ => (0 : Int) := by rw [e41, mh_up_row (by decide)]; exact r57_40
              have r58_41 : h41 58 = T58 := by rw [e41, mh_up_row (by decide)]; exact r58_40
              have r59_41 : h41 59 = T59 := by rw [e41, mh_up_row (by decide)]; exact r59_40
              have r63_41 : h41 63 = T63 := by rw [e41, mh_up_row (by decide)]; exact r63_40
              have r64_41 : h41 64 = T64 := by rw [e41, mh_up_row (by decide)]; exact r64_40
              have r51_41 : h41 51 = T51 := by rw [e41, mh_up_row (by decide)]; exact r51_40
              have r53_41 : h41 53 = T53 := by rw [e41, mh_up_row (by decide)]; exact r53_40
              have r69_41 : h41 69 = sc_c0 0 := by rw [e41, mh_up_row (by decide)]; exact (hc39.trans (by rw [r69_38]; rfl))
              have fr41 : mh_fr [69, 68, 64, 65, 66, 67, 63, 59, 60, 61, 62, 58, 57, 56, 55, 54, 53, 52, 50, 51] h h41 := mh_fr.upi fr40 e41 (by simp)
              refine mh_iinc2 (pc := 182) F dX10_init_182 rfl (by decide) ?_
              refine mh_goto (pc := 185) (tgt := 161) F dX10_init_185 rfl ?_
              refine mh_iload2 (pc := 161) F dX10_init_161 ?_
              refine mh_bipush (pc := 162) F dX10_init_162 rfl ?_
              refine mh_icmp_ge (pc := 164) (tgt := 188) F dX10_init_164 rfl (by omega) (by omega) (fun c_164 => ?_) (fun c_164 => ?_)
              · exact absurd c_164 (by decide)
              · refine mh_aload0 (pc := 167) F dX10_init_167 ?_
                refine mh_getr (b := 56) (pc := 168) F sh_50 (by decide) fw_RX10_29_10 dX10_init_168 rfl (by rw [r50_41]; simp [mh_ur]) ?_
                refine mh_iload2 (pc := 171) F dX10_init_171 ?_
                refine mh_new (ci := 0) (n1 := 71) (cl1 := 20) (sl1 := 471) (pc := 172) F sh_70 (by decide) tw_1_144 tw_2_114 tw_1_20 ⟨rfl, rfl, rfl⟩ (by rw [hR.1, hR.2]; exact ⟨Nat.le_of_ble_eq_true rfl, Nat.le_of_ble_eq_true rfl⟩) dX10_init_172 ?_
                refine mh_nmh (fun h42 e42 => ?_)
                have r50_42 : h42 50 = mh_ur (mh_ur (mh_ur (mh_ur (mh_ur (mh_ur (mh_ur (mh_ur (mh_ur (mh_ur (mh_ur (fun _ => (0 : Int)) 0 (((51 : Nat) : Int) + 1)) 1 (((52 : Nat) : Int) + 1)) 2 (((53 : Nat) : Int) + 1)) 3 (((54 : Nat) : Int) + 1)) 4 (((55 : Nat) : Int) + 1)) 5 (((56 : Nat) : Int) + 1)) 9 (((57 : Nat) : Int) + 1)) 11 (((58 : Nat) : Int) + 1)) 12 (((63 : Nat) : Int) + 1)) 13 (((68 : Nat) : Int) + 1)) 15 1 := by rw [e42, mh_zr_row (by decide)]; exact r50_41
                have r52_42 : h42 52 = fun _ => (0 : Int) := by rw [e42, mh_zr_row (by decide)]; exact r52_41
                have r54_42 : h42 54 = mh_ur (mh_ur (mh_ur (mh_ur (fun _ => (0 : Int)) 0 1) 1 2) 2 3) 3 4 := by rw [e42, mh_zr_row (by decide)]; exact r54_41
                have r55_42 : h42 55 = mh_ur (mh_ur (mh_ur (mh_ur (fun _ => (0 : Int)) 0 9) 1 7) 2 5) 3 3 := by rw [e42, mh_zr_row (by decide)]; exact r55_41
                have r56_42 : h42 56 = mh_ur (fun _ => (0 : Int)) 0 (((69 : Nat) : Int) + 1) := by rw [e42, mh_zr_row (by decide)]; exact r56_41
                have r57_42 : h42 57 = fun _ => (0 : Int) := by rw [e42, mh_zr_row (by decide)]; exact r57_41
                have r58_42 : h42 58 = T58 := by rw [e42, mh_zr_row (by decide)]; exact r58_41
                have r59_42 : h42 59 = T59 := by rw [e42, mh_zr_row (by decide)]; exact r59_41
                have r63_42 : h42 63 = T63 := by rw [e42, mh_zr_row (by decide)]; exact r63_41
                have r64_42 : h42 64 = T64 := by rw [e42, mh_zr_row (by decide)]; exact r64_41
                have r51_42 : h42 51 = T51 := by rw [e42, mh_zr_row (by decide)]; exact r51_41
                have r53_42 : h42 53 = T53 := by rw [e42, mh_zr_row (by decide)]; exact r53_41
                have r69_42 : h42 69 = sc_c0 0 := by rw [e42, mh_zr_row (by decide)]; exact r69_41
                have r70_42 : h42 70 = fun _ => (0 : Int) := by rw [e42]; exact mh_zr_rs
                have fr42 : mh_fr [70, 69, 68, 64, 65, 66, 67, 63, 59, 60, 61, 62, 58, 57, 56, 55, 54, 53, 52, 50, 51] h h42 := mh_fr.zr fr41 e42
                refine mh_dup (pc := 175) F dX10_init_175 rfl ?_
                refine mh_iload2 (pc := 176) F dX10_init_176 ?_
                refine mh_aload1 (pc := 177) F dX10_init_177 ?_
                refine mh_callIx (pc := 178) (As := [.int (Int32.ofInt (1)), .ref 2]) (st := [.ref 70, .int (Int32.ofInt (1)), .ref 56]) (n1 := 71) (cl1 := 20) (sl1 := 471) F (by omega) (q44_churn (by omega) sh_70 (by decide)) ⟨rfl, rfl, rfl⟩ wi_RX10_70 dX10_init_178 rfl rfl (Nat.le_of_ble_eq_true rfl) (by rw [hR.1, hR.2]; exact ⟨Nat.le_of_ble_eq_true rfl, Nat.le_of_ble_eq_true rfl⟩) (fun r43 h43 q43 => ?_)
                obtain ⟨rfl, fr43, hc43⟩ := q43
                have r50_44 : h43 50 = mh_ur (mh_ur (mh_ur (mh_ur (mh_ur (mh_ur (mh_ur (mh_ur (mh_ur (mh_ur (mh_ur (fun _ => (0 : Int)) 0 (((51 : Nat) : Int) + 1)) 1 (((52 : Nat) : Int) + 1)) 2 (((53 : Nat) : Int) + 1)) 3 (((54 : Nat) : Int) + 1)) 4 (((55 : Nat) : Int) + 1)) 5 (((56 : Nat) : Int) + 1)) 9 (((57 : Nat) : Int) + 1)) 11 (((58 : Nat) : Int) + 1)) 12 (((63 : Nat) : Int) + 1)) 13 (((68 : Nat) : Int) + 1)) 15 1 := (fr43 _ (by decide)).trans r50_42
                have r52_44 : h43 52 = fun _ => (0 : Int) := (fr43 _ (by decide)).trans r52_42
                have r54_44 : h43 54 = mh_ur (mh_ur (mh_ur (mh_ur (fun _ => (0 : Int)) 0 1) 1 2) 2 3) 3 4 := (fr43 _ (by decide)).trans r54_42
                have r55_44 : h43 55 = mh_ur (mh_ur (mh_ur (mh_ur (fun _ => (0 : Int)) 0 9) 1 7) 2 5) 3 3 := (fr43 _ (by decide)).trans r55_42
                have r56_44 : h43 56 = mh_ur (fun _ => (0 : Int)) 0 (((69 : Nat) : Int) + 1) := (fr43 _ (by decide)).trans r56_42
                have r57_44 : h43 57 = fun _ => (0 : Int) := (fr43 _ (by decide)).trans r57_42
                have r58_44 : h43 58 = T58 := (fr43 _ (by decide)).trans r58_42
                have r59_44 : h43 59 = T59 := (fr43 _ (by decide)).trans r59_42
                have r63_44 : h43 63 = T63 := (fr43 _ (by decide)).trans r63_42
                have r64_44 : h43 64 = T64 := (fr43 _ (by decide)).trans r64_42
                have r51_44 : h43 51 = T51 := (fr43 _ (by decide)).trans r51_42
                have r53_44 : h43 53 = T53 := (fr43 _ (by decide)).trans r53_42
                have r69_44 : h43 69 = sc_c0 0 := (fr43 _ (by decide)).trans r69_42
                have fr44 : mh_fr [70, 69, 68, 64, 65, 66, 67, 63, 59, 60, 61, 62, 58, 57, 56, 55, 54, 53, 52, 50, 51] h h43 := (mh_fr.tr fr42 fr43).mono (by simp)
                refine mh_aastore (pc := 181) F sh_56 sh_70 (by decide) rfl (by decide) (by decide) (by decide) (Or.inl rfl) dX10_init_181 ?_
                refine mh_nmh (fun h45 e45 => ?_)
                have r50_45 : h45 50 = mh_ur (mh_ur (mh_ur (mh_ur (mh_ur (mh_ur (mh_ur (mh_ur (mh_ur (mh_ur (mh_ur (fun _ => (0 : Int)) 0 (((51 : Nat) : Int) + 1)) 1 (((52 : Nat) : Int) + 1)) 2 (((53 : Nat) : Int) + 1)) 3 (((54 : Nat) : Int) + 1)) 4 (((55 : Nat) : Int) + 1)) 5 (((56 : Nat) : Int) + 1)) 9 (((57 : Nat) : Int) + 1)) 11 (((58 : Nat) : Int) + 1)) 12 (((63 : Nat) : Int) + 1)) 13 (((68 : Nat) : Int) + 1)) 15 1 := by rw [e45, mh_up_row (by decide)]; exact r50_44
                have r52_45 : h45 52 = fun _ => (0 : Int) := by rw [e45, mh_up_row (by decide)]; exact r52_44
                have r54_45 : h45 54 = mh_ur (mh_ur (mh_ur (mh_ur (fun _ => (0 : Int)) 0 1) 1 2) 2 3) 3 4 := by rw [e45, mh_up_row (by decide)]; exact r54_44
                have r55_45 : h45 55 = mh_ur (mh_ur (mh_ur (mh_ur (fun _ => (0 : Int)) 0 9) 1 7) 2 5) 3 3 := by rw [e45, mh_up_row (by decide)]; exact r55_44
                have r56_45 : h45 56 = mh_ur (mh_ur (fun _ => (0 : Int)) 0 (((69 : Nat) : Int) + 1)) 1 (((70 : Nat) : Int) + 1) := by rw [e45, mh_up_rs, r56_44] <;> rfl
                have r57_45 : h45 57 = fun _ => (0 : Int) := by rw [e45, mh_up_row (by decide)]; exact r57_44
                have r58_45 : h45 58 = T58 := by rw [e45, mh_up_row (by decide)]; exact r58_44
                have r59_45 : h45 59 = T59 := by rw [e45, mh_up_row (by decide)]; exact r59_44
                have r63_45 : h45 63 = T63 := by rw [e45, mh_up_row (by decide)]; exact r63_44
                have r64_45 : h45 64 = T64 := by rw [e45, mh_up_row (by decide)]; exact r64_44
                have r51_45 : h45 51 = T51 := by rw [e45, mh_up_row (by decide)]; exact r51_44
                have r53_45 : h45 53 = T53 := by rw [e45, mh_up_row (by decide)]; exact r53_44
                have r69_45 : h45 69 = sc_c0 0 := by rw [e45, mh_up_row (by decide)]; exact r69_44
                have r70_45 : h45 70 = sc_c0 1 := by rw [e45, mh_up_row (by decide)]; exact (hc43.trans (by rw [r70_42]; rfl))
                have fr45 : mh_fr [70, 69, 68, 64, 65, 66, 67, 63, 59, 60, 61, 62, 58, 57, 56, 55, 54, 53, 52, 50, 51] h h45 := mh_fr.upi fr44 e45 (by simp)
                refine mh_iinc2 (pc := 182) F dX10_init_182 rfl (by decide) ?_
                refine mh_goto (pc := 185) (tgt := 161) F dX10_init_185 rfl ?_
                refine mh_iload2 (pc := 161) F dX10_init_161 ?_
                refine mh_bipush (pc := 162) F dX10_init_162 rfl ?_
                refine mh_icmp_ge (pc := 164) (tgt := 188) F dX10_init_164 rfl (by omega) (by omega) (fun c_164 => ?_) (fun c_164 => ?_)
                · exact absurd c_164 (by decide)
                · refine mh_aload0 (pc := 167) F dX10_init_167 ?_
                  refine mh_getr (b := 56) (pc := 168) F sh_50 (by decide) fw_RX10_29_10 dX10_init_168 rfl (by rw [r50_45]; simp [mh_ur]) ?_
                  refine mh_iload2 (pc := 171) F dX10_init_171 ?_
                  refine mh_new (ci := 0) (n1 := 72) (cl1 := 21) (sl1 := 481) (pc := 172) F sh_71 (by decide) tw_1_144 tw_2_114 tw_1_20 ⟨rfl, rfl, rfl⟩ (by rw [hR.1, hR.2]; exact ⟨Nat.le_of_ble_eq_true rfl, Nat.le_of_ble_eq_true rfl⟩) dX10_init_172 ?_
                  refine mh_nmh (fun h46 e46 => ?_)
                  have r50_46 : h46 50 = mh_ur (mh_ur (mh_ur (mh_ur (mh_ur (mh_ur (mh_ur (mh_ur (mh_ur (mh_ur (mh_ur (fun _ => (0 : Int)) 0 (((51 : Nat) : Int) + 1)) 1 (((52 : Nat) : Int) + 1)) 2 (((53 : Nat) : Int) + 1)) 3 (((54 : Nat) : Int) + 1)) 4 (((55 : Nat) : Int) + 1)) 5 (((56 : Nat) : Int) + 1)) 9 (((57 : Nat) : Int) + 1)) 11 (((58 : Nat) : Int) + 1)) 12 (((63 : Nat) : Int) + 1)) 13 (((68 : Nat) : Int) + 1)) 15 1 := by rw [e46, mh_zr_row (by decide)]; exact r50_45
                  have r52_46 : h46 52 = fun _ => (0 : Int) := by rw [e46, mh_zr_row (by decide)]; exact r52_45
                  have r54_46 : h46 54 = mh_ur (mh_ur (mh_ur (mh_ur (fun _ => (0 : Int)) 0 1) 1 2) 2 3) 3 4 := by rw [e46, mh_zr_row (by decide)]; exact r54_45
                  have r55_46 : h46 55 = mh_ur (mh_ur (mh_ur (mh_ur (fun _ => (0 : Int)) 0 9) 1 7) 2 5) 3 3 := by rw [e46, mh_zr_row (by decide)]; exact r55_45
                  have r56_46 : h46 56 = mh_ur (mh_ur (fun _ => (0 : Int)) 0 (((69 : Nat) : Int) + 1)) 1 (((70 : Nat) : Int) + 1) := by rw [e46, mh_zr_row (by decide)]; exact r56_45
                  have r57_46 : h46 57 = fun _ => (0 : Int) := by rw [e46, mh_zr_row (by decide)]; exact r57_45
                  have r58_46 : h46 58 = T58 := by rw [e46, mh_zr_row (by decide)]; exact r58_45
                  have r59_46 : h46 59 = T59 := by rw [e46, mh_zr_row (by decide)]; exact r59_45
                  have r63_46 : h46 63 = T63 := by rw [e46, mh_zr_row (by decide)]; exact r63_45
                  have r64_46 : h46 64 = T64 := by rw [e46, mh_zr_row (by decide)]; exact r64_45
                  have r51_46 : h46 51 = T51 := by rw [e46, mh_zr_row (by decide)]; exact r51_45
                  have r53_46 : h46 53 = T53 := by rw [e46, mh_zr_row (by decide)]; exact r53_45
                  have r69_46 : h46 69 = sc_c0 0 := by rw [e46, mh_zr_row (by decide)]; exact r69_45
                  have r70_46 : h46 70 = sc_c0 1 := by rw [e46, mh_zr_row (by decide)]; exact r70_45
                  have r71_46 : h46 71 = fun _ => (0 : Int) := by rw [e46]; exact mh_zr_rs
                  have fr46 : mh_fr [71, 70, 69, 68, 64, 65, 66, 67, 63, 59, 60, 61, 62, 58, 57, 56, 55, 54, 53, 52, 50, 51] h h46 := mh_fr.zr fr45 e46
                  refine mh_dup (pc := 175) F dX10_init_175 rfl ?_
                  refine mh_iload2 (pc := 176) F dX10_init_176 ?_
                  refine mh_aload1 (pc := 177) F dX10_init_177 ?_
                  refine mh_callIx (pc := 178) (As := [.int (Int32.ofInt (2)), .ref 2]) (st := [.ref 71, .int (Int32.ofInt (2)), .ref 56]) (n1 := 72) (cl1 := 21) (sl1 := 481) F (by omega) (q44_churn (by omega) sh_71 (by decide)) ⟨rfl, rfl, rfl⟩ wi_RX10_70 dX10_init_178 rfl rfl (Nat.le_of_ble_eq_true rfl) (by rw [hR.1, hR.2]; exact ⟨Nat.le_of_ble_eq_true rfl, Nat.le_of_ble_eq_true rfl⟩) (fun r47 h47 q47 => ?_)
                  obtain ⟨rfl, fr47, hc47⟩ := q47
                  have r50_48 : h47 50 = mh_ur (mh_ur (mh_ur (mh_ur (mh_ur (mh_ur (mh_ur (mh_ur (mh_ur (mh_ur (mh_ur (fun _ => (0 : Int)) 0 (((51 : Nat) : Int) + 1)) 1 (((52 : Nat) : Int) + 1)) 2 (((53 : Nat) : Int) + 1)) 3 (((54 : Nat) : Int) + 1)) 4 (((55 : Nat) : Int) + 1)) 5 (((56 : Nat) : Int) + 1)) 9 (((57 : Nat) : Int) + 1)) 11 (((58 : Nat) : Int) + 1)) 12 (((63 : Nat) : Int) + 1)) 13 (((68 : Nat) : Int) + 1)) 15 1 := (fr47 _ (by decide)).trans r50_46
                  have r52_48 : h47 52 = fun _ => (0 : Int) := (fr47 _ (by decide)).trans r52_46
                  have r54_48 : h47 54 = mh_ur (mh_ur (mh_ur (mh_ur (fun _ => (0 : Int)) 0 1) 1 2) 2 3) 3 4 := (fr47 _ (by decide)).trans r54_46
                  have r55_48 : h47 55 = mh_ur (mh_ur (mh_ur (mh_ur (fun _ => (0 : Int)) 0 9) 1 7) 2 5) 3 3 := (fr47 _ (by decide)).trans r55_46
                  have r56_48 : h47 56 = mh_ur (mh_ur (fun _ => (0 : Int)) 0 (((69 : Nat) : Int) + 1)) 1 (((70 : Nat) : Int) + 1) := (fr47 _ (by decide)).trans r56_46
                  have r57_48 : h47 57 = fun _ => (0 : Int) := (fr47 _ (by decide)).trans r57_46
                  have r58_48 : h47 58 = T58 := (fr47 _ (by decide)).trans r58_46
                  have r59_48 : h47 59 = T59 := (fr47 _ (by decide)).trans r59_46
                  have r63_48 : h47 63 = T63 := (fr47 _ (by decide)).trans r63_46
                  have r64_48 : h47 64 = T64 := (fr47 _ (by decide)).trans r64_46
                  have r51_48 : h47 51 = T51 := (fr47 _ (by decide)).trans r51_46
                  have r53_48 : h47 53 = T53 := (fr47 _ (by decide)).trans r53_46
                  have r69_48 : h47 69 = sc_c0 0 := (fr47 _ (by decide)).trans r69_46
                  have r70_48 : h47 70 = sc_c0 1 := (fr47 _ (by decide)).trans r70_46
                  have fr48 : mh_fr [71, 70, 69, 68, 64, 65, 66, 67, 63, 59, 60, 61, 62, 58, 57, 56, 55, 54, 53, 52, 50, 51] h h47 := (mh_fr.tr fr46 fr47).mono (by simp)
                  refine mh_aastore (pc := 181) F sh_56 sh_71 (by decide) rfl (by decide) (by decide) (by decide) (Or.inl rfl) dX10_init_181 ?_
                  refine mh_nmh (fun h49 e49 => ?_)
                  have r50_49 : h49 50 = mh_ur (mh_ur (mh_ur (mh_ur (mh_ur (mh_ur (mh_ur (mh_ur (mh_ur (mh_ur (mh_ur (fun _ => (0 : Int)) 0 (((51 : Nat) : Int) + 1)) 1 (((52 : Nat) : Int) + 1)) 2 (((53 : Nat) : Int) + 1)) 3 (((54 : Nat) : Int) + 1)) 4 (((55 : Nat) : Int) + 1)) 5 (((56 : Nat) : Int) + 1)) 9 (((57 : Nat) : Int) + 1)) 11 (((58 : Nat) : Int) + 1)) 12 (((63 : Nat) : Int) + 1)) 13 (((68 : Nat) : Int) + 1)) 15 1 := by rw [e49, mh_up_row (by decide)]; exact r50_48
                  have r52_49 : h49 52 = fun _ => (0 : Int) := by rw [e49, mh_up_row (by decide)]; exact r52_48
                  have r54_49 : h49 54 = mh_ur (mh_ur (mh_ur (mh_ur (fun _ => (0 : Int)) 0 1) 1 2) 2 3) 3 4 := by rw [e49, mh_up_row (by decide)]; exact r54_48
                  have r55_49 : h49 55 = mh_ur (mh_ur (mh_ur (mh_ur (fun _ => (0 : Int)) 0 9) 1 7) 2 5) 3 3 := by rw [e49, mh_up_row (by decide)]; exact r55_48
                  have r56_49 : h49 56 = mh_ur (mh_ur (mh_ur (fun _ => (0 : Int)) 0 (((69 : Nat) : Int) + 1)) 1 (((70 : Nat) : Int) + 1)) 2 (((71 : Nat) : Int) + 1) := by rw [e49, mh_up_rs, r56_48] <;> rfl
                  have r57_49 : h49 57 = fun _ => (0 : Int) := by rw [e49, mh_up_row (by decide)]; exact r57_48
                  have r58_49 : h49 58 = T58 := by rw [e49, mh_up_row (by decide)]; exact r58_48
                  have r59_49 : h49 59 = T59 := by rw [e49, mh_up_row (by decide)]; exact r59_48
                  have r63_49 : h49 63 = T63 := by rw [e49, mh_up_row (by decide)]; exact r63_48
                  have r64_49 : h49 64 = T64 := by rw [e49, mh_up_row (by decide)]; exact r64_48
                  have r51_49 : h49 51 = T51 := by rw [e49, mh_up_row (by decide)]; exact r51_48
                  have r53_49 : h49 53 = T53 := by rw [e49, mh_up_row (by decide)]; exact r53_48
                  have r69_49 : h49 69 = sc_c0 0 := by rw [e49, mh_up_row (by decide)]; exact r69_48
                  have r70_49 : h49 70 = sc_c0 1 := by rw [e49, mh_up_row (by decide)]; exact r70_48
                  have r71_49 : h49 71 = sc_c0 2 := by rw [e49, mh_up_row (by decide)]; exact (hc47.trans (by rw [r71_46]; rfl))
                  have fr49 : mh_fr [71, 70, 69, 68, 64, 65, 66, 67, 63, 59, 60, 61, 62, 58, 57, 56, 55, 54, 53, 52, 50, 51] h h49 := mh_fr.upi fr48 e49 (by simp)
                  refine mh_iinc2 (pc := 182) F dX10_init_182 rfl (by decide) ?_
                  refine mh_goto (pc := 185) (tgt := 161) F dX10_init_185 rfl ?_
                  refine mh_iload2 (pc := 161) F dX10_init_161 ?_
                  refine mh_bipush (pc := 162) F dX10_init_162 rfl ?_
                  refine mh_icmp_ge (pc := 164) (tgt := 188) F dX10_init_164 rfl (by omega) (by omega) (fun c_164 => ?_) (fun c_164 => ?_)
                  · exact absurd c_164 (by decide)
                  · refine mh_aload0 (pc := 167) F dX10_init_167 ?_
                    refine mh_getr (b := 56) (pc := 168) F sh_50 (by decide) fw_RX10_29_10 dX10_init_168 rfl (by rw [r50_49]; simp [mh_ur]) ?_
                    refine mh_iload2 (pc := 171) F dX10_init_171 ?_
                    refine mh_new (ci := 0) (n1 := 73) (cl1 := 22) (sl1 := 491) (pc := 172) F sh_72 (by decide) tw_1_144 tw_2_114 tw_1_20 ⟨rfl, rfl, rfl⟩ (by rw [hR.1, hR.2]; exact ⟨Nat.le_of_ble_eq_true rfl, Nat.le_of_ble_eq_true rfl⟩) dX10_init_172 ?_
                    refine mh_nmh (fun h50 e50 => ?_)
                    have r50_50 : h50 50 = mh_ur (mh_ur (mh_ur (mh_ur (mh_ur (mh_ur (mh_ur (mh_ur (mh_ur (mh_ur (mh_ur (fun _ => (0 : Int)) 0 (((51 : Nat) : Int) + 1)) 1 (((52 : Nat) : Int) + 1)) 2 (((53 : Nat) : Int) + 1)) 3 (((54 : Nat) : Int) + 1)) 4 (((55 : Nat) : Int) + 1)) 5 (((56 : Nat) : Int) + 1)) 9 (((57 : Nat) : Int) + 1)) 11 (((58 : Nat) : Int) + 1)) 12 (((63 : Nat) : Int) + 1)) 13 (((68 : Nat) : Int) + 1)) 15 1 := by rw [e50, mh_zr_row (by decide)]; exact r50_49
                    have r52_50 : h50 52 = fun _ => (0 : Int) := by rw [e50, mh_zr_row (by decide)]; exact r52_49
                    have r54_50 : h50 54 = mh_ur (mh_ur (mh_ur (mh_ur (fun _ => (0 : Int)) 0 1) 1 2) 2 3) 3 4 := by rw [e50, mh_zr_row (by decide)]; exact r54_49
                    have r55_50 : h50 55 = mh_ur (mh_ur (mh_ur (mh_ur (fun _ => (0 : Int)) 0 9) 1 7) 2 5) 3 3 := by rw [e50, mh_zr_row (by decide)]; exact r55_49
                    have r56_50 : h50 56 = mh_ur (mh_ur (mh_ur (fun _ => (0 : Int)) 0 (((69 : Nat) : Int) + 1)) 1 (((70 : Nat) : Int) + 1)) 2 (((71 : Nat) : Int) + 1) := by rw [e50, mh_zr_row (by decide)]; exact r56_49
                    have r57_50 : h50 57 = fun _ => (0 : Int) := by rw [e50, mh_zr_row (by decide)]; exact r57_49
                    have r58_50 : h50 58 = T58 := by rw [e50, mh_zr_row (by decide)]; exact r58_49
                    have r59_50 : h50 59 = T59 := by rw [e50, mh_zr_row (by decide)]; exact r59_49
                    have r63_50 : h50 63 = T63 := by rw [e50, mh_zr_row (by decide)]; exact r63_49
                    have r64_50 : h50 64 = T64 := by rw [e50, mh_zr_row (by decide)]; exact r64_49
                    have r51_50 : h50 51 = T51 := by rw [e50, mh_zr_row (by decide)]; exact r51_49
                    have r53_50 : h50 53 = T53 := by rw [e50, mh_zr_row (by decide)]; exact r53_49
                    have r69_50 : h50 69 = sc_c0 0 := by rw [e50, mh_zr_row (by decide)]; exact r69_49
                    have r70_50 : h50 70 = sc_c0 1 := by rw [e50, mh_zr_row (by decide)]; exact r70_49
                    have r71_50 : h50 71 = sc_c0 2 := by rw [e50, mh_zr_row (by decide)]; exact r71_49
                    have r72_50 : h50 72 = fun _ => (0 : Int) := by rw [e50]; exact mh_zr_rs
                    have fr50 : mh_fr [72, 71, 70, 69, 68, 64, 65, 66, 67, 63, 59, 60, 61, 62, 58, 57, 56, 55, 54, 53, 52, 50, 51] h h50 := mh_fr.zr fr49 e50
                    refine mh_dup (pc := 175) F dX10_init_175 rfl ?_
                    refine mh_iload2 (pc := 176) F dX10_init_176 ?_
                    refine mh_aload1 (pc := 177) F dX10_init_177 ?_
                    refine mh_callIx (pc := 178) (As := [.int (Int32.ofInt (3)), .ref 2]) (st := [.ref 72, .int (Int32.ofInt (3)), .ref 56]) (n1 := 73) (cl1 := 22) (sl1 := 491) F (by omega) (q44_churn (by omega) sh_72 (by decide)) ⟨rfl, rfl, rfl⟩ wi_RX10_70 dX10_init_178 rfl rfl (Nat.le_of_ble_eq_true rfl) (by rw [hR.1, hR.2]; exact ⟨Nat.le_of_ble_eq_true rfl, Nat.le_of_ble_eq_true rfl⟩) (fun r51 h51 q51 => ?_)
                    obtain ⟨rfl, fr51, hc51⟩ := q51
                    have r50_52 : h51 50 = mh_ur (mh_ur (mh_ur (mh_ur (mh_ur (mh_ur (mh_ur (mh_ur (mh_ur (mh_ur (mh_ur (fun _ => (0 : Int)) 0 (((51 : Nat) : Int) + 1)) 1 (((52 : Nat) : Int) + 1)) 2 (((53 : Nat) : Int) + 1)) 3 (((54 : Nat) : Int) + 1)) 4 (((55 : Nat) : Int) + 1)) 5 (((56 : Nat) : Int) + 1)) 9 (((57 : Nat) : Int) + 1)) 11 (((58 : Nat) : Int) + 1)) 12 (((63 : Nat) : Int) + 1)) 13 (((68 : Nat) : Int) + 1)) 15 1 := (fr51 _ (by decide)).trans r50_50
                    have r52_52 : h51 52 = fun _ => (0 : Int) := (fr51 _ (by decide)).trans r52_50
                    have r54_52 : h51 54 = mh_ur (mh_ur (mh_ur (mh_ur (fun _ => (0 : Int)) 0 1) 1 2) 2 3) 3 4 := (fr51 _ (by decide)).trans r54_50
                    have r55_52 : h51 55 = mh_ur (mh_ur (mh_ur (mh_ur (fun _ => (0 : Int)) 0 9) 1 7) 2 5) 3 3 := (fr51 _ (by decide)).trans r55_50
                    have r56_52 : h51 56 = mh_ur (mh_ur (mh_ur (fun _ => (0 : Int)) 0 (((69 : Nat) : Int) + 1)) 1 (((70 : Nat) : Int) + 1)) 2 (((71 : Nat) : Int) + 1) := (fr51 _ (by decide)).trans r56_50
                    have r57_52 : h51 57 = fun _ => (0 : Int) := (fr51 _ (by decide)).trans r57_50
                    have r58_52 : h51 58 = T58 := (fr51 _ (by decide)).trans r58_50
                    have r59_52 : h51 59 = T59 := (fr51 _ (by decide)).trans r59_50
                    have r63_52 : h51 63 = T63 := (fr51 _ (by decide)).trans r63_50
                    have r64_52 : h51 64 = T64 := (fr51 _ (by decide)).trans r64_50
                    have r51_52 : h51 51 = T51 := (fr51 _ (by decide)).trans r51_50
                    have r53_52 : h51 53 = T53 := (fr51 _ (by decide)).trans r53_50
                    have r69_52 : h51 69 = sc_c0 0 := (fr51 _ (by decide)).trans r69_50
                    have r70_52 : h51 70 = sc_c0 1 := (fr51 _ (by decide)).trans r70_50
                    have r71_52 : h51 71 = sc_c0 2 := (fr51 _ (by decide)).trans r71_50
                    have fr52 : mh_fr [72, 71, 70, 69, 68, 64, 65, 66, 67, 63, 59, 60, 61, 62, 58, 57, 56, 55, 54, 53, 52, 50, 51] h h51 := (mh_fr.tr fr50 fr51).mono (by simp)
                    refine mh_aastore (pc := 181) F sh_56 sh_72 (by decide) rfl (by decide) (by decide) (by decide) (Or.inl rfl) dX10_init_181 ?_
                    refine mh_nmh (fun h53 e53 => ?_)
                    have r50_53 : h53 50 = mh_ur (mh_ur (mh_ur (mh_ur (mh_ur (mh_ur (mh_ur (mh_ur (mh_ur (mh_ur (mh_ur (fun _ => (0 : Int)) 0 (((51 : Nat) : Int) + 1)) 1 (((52 : Nat) : Int) + 1)) 2 (((53 : Nat) : Int) + 1)) 3 (((54 : Nat) : Int) + 1)) 4 (((55 : Nat) : Int) + 1)) 5 (((56 : Nat) : Int) + 1)) 9 (((57 : Nat) : Int) + 1)) 11 (((58 : Nat) : Int) + 1)) 12 (((63 : Nat) : Int) + 1)) 13 (((68 : Nat) : Int) + 1)) 15 1 := by rw [e53, mh_up_row (by decide)]; exact r50_52
                    have r52_53 : h53 52 = fun _ => (0 : Int) := by rw [e53, mh_up_row (by decide)]; exact r52_52
                    have r54_53 : h53 54 = mh_ur (mh_ur (mh_ur (mh_ur (fun _ => (0 : Int)) 0 1) 1 2) 2 3) 3 4 := by rw [e53, mh_up_row (by decide)]; exact r54_52
                    have r55_53 : h53 55 = mh_ur (mh_ur (mh_ur (mh_ur (fun _ => (0 : Int)) 0 9) 1 7) 2 5) 3 3 := by rw [e53, mh_up_row (by decide)]; exact r55_52
                    have r56_53 : h53 56 = mh_ur (mh_ur (mh_ur (mh_ur (fun _ => (0 : Int)) 0 (((69 : Nat) : Int) + 1)) 1 (((70 : Nat) : Int) + 1)) 2 (((71 : Nat) : Int) + 1)) 3 (((72 : Nat) : Int) + 1) := by rw [e53, mh_up_rs, r56_52] <;> rfl
                    have r57_53 : h53 57 = fun _ => (0 : Int) := by rw [e53, mh_up_row (by decide)]; exact r57_52
                    have r58_53 : h53 58 = T58 := by rw [e53, mh_up_row (by decide)]; exact r58_52
                    have r59_53 : h53 59 = T59 := by rw [e53, mh_up_row (by decide)]; exact r59_52
                    have r63_53 : h53 63 = T63 := by rw [e53, mh_up_row (by decide)]; exact r63_52
                    have r64_53 : h53 64 = T64 := by rw [e53, mh_up_row (by decide)]; exact r64_52
                    have r51_53 : h53 51 = T51 := by rw [e53, mh_up_row (by decide)]; exact r51_52
                    have r53_53 : h53 53 = T53 := by rw [e53, mh_up_row (by decide)]; exact r53_52
                    have r69_53 : h53 69 = sc_c0 0 := by rw [e53, mh_up_row (by decide)]; exact r69_52
                    have r70_53 : h53 70 = sc_c0 1 := by rw [e53, mh_up_row (by decide)]; exact r70_52
                    have r71_53 : h53 71 = sc_c0 2 := by rw [e53, mh_up_row (by decide)]; exact r71_52
                    have r72_53 : h53 72 = sc_c0 3 := by rw [e53, mh_up_row (by decide)]; exact (hc51.trans (by rw [r72_50]; rfl))
                    have fr53 : mh_fr [72, 71, 70, 69, 68, 64, 65, 66, 67, 63, 59, 60, 61, 62, 58, 57, 56, 55, 54, 53, 52, 50, 51] h h53 := mh_fr.upi fr52 e53 (by simp)
                    refine mh_iinc2 (pc := 182) F dX10_init_182 rfl (by decide) ?_
                    refine mh_goto (pc := 185) (tgt := 161) F dX10_init_185 rfl ?_
                    refine mh_iload2 (pc := 161) F dX10_init_161 ?_
                    refine mh_bipush (pc := 162) F dX10_init_162 rfl ?_
                    refine mh_icmp_ge (pc := 164) (tgt := 188) F dX10_init_164 rfl (by omega) (by omega) (fun c_164 => ?_) (fun c_164 => ?_)
                    · exact absurd c_164 (by decide)
                    · refine mh_aload0 (pc := 167) F dX10_init_167 ?_
                      refine mh_getr (b := 56) (pc := 168) F sh_50 (by decide) fw_RX10_29_10 dX10_init_168 rfl (by rw [r50_53]; simp [mh_ur]) ?_
                      refine mh_iload2 (pc := 171) F dX10_init_171 ?_
                      refine mh_new (ci := 0) (n1 := 74) (cl1 := 23) (sl1 := 501) (pc := 172) F sh_73 (by decide) tw_1_144 tw_2_114 tw_1_20 ⟨rfl, rfl, rfl⟩ (by rw [hR.1, hR.2]; exact ⟨Nat.le_of_ble_eq_true rfl, Nat.le_of_ble_eq_true rfl⟩) dX10_init_172 ?_
                      refine mh_nmh (fun h54 e54 => ?_)
                      have r50_54 : h54 50 = mh_ur (mh_ur (mh_ur (mh_ur (mh_ur (mh_ur (mh_ur (mh_ur (mh_ur (mh_ur (mh_ur (fun _ => (0 : Int)) 0 (((51 : Nat) : Int) + 1)) 1 (((52 : Nat) : Int) + 1)) 2 (((53 : Nat) : Int) + 1)) 3 (((54 : Nat) : Int) + 1)) 4 (((55 : Nat) : Int) + 1)) 5 (((56 : Nat) : Int) + 1)) 9 (((57 : Nat) : Int) + 1)) 11 (((58 : Nat) : Int) + 1)) 12 (((63 : Nat) : Int) + 1)) 13 (((68 : Nat) : Int) + 1)) 15 1 := by rw [e54, mh_zr_row (by decide)]; exact r50_53
                      have r52_54 : h54 52 = fun _ => (0 : Int) := by rw [e54, mh_zr_row (by decide)]; exact r52_53
                      have r54_54 : h54 54 = mh_ur (mh_ur (mh_ur (mh_ur (fun _ => (0 : Int)) 0 1) 1 2) 2 3) 3 4 := by rw [e54, mh_zr_row (by decide)]; exact r54_53
                      have r55_54 : h54 55 = mh_ur (mh_ur (mh_ur (mh_ur (fun _ => (0 : Int)) 0 9) 1 7) 2 5) 3 3 := by rw [e54, mh_zr_row (by decide)]; exact r55_53
                      have r56_54 : h54 56 = mh_ur (mh_ur (mh_ur (mh_ur (fun _ => (0 : Int)) 0 (((69 : Nat) : Int) + 1)) 1 (((70 : Nat) : Int) + 1)) 2 (((71 : Nat) : Int) + 1)) 3 (((72 : Nat) : Int) + 1) := by rw [e54, mh_zr_row (by decide)]; exact r56_53
                      have r57_54 : h54 57 = fun _ => (0 : Int) := by rw [e54, mh_zr_row (by decide)]; exact r57_53
                      have r58_54 : h54 58 = T58 := by rw [e54, mh_zr_row (by decide)]; exact r58_53
                      have r59_54 : h54 59 = T59 := by rw [e54, mh_zr_row (by decide)]; exact r59_53
                      have r63_54 : h54 63 = T63 := by rw [e54, mh_zr_row (by decide)]; exact r63_53
                      have r64_54 : h54 64 = T64 := by rw [e54, mh_zr_row (by decide)]; exact r64_53
                      have r51_54 : h54 51 = T51 := by rw [e54, mh_zr_row (by decide)]; exact r51_53
                      have r53_54 : h54 53 = T53 := by rw [e54, mh_zr_row (by decide)]; exact r53_53
                      have r69_54 : h54 69 = sc_c0 0 := by rw [e54, mh_zr_row (by decide)]; exact r69_53
                      have r70_54 : h54 70 = sc_c0 1 := by rw [e54, mh_zr_row (by decide)]; exact r70_53
                      have r71_54 : h54 71 = sc_c0 2 := by rw [e54, mh_zr_row (by decide)]; exact r71_53
                      have r72_54 : h54 72 = sc_c0 3 := by rw [e54, mh_zr_row (by decide)]; exact r72_53
                      have r73_54 : h54 73 = fun _ => (0 : Int) := by rw [e54]; exact mh_zr_rs
                      have fr54 : mh_fr [73, 72, 71, 70, 69, 68, 64, 65, 66, 67, 63, 59, 60, 61, 62, 58, 57, 56, 55, 54, 53, 52, 50, 51] h h54 := mh_fr.zr fr53 e54
                      refine mh_dup (pc := 175) F dX10_init_175 rfl ?_
                      refine mh_iload2 (pc := 176) F dX10_init_176 ?_
                      refine mh_aload1 (pc := 177) F dX10_init_177 ?_
                      refine mh_callIx (pc := 178) (As := [.int (Int32.ofInt (4)), .ref 2]) (st := [.ref 73, .int (Int32.ofInt (4)), .ref 56]) (n1 := 74) (cl1 := 23) (sl1 := 501) F (by omega) (q44_churn (by omega) sh_73 (by decide)) ⟨rfl, rfl, rfl⟩ wi_RX10_70 dX10_init_178 rfl rfl (Nat.le_of_ble_eq_true rfl) (by rw [hR.1, hR.2]; exact ⟨Nat.le_of_ble_eq_true rfl, Nat.le_of_ble_eq_true rfl⟩) (fun r55 h55 q55 => ?_)
                      obtain ⟨rfl, fr55, hc55⟩ := q55
                      have r50_56 : h55 50 = mh_ur (mh_ur (mh_ur (mh_ur (mh_ur (mh_ur (mh_ur (mh_ur (mh_ur (mh_ur (mh_ur (fun _ => (0 : Int)) 0 (((51 : Nat) : Int) + 1)) 1 (((52 : Nat) : Int) + 1)) 2 (((53 : Nat) : Int) + 1)) 3 (((54 : Nat) : Int) + 1)) 4 (((55 : Nat) : Int) + 1)) 5 (((56 : Nat) : Int) + 1)) 9 (((57 : Nat) : Int) + 1)) 11 (((58 : Nat) : Int) + 1)) 12 (((63 : Nat) : Int) + 1)) 13 (((68 : Nat) : Int) + 1)) 15 1 := (fr55 _ (by decide)).trans r50_54
                      have r52_56 : h55 52 = fun _ => (0 : Int) := (fr55 _ (by decide)).trans r52_54
                      have r54_56 : h55 54 = mh_ur (mh_ur (mh_ur (mh_ur (fun _ => (0 : Int)) 0 1) 1 2) 2 3) 3 4 := (fr55 _ (by decide)).trans r54_54
                      have r55_56 : h55 55 = mh_ur (mh_ur (mh_ur (mh_ur (fun _ => (0 : Int)) 0 9) 1 7) 2 5) 3 3 := (fr55 _ (by decide)).trans r55_54
                      have r56_56 : h55 56 = mh_ur (mh_ur (mh_ur (mh_ur (fun _ => (0 : Int)) 0 (((69 : Nat) : Int) + 1)) 1 (((70 : Nat) : Int) + 1)) 2 (((71 : Nat) : Int) + 1)) 3 (((72 : Nat) : Int) + 1) := (fr55 _ (by decide)).trans r56_54
                      have r57_56 : h55 57 = fun _ => (0 : Int) := (fr55 _ (by decide)).trans r57_54
                      have r58_56 : h55 58 = T58 := (fr55 _ (by decide)).trans r58_54
                      have r59_56 : h55 59 = T59 := (fr55 _ (by decide)).trans r59_54
                      have r63_56 : h55 63 = T63 := (fr55 _ (by decide)).trans r63_54
                      have r64_56 : h55 64 = T64 := (fr55 _ (by decide)).trans r64_54
                      have r51_56 : h55 51 = T51 := (fr55 _ (by decide)).trans r51_54
                      have r53_56 : h55 53 = T53 := (fr55 _ (by decide)).trans r53_54
                      have r69_56 : h55 69 = sc_c0 0 := (fr55 _ (by decide)).trans r69_54
                      have r70_56 : h55 70 = sc_c0 1 := (fr55 _ (by decide)).trans r70_54
                      have r71_56 : h55 71 = sc_c0 2 := (fr55 _ (by decide)).trans r71_54
                      have r72_56 : h55 72 = sc_c0 3 := (fr55 _ (by decide)).trans r72_54
                      have fr56 : mh_fr [73, 72, 71, 70, 69, 68, 64, 65, 66, 67, 63, 59, 60, 61, 62, 58, 57, 56, 55, 54, 53, 52, 50, 51] h h55 := (mh_fr.tr fr54 fr55).mono (by simp)
                      refine mh_aastore (pc := 181) F sh_56 sh_73 (by decide) rfl (by decide) (by decide) (by decide) (Or.inl rfl) dX10_init_181 ?_
                      refine mh_nmh (fun h57 e57 => ?_)
                      have r50_57 : h57 50 = mh_ur (mh_ur (mh_ur (mh_ur (mh_ur (mh_ur (mh_ur (mh_ur (mh_ur (mh_ur (mh_ur (fun _ => (0 : Int)) 0 (((51 : Nat) : Int) + 1)) 1 (((52 : Nat) : Int) + 1)) 2 (((53 : Nat) : Int) + 1)) 3 (((54 : Nat) : Int) + 1)) 4 (((55 : Nat) : Int) + 1)) 5 (((56 : Nat) : Int) + 1)) 9 (((57 : Nat) : Int) + 1)) 11 (((58 : Nat) : Int) + 1)) 12 (((63 : Nat) : Int) + 1)) 13 (((68 : Nat) : Int) + 1)) 15 1 := by rw [e57, mh_up_row (by decide)]; exact r50_56
                      have r52_57 : h57 52 = fun _ => (0 : Int) := by rw [e57, mh_up_row (by decide)]; exact r52_56
                      have r54_57 : h57 54 = mh_ur (mh_ur (mh_ur (mh_ur (fun _ => (0 : Int)) 0 1) 1 2) 2 3) 3 4 := by rw [e57, mh_up_row (by decide)]; exact r54_56
                      have r55_57 : h57 55 = mh_ur (mh_ur (mh_ur (mh_ur (fun _ => (0 : Int)) 0 9) 1 7) 2 5) 3 3 := by rw [e57, mh_up_row (by decide)]; exact r55_56
                      have r56_57 : h57 56 = mh_ur (mh_ur (mh_ur (mh_ur (mh_ur (fun _ => (0 : Int)) 0 (((69 : Nat) : Int) + 1)) 1 (((70 : Nat) : Int) + 1)) 2 (((71 : Nat) : Int) + 1)) 3 (((72 : Nat) : Int) + 1)) 4 (((73 : Nat) : Int) + 1) := by rw [e57, mh_up_rs, r56_56] <;> rfl
                      have r57_57 : h57 57 = fun _ => (0 : Int) := by rw [e57, mh_up_row (by decide)]; exact r57_56
                      have r58_57 : h57 58 = T58 := by rw [e57, mh_up_row (by decide)]; exact r58_56
                      have r59_57 : h57 59 = T59 := by rw [e57, mh_up_row (by decide)]; exact r59_56
                      have r63_57 : h57 63 = T63 := by rw [e57, mh_up_row (by decide)]; exact r63_56
                      have r64_57 : h57 64 = T64 := by rw [e57, mh_up_row (by decide)]; exact r64_56
                      have r51_57 : h57 51 = T51 := by rw [e57, mh_up_row (by decide)]; exact r51_56
                      have r53_57 : h57 53 = T53 := by rw [e57, mh_up_row (by decide)]; exact r53_56
                      have r69_57 : h57 69 = sc_c0 0 := by rw [e57, mh_up_row (by decide)]; exact r69_56
                      have r70_57 : h57 70 = sc_c0 1 := by rw [e57, mh_up_row (by decide)]; exact r70_56
                      have r71_57 : h57 71 = sc_c0 2 := by rw [e57, mh_up_row (by decide)]; exact r71_56
                      have r72_57 : h57 72 = sc_c0 3 := by rw [e57, mh_up_row (by decide)]; exact r72_56
                      have r73_57 : h57 73 = sc_c0 4 := by rw [e57, mh_up_row (by decide)]; exact (hc55.trans (by rw [r73_54]; rfl))
                      have fr57 : mh_fr [73, 72, 71, 70, 69, 68, 64, 65, 66, 67, 63, 59, 60, 61, 62, 58, 57, 56, 55, 54, 53, 52, 50, 51] h h57 := mh_fr.upi fr56 e57 (by simp)
                      refine mh_iinc2 (pc := 182) F dX10_init_182 rfl (by decide) ?_
                      refine mh_goto (pc := 185) (tgt := 161) F dX10_init_185 rfl ?_
                      refine mh_iload2 (pc := 161) F dX10_init_161 ?_
                      refine mh_bipush (pc := 162) F dX10_init_162 rfl ?_
                      refine mh_icmp_ge (pc := 164) (tgt := 188) F dX10_init_164 rfl (by omega) (by omega) (fun c_164 => ?_) (fun c_164 => ?_)
                      · exact absurd c_164 (by decide)
                      · refine mh_aload0 (pc := 167) F dX10_init_167 ?_
                        refine mh_getr (b := 56) (pc := 168) F sh_50 (by decide) fw_RX10_29_10 dX10_init_168 rfl (by rw [r50_57]; simp [mh_ur]) ?_
                        refine mh_iload2 (pc := 171) F dX10_init_171 ?_
                        refine mh_new (ci := 0) (n1 := 75) (cl1 := 24) (sl1 := 511) (pc := 172) F sh_74 (by decide) tw_1_144 tw_2_114 tw_1_20 ⟨rfl, rfl, rfl⟩ (by rw [hR.1, hR.2]; exact ⟨Nat.le_of_ble_eq_true rfl, Nat.le_of_ble_eq_true rfl⟩) dX10_init_172 ?_
                        refine mh_nmh (fun h58 e58 => ?_)
                        have r50_58 : h58 50 = mh_ur (mh_ur (mh_ur (mh_ur (mh_ur (mh_ur (mh_ur (mh_ur (mh_ur (mh_ur (mh_ur (fun _ => (0 : Int)) 0 (((51 : Nat) : Int) + 1)) 1 (((52 : Nat) : Int) + 1)) 2 (((53 : Nat) : Int) + 1)) 3 (((54 : Nat) : Int) + 1)) 4 (((55 : Nat) : Int) + 1)) 5 (((56 : Nat) : Int) + 1)) 9 (((57 : Nat) : Int) + 1)) 11 (((58 : Nat) : Int) + 1)) 12 (((63 : Nat) : Int) + 1)) 13 (((68 : Nat) : Int) + 1)) 15 1 := by rw [e58, mh_zr_row (by decide)]; exact r50_57
                        have r52_58 : h58 52 = fun _ => (0 : Int) := by rw [e58, mh_zr_row (by decide)]; exact r52_57
                        have r54_58 : h58 54 = mh_ur (mh_ur (mh_ur (mh_ur (fun _ => (0 : Int)) 0 1) 1 2) 2 3) 3 4 := by rw [e58, mh_zr_row (by decide)]; exact r54_57
                        have r55_58 : h58 55 = mh_ur (mh_ur (mh_ur (mh_ur (fun _ => (0 : Int)) 0 9) 1 7) 2 5) 3 3 := by rw [e58, mh_zr_row (by decide)]; exact r55_57
                        have r56_58 : h58 56 = mh_ur (mh_ur (mh_ur (mh_ur (mh_ur (fun _ => (0 : Int)) 0 (((69 : Nat) : Int) + 1)) 1 (((70 : Nat) : Int) + 1)) 2 (((71 : Nat) : Int) + 1)) 3 (((72 : Nat) : Int) + 1)) 4 (((73 : Nat) : Int) + 1) := by rw [e58, mh_zr_row (by decide)]; exact r56_57
                        have r57_58 : h58 57 = fun _ => (0 : Int) := by rw [e58, mh_zr_row (by decide)]; exact r57_57
                        have r58_58 : h58 58 = T58 := by rw [e58, mh_zr_row (by decide)]; exact r58_57
                        have r59_58 : h58 59 = T59 := by rw [e58, mh_zr_row (by decide)]; exact r59_57
                        have r63_58 : h58 63 = T63 := by rw [e58, mh_zr_row (by decide)]; exact r63_57
                        have r64_58 : h58 64 = T64 := by rw [e58, mh_zr_row (by decide)]; exact r64_57
                        have r51_58 : h58 51 = T51 := by rw [e58, mh_zr_row (by decide)]; exact r51_57
                        have r53_58 : h58 53 = T53 := by rw [e58, mh_zr_row (by decide)]; exact r53_57
                        have r69_58 : h58 69 = sc_c0 0 := by rw [e58, mh_zr_row (by decide)]; exact r69_57
                        have r70_58 : h58 70 = sc_c0 1 := by rw [e58, mh_zr_row (by decide)]; exact r70_57
                        have r71_58 : h58 71 = sc_c0 2 := by rw [e58, mh_zr_row (by decide)]; exact r71_57
                        have r72_58 : h58 72 = sc_c0 3 := by rw [e58, mh_zr_row (by decide)]; exact r72_57
                        have r73_58 : h58 73 = sc_c0 4 := by rw [e58, mh_zr_row (by decide)]; exact r73_57
                        have r74_58 : h58 74 = fun _ => (0 : Int) := by rw [e58]; exact mh_zr_rs
                        have fr58 : mh_fr [74, 73, 72, 71, 70, 69, 68, 64, 65, 66, 67, 63, 59, 60, 61, 62, 58, 57, 56, 55, 54, 53, 52, 50, 51] h h58 := mh_fr.zr fr57 e58
                        refine mh_dup (pc := 175) F dX10_init_175 rfl ?_
                        refine mh_iload2 (pc := 176) F dX10_init_176 ?_
                        refine mh_aload1 (pc := 177) F dX10_init_177 ?_
                        refine mh_callIx (pc := 178) (As := [.int (Int32.ofInt (5)), .ref 2]) (st := [.ref 74, .int (Int32.ofInt (5)), .ref 56]) (n1 := 75) (cl1 := 24) (sl1 := 511) F (by omega) (q44_churn (by omega) sh_74 (by decide)) ⟨rfl, rfl, rfl⟩ wi_RX10_70 dX10_init_178 rfl rfl (Nat.le_of_ble_eq_true rfl) (by rw [hR.1, hR.2]; exact ⟨Nat.le_of_ble_eq_true rfl, Nat.le_of_ble_eq_true rfl⟩) (fun r59 h59 q59 => ?_)
                        obtain ⟨rfl, fr59, hc59⟩ := q59
                        have r50_60 : h59 50 = mh_ur (mh_ur (mh_ur (mh_ur (mh_ur (mh_ur (mh_ur (mh_ur (mh_ur (mh_ur (mh_ur (fun _ => (0 : Int)) 0 (((51 : Nat) : Int) + 1)) 1 (((52 : Nat) : Int) + 1)) 2 (((53 : Nat) : Int) + 1)) 3 (((54 : Nat) : Int) + 1)) 4 (((55 : Nat) : Int) + 1)) 5 (((56 : Nat) : Int) + 1)) 9 (((57 : Nat) : Int) + 1)) 11 (((58 : Nat) : Int) + 1)) 12 (((63 : Nat) : Int) + 1)) 13 (((68 : Nat) : Int) + 1)) 15 1 := (fr59 _ (by decide)).trans r50_58
                        have r52_60 : h59 52 = fun _ => (0 : Int) := (fr59 _ (by decide)).trans r52_58
                        have r54_60 : h59 54 = mh_ur (mh_ur (mh_ur (mh_ur (fun _ => (0 : Int)) 0 1) 1 2) 2 3) 3 4 := (fr59 _ (by decide)).trans r54_58
                        have r55_60 : h59 55 = mh_ur (mh_ur (mh_ur (mh_ur (fun _ => (0 : Int)) 0 9) 1 7) 2 5) 3 3 := (fr59 _ (by decide)).trans r55_58
                        have r56_60 : h59 56 = mh_ur (mh_ur (mh_ur (mh_ur (mh_ur (fun _ => (0 : Int)) 0 (((69 : Nat) : Int) + 1)) 1 (((70 : Nat) : Int) + 1)) 2 (((71 : Nat) : Int) + 1)) 3 (((72 : Nat) : Int) + 1)) 4 (((73 : Nat) : Int) + 1) := (fr59 _ (by decide)).trans r56_58
                        have r57_60 : h59 57 = fun _ => (0 : Int) := (fr59 _ (by decide)).trans r57_58
                        have r58_60 : h59 58 = T58 := (fr59 _ (by decide)).trans r58_58
                        have r59_60 : h59 59 = T59 := (fr59 _ (by decide)).trans r59_58
                        have r63_60 : h59 63 = T63 := (fr59 _ (by decide)).trans r63_58
                        have r64_60 : h59 64 = T64 := (fr59 _ (by decide)).trans r64_58
                        have r51_60 : h59 51 = T51 := (fr59 _ (by decide)).trans r51_58
                        have r53_60 : h59 53 = T53 := (fr59 _ (by decide)).trans r53_58
                        have r69_60 : h59 69 = sc_c0 0 := (fr59 _ (by decide)).trans r69_58
                        have r70_60 : h59 70 = sc_c0 1 := (fr59 _ (by decide)).trans r70_58
                        have r71_60 : h59 71 = sc_c0 2 := (fr59 _ (by decide)).trans r71_58
                        have r72_60 : h59 72 = sc_c0 3 := (fr59 _ (by decide)).trans r72_58
                        have r73_60 : h59 73 = sc_c0 4 := (fr59 _ (by decide)).trans r73_58
                        have fr60 : mh_fr [74, 73, 72, 71, 70, 69, 68, 64, 65, 66, 67, 63, 59, 60, 61, 62, 58, 57, 56, 55, 54, 53, 52, 50, 51] h h59 := (mh_fr.tr fr58 fr59).mono (by simp)
                        refine mh_aastore (pc := 181) F sh_56 sh_74 (by decide) rfl (by decide) (by decide) (by decide) (Or.inl rfl) dX10_init_181 ?_
                        refine mh_nmh (fun h61 e61 => ?_)
                        have r50_61 : h61 50 = mh_ur (mh_ur (mh_ur (mh_ur (mh_ur (mh_ur (mh_ur (mh_ur (mh_ur (mh_ur (mh_ur (fun _ => (0 : Int)) 0 (((51 : Nat) : Int) + 1)) 1 (((52 : Nat) : Int) + 1)) 2 (((53 : Nat) : Int) + 1)) 3 (((54 : Nat) : Int) + 1)) 4 (((55 : Nat) : Int) + 1)) 5 (((56 : Nat) : Int) + 1)) 9 (((57 : Nat) : Int) + 1)) 11 (((58 : Nat) : Int) + 1)) 12 (((63 : Nat) : Int) + 1)) 13 (((68 : Nat) : Int) + 1)) 15 1 := by rw [e61, mh_up_row (by decide)]; exact r50_60
                        have r52_61 : h61 52 = fun _ => (0 : Int) := by rw [e61, mh_up_row (by decide)]; exact r52_60
                        have r54_61 : h61 54 = mh_ur (mh_ur (mh_ur (mh_ur (fun _ => (0 : Int)) 0 1) 1 2) 2 3) 3 4 := by rw [e61, mh_up_row (by decide)]; exact r54_60
                        have r55_61 : h61 55 = mh_ur (mh_ur (mh_ur (mh_ur (fun _ => (0 : Int)) 0 9) 1 7) 2 5) 3 3 := by rw [e61, mh_up_row (by decide)]; exact r55_60
                        have r56_61 : h61 56 = mh_ur (mh_ur (mh_ur (mh_ur (mh_ur (mh_ur (fun _ => (0 : Int)) 0 (((69 : Nat) : Int) + 1)) 1 (((70 : Nat) : Int) + 1)) 2 (((71 : Nat) : Int) + 1)) 3 (((72 : Nat) : Int) + 1)) 4 (((73 : Nat) : Int) + 1)) 5 (((74 : Nat) : Int) + 1) := by rw [e61, mh_up_rs, r56_60] <;> rfl
                        have r57_61 : h61 57 = fun _ => (0 : Int) := by rw [e61, mh_up_row (by decide)]; exact r57_60
                        have r58_61 : h61 58 = T58 := by rw [e61, mh_up_row (by decide)]; exact r58_60
                        have r59_61 : h61 59 = T59 := by rw [e61, mh_up_row (by decide)]; exact r59_60
                        have r63_61 : h61 63 = T63 := by rw [e61, mh_up_row (by decide)]; exact r63_60
                        have r64_61 : h61 64 = T64 := by rw [e61, mh_up_row (by decide)]; exact r64_60
                        have r51_61 : h61 51 = T51 := by rw [e61, mh_up_row (by decide)]; exact r51_60
                        have r53_61 : h61 53 = T53 := by rw [e61, mh_up_row (by decide)]; exact r53_60
                        have r69_61 : h61 69 = sc_c0 0 := by rw [e61, mh_up_row (by decide)]; exact r69_60
                        have r70_61 : h61 70 = sc_c0 1 := by rw [e61, mh_up_row (by decide)]; exact r70_60
                        have r71_61 : h61 71 = sc_c0 2 := by rw [e61, mh_up_row (by decide)]; exact r71_60
                        have r72_61 : h61 72 = sc_c0 3 := by rw [e61, mh_up_row (by decide)]; exact r72_60
                        have r73_61 : h61 73 = sc_c0 4 := by rw [e61, mh_up_row (by decide)]; exact r73_60
                        have r74_61 : h61 74 = sc_c0 5 := by rw [e61, mh_up_row (by decide)]; exact (hc59.trans (by rw [r74_58]; rfl))
                        have fr61 : mh_fr [74, 73, 72, 71, 70, 69, 68, 64, 65, 66, 67, 63, 59, 60, 61, 62, 58, 57, 56, 55, 54, 53, 52, 50, 51] h h61 := mh_fr.upi fr60 e61 (by simp)
                        refine mh_iinc2 (pc := 182) F dX10_init_182 rfl (by decide) ?_
                        refine mh_goto (pc := 185) (tgt := 161) F dX10_init_185 rfl ?_
                        refine mh_iload2 (pc := 161) F dX10_init_161 ?_
                        refine mh_bipush (pc := 162) F dX10_init_162 rfl ?_
                        refine mh_icmp_ge (pc := 164) (tgt := 188) F dX10_init_164 rfl (by omega) (by omega) (fun c_164 => ?_) (fun c_164 => ?_)
                        · exact mh_return F Z dX10_init_188 ⟨rfl, (fr61.mono (by simp)), ⟨(by rw [r50_61]; decide +kernel), (by rw [r50_61]; decide +kernel), (by rw [r50_61]; decide +kernel), (by rw [r50_61]; decide +kernel), (by rw [r50_61]; decide +kernel), (by rw [r50_61]; decide +kernel), (by rw [r50_61]; decide +kernel), (by rw [r50_61]; decide +kernel), (by rw [r50_61]; decide +kernel), (by rw [r50_61]; decide +kernel)⟩, ⟨(by rw [r50_61]; decide +kernel), (by rw [r50_61]; decide +kernel), (by rw [r50_61]; decide +kernel), (by rw [r50_61]; decide +kernel), (by rw [r50_61]; decide +kernel), (by rw [r50_61]; decide +kernel)⟩, (fun k k0 k1 => ⟨by rw [r51_61]; exact hf51 k k0 k1, by rw [r52_61], by rw [r53_61]; exact hf53 k k0 k1⟩), (by rw [r54_61, r55_61]; decide +kernel), (by rw [r56_61]; decide +kernel), ⟨r69_61, r70_61, r71_61, r72_61, r73_61, r74_61⟩, (by rw [r58_61, r59_61]; exact ht58), (by rw [r63_61, r64_61]; exact ht63), r57_61⟩
                        · exact absurd c_164 (by decide)
          · exact absurd c_129 (by decide)

