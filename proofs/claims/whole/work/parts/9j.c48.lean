/-! a new model -/
def sp_m0 : Int → Int := mh_ur (mh_ur (mh_ur (mh_ur (mh_ur (mh_ur (mh_ur (mh_ur (mh_ur (mh_ur (mh_ur (mh_ur (mh_ur (mh_ur (mh_ur (mh_ur (mh_ur (mh_ur (mh_ur (mh_ur (mh_ur (mh_ur (mh_ur (mh_ur (mh_ur (mh_ur (mh_ur (fun _ => (0 : Int)) 2 1) 6 8) 8 10) 9 8) 11 10) 12 8) 14 10) 15 8) 17 10) 18 8) 20 10) 21 8) 23 10) 24 8) 26 10) 27 8) 29 10) 30 8) 32 10) 33 1) 34 9) 35 2) 36 7) 37 3) 38 5) 39 4) 40 3
def sc_o0 (h : Nat → Int → Int) : Prop := (h 81 0 = ((82 : Nat) : Int) + 1 ∧ h 81 1 = ((83 : Nat) : Int) + 1 ∧ h 81 2 = ((84 : Nat) : Int) + 1 ∧ h 81 5 = ((85 : Nat) : Int) + 1 ∧ h 81 6 = ((86 : Nat) : Int) + 1 ∧ h 81 7 = ((87 : Nat) : Int) + 1 ∧ h 81 8 = ((88 : Nat) : Int) + 1 ∧ h 81 14 = ((89 : Nat) : Int) + 1 ∧ h 81 15 = ((90 : Nat) : Int) + 1 ∧ h 81 21 = ((91 : Nat) : Int) + 1 ∧ h 81 26 = ((92 : Nat) : Int) + 1 ∧ h 81 27 = ((93 : Nat) : Int) + 1 ∧ h 81 28 = ((94 : Nat) : Int) + 1 ∧ h 81 29 = ((95 : Nat) : Int) + 1) ∧ (h 81 3 = 0 ∧ h 81 4 = 0 ∧ h 81 9 = 0 ∧ h 81 10 = 0 ∧ h 81 11 = 0 ∧ h 81 12 = 0 ∧ h 81 13 = 0 ∧ h 81 16 = 0 ∧ h 81 17 = 0 ∧ h 81 18 = 0 ∧ h 81 19 = 0 ∧ h 81 20 = 0 ∧ h 81 22 = 0 ∧ h 81 23 = 0 ∧ h 81 24 = 0 ∧ h 81 25 = 0) ∧ h 82 = sp_m0 ∧ (h 83 = (fun _ => 0) ∧ h 84 = (fun _ => 0) ∧ h 85 = (fun _ => 0) ∧ h 86 = (fun _ => 0) ∧ h 87 = (fun _ => 0) ∧ h 88 = (fun _ => 0) ∧ h 89 = (fun _ => 0) ∧ h 90 = (fun _ => 0) ∧ h 91 = (fun _ => 0) ∧ h 92 = (fun _ => 0) ∧ h 93 = (fun _ => 0) ∧ h 94 = (fun _ => 0) ∧ h 95 = (fun _ => 0))
set_option maxRecDepth 100000 in
set_option maxHeartbeats 4000000 in
theorem q48_init {g : mh_G} {d : Nat} (hd : 3 ≤ d) {h : Nat → Int → Int}  (r81 : h 81 = fun _ => (0 : Int)) : mh_M g d yX12_init cX12_init 2 none 82 14 38307 [.ref 81] h (fun r h2 => r = none ∧ mh_fr [81, 82, 83, 84, 85, 86, 87, 88, 89, 90, 91, 92, 93, 94, 95] h h2 ∧ sc_o0 h2) := by
  refine mh_M_of RX12 rfl (by decide +kernel) [some (.ref 81), none] rfl (Nat.le_of_ble_eq_true rfl) (fun f F Z hn0 hR => ?_)
  refine mh_aload0 (pc := 0) F dX12_init_0 ?_
  refine mh_objI (pc := 1) F (by omega) tw_5_122 (Nat.le_of_ble_eq_true rfl) dX12_init_1 ?_
  refine mh_aload0 (pc := 4) F dX12_init_4 ?_
  refine mh_sipush (pc := 5) F dX12_init_5 rfl ?_
  refine mh_newarr (t := 0) (len := 267) (n1 := 83) (cl1 := 1) (sl1 := 267) (pc := 8) F sh_82 (by decide) (by decide) rfl rfl tw_1_134 ⟨rfl, rfl, rfl⟩ (by rw [hR.1, hR.2]; exact ⟨Nat.le_of_ble_eq_true rfl, Nat.le_of_ble_eq_true rfl⟩) dX12_init_8 ?_
  refine mh_nmh (fun h1 e1 => ?_)
  have r81_1 : h1 81 = fun _ => (0 : Int) := by rw [e1, mh_zr_row (by decide)]; exact r81
  have r82_1 : h1 82 = fun _ => (0 : Int) := by rw [e1]; exact mh_zr_rs
  have fr1 : mh_fr [82] h h1 := mh_fr.zr mh_fr.rf e1
  refine mh_putFr (pc := 10) F hn0 sh_81 (by decide) qw_RX12_9_12 dX12_init_10 rfl ?_
  refine mh_nmh (fun h2 e2 => ?_)
  have r81_2 : h2 81 = mh_ur (fun _ => (0 : Int)) 0 (((82 : Nat) : Int) + 1) := by rw [e2, mh_up_rs, r81_1] <;> rfl
  have r82_2 : h2 82 = fun _ => (0 : Int) := by rw [e2, mh_up_row (by decide)]; exact r82_1
  have fr2 : mh_fr [81, 82] h h2 := mh_fr.up fr1 e2
  refine mh_aload0 (pc := 13) F dX12_init_13 ?_
  refine mh_sipush (pc := 14) F dX12_init_14 rfl ?_
  refine mh_newarr (t := 0) (len := 267) (n1 := 84) (cl1 := 2) (sl1 := 534) (pc := 17) F sh_83 (by decide) (by decide) rfl rfl tw_1_134 ⟨rfl, rfl, rfl⟩ (by rw [hR.1, hR.2]; exact ⟨Nat.le_of_ble_eq_true rfl, Nat.le_of_ble_eq_true rfl⟩) dX12_init_17 ?_
  refine mh_nmh (fun h3 e3 => ?_)
  have r81_3 : h3 81 = mh_ur (fun _ => (0 : Int)) 0 (((82 : Nat) : Int) + 1) := by rw [e3, mh_zr_row (by decide)]; exact r81_2
  have r82_3 : h3 82 = fun _ => (0 : Int) := by rw [e3, mh_zr_row (by decide)]; exact r82_2
  have r83_3 : h3 83 = fun _ => (0 : Int) := by rw [e3]; exact mh_zr_rs
  have fr3 : mh_fr [83, 81, 82] h h3 := mh_fr.zr fr2 e3
  refine mh_putFr (pc := 19) F hn0 sh_81 (by decide) qw_RX12_13_12 dX12_init_19 rfl ?_
  refine mh_nmh (fun h4 e4 => ?_)
  have r81_4 : h4 81 = mh_ur (mh_ur (fun _ => (0 : Int)) 0 (((82 : Nat) : Int) + 1)) 1 (((83 : Nat) : Int) + 1) := by rw [e4, mh_up_rs, r81_3] <;> rfl
  have r82_4 : h4 82 = fun _ => (0 : Int) := by rw [e4, mh_up_row (by decide)]; exact r82_3
  have r83_4 : h4 83 = fun _ => (0 : Int) := by rw [e4, mh_up_row (by decide)]; exact r83_3
  have fr4 : mh_fr [83, 81, 82] h h4 := mh_fr.upi fr3 e4 (by simp)
  refine mh_aload0 (pc := 22) F dX12_init_22 ?_
  refine mh_sipush (pc := 23) F dX12_init_23 rfl ?_
  refine mh_newarr (t := 0) (len := 267) (n1 := 85) (cl1 := 3) (sl1 := 801) (pc := 26) F sh_84 (by decide) (by decide) rfl rfl tw_1_134 ⟨rfl, rfl, rfl⟩ (by rw [hR.1, hR.2]; exact ⟨Nat.le_of_ble_eq_true rfl, Nat.le_of_ble_eq_true rfl⟩) dX12_init_26 ?_
  refine mh_nmh (fun h5 e5 => ?_)
  have r81_5 : h5 81 = mh_ur (mh_ur (fun _ => (0 : Int)) 0 (((82 : Nat) : Int) + 1)) 1 (((83 : Nat) : Int) + 1) := by rw [e5, mh_zr_row (by decide)]; exact r81_4
  have r82_5 : h5 82 = fun _ => (0 : Int) := by rw [e5, mh_zr_row (by decide)]; exact r82_4
  have r83_5 : h5 83 = fun _ => (0 : Int) := by rw [e5, mh_zr_row (by decide)]; exact r83_4
  have r84_5 : h5 84 = fun _ => (0 : Int) := by rw [e5]; exact mh_zr_rs
  have fr5 : mh_fr [84, 83, 81, 82] h h5 := mh_fr.zr fr4 e5
  refine mh_putFr (pc := 28) F hn0 sh_81 (by decide) qw_RX12_16_12 dX12_init_28 rfl ?_
  refine mh_nmh (fun h6 e6 => ?_)
  have r81_6 : h6 81 = mh_ur (mh_ur (mh_ur (fun _ => (0 : Int)) 0 (((82 : Nat) : Int) + 1)) 1 (((83 : Nat) : Int) + 1)) 2 (((84 : Nat) : Int) + 1) := by rw [e6, mh_up_rs, r81_5] <;> rfl
  have r82_6 : h6 82 = fun _ => (0 : Int) := by rw [e6, mh_up_row (by decide)]; exact r82_5
  have r83_6 : h6 83 = fun _ => (0 : Int) := by rw [e6, mh_up_row (by decide)]; exact r83_5
  have r84_6 : h6 84 = fun _ => (0 : Int) := by rw [e6, mh_up_row (by decide)]; exact r84_5
  have fr6 : mh_fr [84, 83, 81, 82] h h6 := mh_fr.upi fr5 e6 (by simp)
  refine mh_aload0 (pc := 31) F dX12_init_31 ?_
  refine mh_bipush (pc := 32) F dX12_init_32 rfl ?_
  refine mh_newarr (t := 0) (len := 6) (n1 := 86) (cl1 := 4) (sl1 := 807) (pc := 34) F sh_85 (by decide) (by decide) rfl rfl tw_1_134 ⟨rfl, rfl, rfl⟩ (by rw [hR.1, hR.2]; exact ⟨Nat.le_of_ble_eq_true rfl, Nat.le_of_ble_eq_true rfl⟩) dX12_init_34 ?_
  refine mh_nmh (fun h7 e7 => ?_)
  have r81_7 : h7 81 = mh_ur (mh_ur (mh_ur (fun _ => (0 : Int)) 0 (((82 : Nat) : Int) + 1)) 1 (((83 : Nat) : Int) + 1)) 2 (((84 : Nat) : Int) + 1) := by rw [e7, mh_zr_row (by decide)]; exact r81_6
  have r82_7 : h7 82 = fun _ => (0 : Int) := by rw [e7, mh_zr_row (by decide)]; exact r82_6
  have r83_7 : h7 83 = fun _ => (0 : Int) := by rw [e7, mh_zr_row (by decide)]; exact r83_6
  have r84_7 : h7 84 = fun _ => (0 : Int) := by rw [e7, mh_zr_row (by decide)]; exact r84_6
  have r85_7 : h7 85 = fun _ => (0 : Int) := by rw [e7]; exact mh_zr_rs
  have fr7 : mh_fr [85, 84, 83, 81, 82] h h7 := mh_fr.zr fr6 e7
  refine mh_putFr (pc := 36) F hn0 sh_81 (by decide) qw_RX12_19_12 dX12_init_36 rfl ?_
  refine mh_nmh (fun h8 e8 => ?_)
  have r81_8 : h8 81 = mh_ur (mh_ur (mh_ur (mh_ur (fun _ => (0 : Int)) 0 (((82 : Nat) : Int) + 1)) 1 (((83 : Nat) : Int) + 1)) 2 (((84 : Nat) : Int) + 1)) 5 (((85 : Nat) : Int) + 1) := by rw [e8, mh_up_rs, r81_7] <;> rfl
  have r82_8 : h8 82 = fun _ => (0 : Int) := by rw [e8, mh_up_row (by decide)]; exact r82_7
  have r83_8 : h8 83 = fun _ => (0 : Int) := by rw [e8, mh_up_row (by decide)]; exact r83_7
  have r84_8 : h8 84 = fun _ => (0 : Int) := by rw [e8, mh_up_row (by decide)]; exact r84_7
  have r85_8 : h8 85 = fun _ => (0 : Int) := by rw [e8, mh_up_row (by decide)]; exact r85_7
  have fr8 : mh_fr [85, 84, 83, 81, 82] h h8 := mh_fr.upi fr7 e8 (by simp)
  refine mh_aload0 (pc := 39) F dX12_init_39 ?_
  refine mh_iconst (pc := 40) F dX12_init_40 ?_
  refine mh_newarr (t := 0) (len := 3) (n1 := 87) (cl1 := 5) (sl1 := 810) (pc := 41) F sh_86 (by decide) (by decide) rfl rfl tw_1_134 ⟨rfl, rfl, rfl⟩ (by rw [hR.1, hR.2]; exact ⟨Nat.le_of_ble_eq_true rfl, Nat.le_of_ble_eq_true rfl⟩) dX12_init_41 ?_
  refine mh_nmh (fun h9 e9 => ?_)
  have r81_9 : h9 81 = mh_ur (mh_ur (mh_ur (mh_ur (fun _ => (0 : Int)) 0 (((82 : Nat) : Int) + 1)) 1 (((83 : Nat) : Int) + 1)) 2 (((84 : Nat) : Int) + 1)) 5 (((85 : Nat) : Int) + 1) := by rw [e9, mh_zr_row (by decide)]; exact r81_8
  have r82_9 : h9 82 = fun _ => (0 : Int) := by rw [e9, mh_zr_row (by decide)]; exact r82_8
  have r83_9 : h9 83 = fun _ => (0 : Int) := by rw [e9, mh_zr_row (by decide)]; exact r83_8
  have r84_9 : h9 84 = fun _ => (0 : Int) := by rw [e9, mh_zr_row (by decide)]; exact r84_8
  have r85_9 : h9 85 = fun _ => (0 : Int) := by rw [e9, mh_zr_row (by decide)]; exact r85_8
  have r86_9 : h9 86 = fun _ => (0 : Int) := by rw [e9]; exact mh_zr_rs
  have fr9 : mh_fr [86, 85, 84, 83, 81, 82] h h9 := mh_fr.zr fr8 e9
  refine mh_putFr (pc := 43) F hn0 sh_81 (by decide) qw_RX12_22_12 dX12_init_43 rfl ?_
  refine mh_nmh (fun h10 e10 => ?_)
  have r81_10 : h10 81 = mh_ur (mh_ur (mh_ur (mh_ur (mh_ur (fun _ => (0 : Int)) 0 (((82 : Nat) : Int) + 1)) 1 (((83 : Nat) : Int) + 1)) 2 (((84 : Nat) : Int) + 1)) 5 (((85 : Nat) : Int) + 1)) 6 (((86 : Nat) : Int) + 1) := by rw [e10, mh_up_rs, r81_9] <;> rfl
  have r82_10 : h10 82 = fun _ => (0 : Int) := by rw [e10, mh_up_row (by decide)]; exact r82_9
  have r83_10 : h10 83 = fun _ => (0 : Int) := by rw [e10, mh_up_row (by decide)]; exact r83_9
  have r84_10 : h10 84 = fun _ => (0 : Int) := by rw [e10, mh_up_row (by decide)]; exact r84_9
  have r85_10 : h10 85 = fun _ => (0 : Int) := by rw [e10, mh_up_row (by decide)]; exact r85_9
  have r86_10 : h10 86 = fun _ => (0 : Int) := by rw [e10, mh_up_row (by decide)]; exact r86_9
  have fr10 : mh_fr [86, 85, 84, 83, 81, 82] h h10 := mh_fr.upi fr9 e10 (by simp)
  refine mh_aload0 (pc := 46) F dX12_init_46 ?_
  refine mh_bipush (pc := 47) F dX12_init_47 rfl ?_
  refine mh_newarr (t := 0) (len := 50) (n1 := 88) (cl1 := 6) (sl1 := 860) (pc := 49) F sh_87 (by decide) (by decide) rfl rfl tw_1_134 ⟨rfl, rfl, rfl⟩ (by rw [hR.1, hR.2]; exact ⟨Nat.le_of_ble_eq_true rfl, Nat.le_of_ble_eq_true rfl⟩) dX12_init_49 ?_
  refine mh_nmh (fun h11 e11 => ?_)
  have r81_11 : h11 81 = mh_ur (mh_ur (mh_ur (mh_ur (mh_ur (fun _ => (0 : Int)) 0 (((82 : Nat) : Int) + 1)) 1 (((83 : Nat) : Int) + 1)) 2 (((84 : Nat) : Int) + 1)) 5 (((85 : Nat) : Int) + 1)) 6 (((86 : Nat) : Int) + 1) := by rw [e11, mh_zr_row (by decide)]; exact r81_10
  have r82_11 : h11 82 = fun _ => (0 : Int) := by rw [e11, mh_zr_row (by decide)]; exact r82_10
  have r83_11 : h11 83 = fun _ => (0 : Int) := by rw [e11, mh_zr_row (by decide)]; exact r83_10
  have r84_11 : h11 84 = fun _ => (0 : Int) := by rw [e11, mh_zr_row (by decide)]; exact r84_10
  have r85_11 : h11 85 = fun _ => (0 : Int) := by rw [e11, mh_zr_row (by decide)]; exact r85_10
  have r86_11 : h11 86 = fun _ => (0 : Int) := by rw [e11, mh_zr_row (by decide)]; exact r86_10
  have r87_11 : h11 87 = fun _ => (0 : Int) := by rw [e11]; exact mh_zr_rs
  have fr11 : mh_fr [87, 86, 85, 84, 83, 81, 82] h h11 := mh_fr.zr fr10 e11
  refine mh_putFr (pc := 51) F hn0 sh_81 (by decide) qw_RX12_25_12 dX12_init_51 rfl ?_
  refine mh_nmh (fun h12 e12 => ?_)
  have r81_12 : h12 81 = mh_ur (mh_ur (mh_ur (mh_ur (mh_ur (mh_ur (fun _ => (0 : Int)) 0 (((82 : Nat) : Int) + 1)) 1 (((83 : Nat) : Int) + 1)) 2 (((84 : Nat) : Int) + 1)) 5 (((85 : Nat) : Int) + 1)) 6 (((86 : Nat) : Int) + 1)) 7 (((87 : Nat) : Int) + 1) := by rw [e12, mh_up_rs, r81_11] <;> rfl
  have r82_12 : h12 82 = fun _ => (0 : Int) := by rw [e12, mh_up_row (by decide)]; exact r82_11
  have r83_12 : h12 83 = fun _ => (0 : Int) := by rw [e12, mh_up_row (by decide)]; exact r83_11
  have r84_12 : h12 84 = fun _ => (0 : Int) := by rw [e12, mh_up_row (by decide)]; exact r84_11
  have r85_12 : h12 85 = fun _ => (0 : Int) := by rw [e12, mh_up_row (by decide)]; exact r85_11
  have r86_12 : h12 86 = fun _ => (0 : Int) := by rw [e12, mh_up_row (by decide)]; exact r86_11
  have r87_12 : h12 87 = fun _ => (0 : Int) := by rw [e12, mh_up_row (by decide)]; exact r87_11
  have fr12 : mh_fr [87, 86, 85, 84, 83, 81, 82] h h12 := mh_fr.upi fr11 e12 (by simp)
  refine mh_aload0 (pc := 54) F dX12_init_54 ?_
  refine mh_bipush (pc := 55) F dX12_init_55 rfl ?_
  refine mh_newarr (t := 0) (len := 50) (n1 := 89) (cl1 := 7) (sl1 := 910) (pc := 57) F sh_88 (by decide) (by decide) rfl rfl tw_1_134 ⟨rfl, rfl, rfl⟩ (by rw [hR.1, hR.2]; exact ⟨Nat.le_of_ble_eq_true rfl, Nat.le_of_ble_eq_true rfl⟩) dX12_init_57 ?_
  refine mh_nmh (fun h13 e13 => ?_)
  have r81_13 : h13 81 = mh_ur (mh_ur (mh_ur (mh_ur (mh_ur (mh_ur (fun _ => (0 : Int)) 0 (((82 : Nat) : Int) + 1)) 1 (((83 : Nat) : Int) + 1)) 2 (((84 : Nat) : Int) + 1)) 5 (((85 : Nat) : Int) + 1)) 6 (((86 : Nat) : Int) + 1)) 7 (((87 : Nat) : Int) + 1) := by rw [e13, mh_zr_row (by decide)]; exact r81_12
  have r82_13 : h13 82 = fun _ => (0 : Int) := by rw [e13, mh_zr_row (by decide)]; exact r82_12
  have r83_13 : h13 83 = fun _ => (0 : Int) := by rw [e13, mh_zr_row (by decide)]; exact r83_12
  have r84_13 : h13 84 = fun _ => (0 : Int) := by rw [e13, mh_zr_row (by decide)]; exact r84_12
  have r85_13 : h13 85 = fun _ => (0 : Int) := by rw [e13, mh_zr_row (by decide)]; exact r85_12
  have r86_13 : h13 86 = fun _ => (0 : Int) := by rw [e13, mh_zr_row (by decide)]; exact r86_12
  have r87_13 : h13 87 = fun _ => (0 : Int) := by rw [e13, mh_zr_row (by decide)]; exact r87_12
  have r88_13 : h13 88 = fun _ => (0 : Int) := by rw [e13]; exact mh_zr_rs
  have fr13 : mh_fr [88, 87, 86, 85, 84, 83, 81, 82] h h13 := mh_fr.zr fr12 e13
  refine mh_putFr (pc := 59) F hn0 sh_81 (by decide) qw_RX12_28_12 dX12_init_59 rfl ?_
  refine mh_nmh (fun h14 e14 => ?_)
  have r81_14 : h14 81 = mh_ur (mh_ur (mh_ur (mh_ur (mh_ur (mh_ur (mh_ur (fun _ => (0 : Int)) 0 (((82 : Nat) : Int) + 1)) 1 (((83 : Nat) : Int) + 1)) 2 (((84 : Nat) : Int) + 1)) 5 (((85 : Nat) : Int) + 1)) 6 (((86 : Nat) : Int) + 1)) 7 (((87 : Nat) : Int) + 1)) 8 (((88 : Nat) : Int) + 1) := by rw [e14, mh_up_rs, r81_13] <;> rfl
  have r82_14 : h14 82 = fun _ => (0 : Int) := by rw [e14, mh_up_row (by decide)]; exact r82_13
  have r83_14 : h14 83 = fun _ => (0 : Int) := by rw [e14, mh_up_row (by decide)]; exact r83_13
  have r84_14 : h14 84 = fun _ => (0 : Int) := by rw [e14, mh_up_row (by decide)]; exact r84_13
  have r85_14 : h14 85 = fun _ => (0 : Int) := by rw [e14, mh_up_row (by decide)]; exact r85_13
  have r86_14 : h14 86 = fun _ => (0 : Int) := by rw [e14, mh_up_row (by decide)]; exact r86_13
  have r87_14 : h14 87 = fun _ => (0 : Int) := by rw [e14, mh_up_row (by decide)]; exact r87_13
  have r88_14 : h14 88 = fun _ => (0 : Int) := by rw [e14, mh_up_row (by decide)]; exact r88_13
  have fr14 : mh_fr [88, 87, 86, 85, 84, 83, 81, 82] h h14 := mh_fr.upi fr13 e14 (by simp)
  refine mh_aload0 (pc := 62) F dX12_init_62 ?_
  refine mh_ldc (x := 36600) (pc := 63) F dX12_init_63 tw_5_123 ?_
  refine mh_newarr (t := 0) (len := 36600) (n1 := 90) (cl1 := 8) (sl1 := 37510) (pc := 65) F sh_89 (by decide) (by decide) rfl rfl tw_1_134 ⟨rfl, rfl, rfl⟩ (by rw [hR.1, hR.2]; exact ⟨Nat.le_of_ble_eq_true rfl, Nat.le_of_ble_eq_true rfl⟩) dX12_init_65 ?_
  refine mh_nmh (fun h15 e15 => ?_)
  have r81_15 : h15 81 = mh_ur (mh_ur (mh_ur (mh_ur (mh_ur (mh_ur (mh_ur (fun _ => (0 : Int)) 0 (((82 : Nat) : Int) + 1)) 1 (((83 : Nat) : Int) + 1)) 2 (((84 : Nat) : Int) + 1)) 5 (((85 : Nat) : Int) + 1)) 6 (((86 : Nat) : Int) + 1)) 7 (((87 : Nat) : Int) + 1)) 8 (((88 : Nat) : Int) + 1) := by rw [e15, mh_zr_row (by decide)]; exact r81_14
  have r82_15 : h15 82 = fun _ => (0 : Int) := by rw [e15, mh_zr_row (by decide)]; exact r82_14
  have r83_15 : h15 83 = fun _ => (0 : Int) := by rw [e15, mh_zr_row (by decide)]; exact r83_14
  have r84_15 : h15 84 = fun _ => (0 : Int) := by rw [e15, mh_zr_row (by decide)]; exact r84_14
  have r85_15 : h15 85 = fun _ => (0 : Int) := by rw [e15, mh_zr_row (by decide)]; exact r85_14
  have r86_15 : h15 86 = fun _ => (0 : Int) := by rw [e15, mh_zr_row (by decide)]; exact r86_14
  have r87_15 : h15 87 = fun _ => (0 : Int) := by rw [e15, mh_zr_row (by decide)]; exact r87_14
  have r88_15 : h15 88 = fun _ => (0 : Int) := by rw [e15, mh_zr_row (by decide)]; exact r88_14
  have r89_15 : h15 89 = fun _ => (0 : Int) := by rw [e15]; exact mh_zr_rs
  have fr15 : mh_fr [89, 88, 87, 86, 85, 84, 83, 81, 82] h h15 := mh_fr.zr fr14 e15
  refine mh_putFr (pc := 67) F hn0 sh_81 (by decide) qw_RX12_32_12 dX12_init_67 rfl ?_
  refine mh_nmh (fun h16 e16 => ?_)
  have r81_16 : h16 81 = mh_ur (mh_ur (mh_ur (mh_ur (mh_ur (mh_ur (mh_ur (mh_ur (fun _ => (0 : Int)) 0 (((82 : Nat) : Int) + 1)) 1 (((83 : Nat) : Int) + 1)) 2 (((84 : Nat) : Int) + 1)) 5 (((85 : Nat) : Int) + 1)) 6 (((86 : Nat) : Int) + 1)) 7 (((87 : Nat) : Int) + 1)) 8 (((88 : Nat) : Int) + 1)) 14 (((89 : Nat) : Int) + 1) := by rw [e16, mh_up_rs, r81_15] <;> rfl
  have r82_16 : h16 82 = fun _ => (0 : Int) := by rw [e16, mh_up_row (by decide)]; exact r82_15
  have r83_16 : h16 83 = fun _ => (0 : Int) := by rw [e16, mh_up_row (by decide)]; exact r83_15
  have r84_16 : h16 84 = fun _ => (0 : Int) := by rw [e16, mh_up_row (by decide)]; exact r84_15
  have r85_16 : h16 85 = fun _ => (0 : Int) := by rw [e16, mh_up_row (by decide)]; exact r85_15
  have r86_16 : h16 86 = fun _ => (0 : Int) := by rw [e16, mh_up_row (by decide)]; exact r86_15
  have r87_16 : h16 87 = fun _ => (0 : Int) := by rw [e16, mh_up_row (by decide)]; exact r87_15
  have r88_16 : h16 88 = fun _ => (0 : Int) := by rw [e16, mh_up_row (by decide)]; exact r88_15
  have r89_16 : h16 89 = fun _ => (0 : Int) := by rw [e16, mh_up_row (by decide)]; exact r89_15
  have fr16 : mh_fr [89, 88, 87, 86, 85, 84, 83, 81, 82] h h16 := mh_fr.upi fr15 e16 (by simp)
  refine mh_aload0 (pc := 70) F dX12_init_70 ?_
  refine mh_sipush (pc := 71) F dX12_init_71 rfl ?_
  refine mh_newarr (t := 0) (len := 549) (n1 := 91) (cl1 := 9) (sl1 := 38059) (pc := 74) F sh_90 (by decide) (by decide) rfl rfl tw_1_134 ⟨rfl, rfl, rfl⟩ (by rw [hR.1, hR.2]; exact ⟨Nat.le_of_ble_eq_true rfl, Nat.le_of_ble_eq_true rfl⟩) dX12_init_74 ?_
  refine mh_nmh (fun h17 e17 => ?_)
  have r81_17 : h17 81 = mh_ur (mh_ur (mh_ur (mh_ur (mh_ur (mh_ur (mh_ur (mh_ur (fun _ => (0 : Int)) 0 (((82 : Nat) : Int) + 1)) 1 (((83 : Nat) : Int) + 1)) 2 (((84 : Nat) : Int) + 1)) 5 (((85 : Nat) : Int) + 1)) 6 (((86 : Nat) : Int) + 1)) 7 (((87 : Nat) : Int) + 1)) 8 (((88 : Nat) : Int) + 1)) 14 (((89 : Nat) : Int) + 1) := by rw [e17, mh_zr_row (by decide)]; exact r81_16
  have r82_17 : h17 82 = fun _ => (0 : Int) := by rw [e17, mh_zr_row (by decide)]; exact r82_16
  have r83_17 : h17 83 = fun _ => (0 : Int) := by rw [e17, mh_zr_row (by decide)]; exact r83_16
  have r84_17 : h17 84 = fun _ => (0 : Int) := by rw [e17, mh_zr_row (by decide)]; exact r84_16
  have r85_17 : h17 85 = fun _ => (0 : Int) := by rw [e17, mh_zr_row (by decide)]; exact r85_16
  have r86_17 : h17 86 = fun _ => (0 : Int) := by rw [e17, mh_zr_row (by decide)]; exact r86_16
  have r87_17 : h17 87 = fun _ => (0 : Int) := by rw [e17, mh_zr_row (by decide)]; exact r87_16
  have r88_17 : h17 88 = fun _ => (0 : Int) := by rw [e17, mh_zr_row (by decide)]; exact r88_16
  have r89_17 : h17 89 = fun _ => (0 : Int) := by rw [e17, mh_zr_row (by decide)]; exact r89_16
  have r90_17 : h17 90 = fun _ => (0 : Int) := by rw [e17]; exact mh_zr_rs
  have fr17 : mh_fr [90, 89, 88, 87, 86, 85, 84, 83, 81, 82] h h17 := mh_fr.zr fr16 e17
  refine mh_putFr (pc := 76) F hn0 sh_81 (by decide) qw_RX12_35_12 dX12_init_76 rfl ?_
  refine mh_nmh (fun h18 e18 => ?_)
  have r81_18 : h18 81 = mh_ur (mh_ur (mh_ur (mh_ur (mh_ur (mh_ur (mh_ur (mh_ur (mh_ur (fun _ => (0 : Int)) 0 (((82 : Nat) : Int) + 1)) 1 (((83 : Nat) : Int) + 1)) 2 (((84 : Nat) : Int) + 1)) 5 (((85 : Nat) : Int) + 1)) 6 (((86 : Nat) : Int) + 1)) 7 (((87 : Nat) : Int) + 1)) 8 (((88 : Nat) : Int) + 1)) 14 (((89 : Nat) : Int) + 1)) 15 (((90 : Nat) : Int) + 1) := by rw [e18, mh_up_rs, r81_17] <;> rfl
  have r82_18 : h18 82 = fun _ => (0 : Int) := by rw [e18, mh_up_row (by decide)]; exact r82_17
  have r83_18 : h18 83 = fun _ => (0 : Int) := by rw [e18, mh_up_row (by decide)]; exact r83_17
  have r84_18 : h18 84 = fun _ => (0 : Int) := by rw [e18, mh_up_row (by decide)]; exact r84_17
  have r85_18 : h18 85 = fun _ => (0 : Int) := by rw [e18, mh_up_row (by decide)]; exact r85_17
  have r86_18 : h18 86 = fun _ => (0 : Int) := by rw [e18, mh_up_row (by decide)]; exact r86_17
  have r87_18 : h18 87 = fun _ => (0 : Int) := by rw [e18, mh_up_row (by decide)]; exact r87_17
  have r88_18 : h18 88 = fun _ => (0 : Int) := by rw [e18, mh_up_row (by decide)]; exact r88_17
  have r89_18 : h18 89 = fun _ => (0 : Int) := by rw [e18, mh_up_row (by decide)]; exact r89_17
  have r90_18 : h18 90 = fun _ => (0 : Int) := by rw [e18, mh_up_row (by decide)]; exact r90_17
  have fr18 : mh_fr [90, 89, 88, 87, 86, 85, 84, 83, 81, 82] h h18 := mh_fr.upi fr17 e18 (by simp)
  refine mh_aload0 (pc := 79) F dX12_init_79 ?_
  refine mh_bipush (pc := 80) F dX12_init_80 rfl ?_
  refine mh_newarr (t := 0) (len := 40) (n1 := 92) (cl1 := 10) (sl1 := 38099) (pc := 82) F sh_91 (by decide) (by decide) rfl rfl tw_1_134 ⟨rfl, rfl, rfl⟩ (by rw [hR.1, hR.2]; exact ⟨Nat.le_of_ble_eq_true rfl, Nat.le_of_ble_eq_true rfl⟩) dX12_init_82 ?_
  refine mh_nmh (fun h19 e19 => ?_)
  have r81_19 : h19 81 = mh_ur (mh_ur (mh_ur (mh_ur (mh_ur (mh_ur (mh_ur (mh_ur (mh_ur (fun _ => (0 : Int)) 0 (((82 : Nat) : Int) + 1)) 1 (((83 : Nat) : Int) + 1)) 2 (((84 : Nat) : Int) + 1)) 5 (((85 : Nat) : Int) + 1)) 6 (((86 : Nat) : Int) + 1)) 7 (((87 : Nat) : Int) + 1)) 8 (((88 : Nat) : Int) + 1)) 14 (((89 : Nat) : Int) + 1)) 15 (((90 : Nat) : Int) + 1) := by rw [e19, mh_zr_row (by decide)]; exact r81_18
  have r82_19 : h19 82 = fun _ => (0 : Int) := by rw [e19, mh_zr_row (by decide)]; exact r82_18
  have r83_19 : h19 83 = fun _ => (0 : Int) := by rw [e19, mh_zr_row (by decide)]; exact r83_18
  have r84_19 : h19 84 = fun _ => (0 : Int) := by rw [e19, mh_zr_row (by decide)]; exact r84_18
  have r85_19 : h19 85 = fun _ => (0 : Int) := by rw [e19, mh_zr_row (by decide)]; exact r85_18
  have r86_19 : h19 86 = fun _ => (0 : Int) := by rw [e19, mh_zr_row (by decide)]; exact r86_18
  have r87_19 : h19 87 = fun _ => (0 : Int) := by rw [e19, mh_zr_row (by decide)]; exact r87_18
  have r88_19 : h19 88 = fun _ => (0 : Int) := by rw [e19, mh_zr_row (by decide)]; exact r88_18
  have r89_19 : h19 89 = fun _ => (0 : Int) := by rw [e19, mh_zr_row (by decide)]; exact r89_18
  have r90_19 : h19 90 = fun _ => (0 : Int) := by rw [e19, mh_zr_row (by decide)]; exact r90_18
  have r91_19 : h19 91 = fun _ => (0 : Int) := by rw [e19]; exact mh_zr_rs
  have fr19 : mh_fr [91, 90, 89, 88, 87, 86, 85, 84, 83, 81, 82] h h19 := mh_fr.zr fr18 e19
  refine mh_putFr (pc := 84) F hn0 sh_81 (by decide) qw_RX12_38_12 dX12_init_84 rfl ?_
  refine mh_nmh (fun h20 e20 => ?_)
  have r81_20 : h20 81 = mh_ur (mh_ur (mh_ur (mh_ur (mh_ur (mh_ur (mh_ur (mh_ur (mh_ur (mh_ur (fun _ => (0 : Int)) 0 (((82 : Nat) : Int) + 1)) 1 (((83 : Nat) : Int) + 1)) 2 (((84 : Nat) : Int) + 1)) 5 (((85 : Nat) : Int) + 1)) 6 (((86 : Nat) : Int) + 1)) 7 (((87 : Nat) : Int) + 1)) 8 (((88 : Nat) : Int) + 1)) 14 (((89 : Nat) : Int) + 1)) 15 (((90 : Nat) : Int) + 1)) 21 (((91 : Nat) : Int) + 1) := by rw [e20, mh_up_rs, r81_19] <;> rfl
  have r82_20 : h20 82 = fun _ => (0 : Int) := by rw [e20, mh_up_row (by decide)]; exact r82_19
  have r83_20 : h20 83 = fun _ => (0 : Int) := by rw [e20, mh_up_row (by decide)]; exact r83_19
  have r84_20 : h20 84 = fun _ => (0 : Int) := by rw [e20, mh_up_row (by decide)]; exact r84_19
  have r85_20 : h20 85 = fun _ => (0 : Int) := by rw [e20, mh_up_row (by decide)]; exact r85_19
  have r86_20 : h20 86 = fun _ => (0 : Int) := by rw [e20, mh_up_row (by decide)]; exact r86_19
  have r87_20 : h20 87 = fun _ => (0 : Int) := by rw [e20, mh_up_row (by decide)]; exact r87_19
  have r88_20 : h20 88 = fun _ => (0 : Int) := by rw [e20, mh_up_row (by decide)]; exact r88_19
  have r89_20 : h20 89 = fun _ => (0 : Int) := by rw [e20, mh_up_row (by decide)]; exact r89_19
  have r90_20 : h20 90 = fun _ => (0 : Int) := by rw [e20, mh_up_row (by decide)]; exact r90_19
  have r91_20 : h20 91 = fun _ => (0 : Int) := by rw [e20, mh_up_row (by decide)]; exact r91_19
  have fr20 : mh_fr [91, 90, 89, 88, 87, 86, 85, 84, 83, 81, 82] h h20 := mh_fr.upi fr19 e20 (by simp)
  refine mh_aload0 (pc := 87) F dX12_init_87 ?_
  refine mh_iconst (pc := 88) F dX12_init_88 ?_
  refine mh_newarr (t := 0) (len := 4) (n1 := 93) (cl1 := 11) (sl1 := 38103) (pc := 89) F sh_92 (by decide) (by decide) rfl rfl tw_1_134 ⟨rfl, rfl, rfl⟩ (by rw [hR.1, hR.2]; exact ⟨Nat.le_of_ble_eq_true rfl, Nat.le_of_ble_eq_true rfl⟩) dX12_init_89 ?_
  refine mh_nmh (fun h21 e21 => ?_)
  have r81_21 : h21 81 = mh_ur (mh_ur (mh_ur (mh_ur (mh_ur (mh_ur (mh_ur (mh_ur (mh_ur (mh_ur (fun _ => (0 : Int)) 0 (((82 : Nat) : Int) + 1)) 1 (((83 : Nat) : Int) + 1)) 2 (((84 : Nat) : Int) + 1)) 5 (((85 : Nat) : Int) + 1)) 6 (((86 : Nat) : Int) + 1)) 7 (((87 : Nat) : Int) + 1)) 8 (((88 : Nat) : Int) + 1)) 14 (((89 : Nat) : Int) + 1)) 15 (((90 : Nat) : Int) + 1)) 21 (((91 : Nat) : Int) + 1) := by rw [e21, mh_zr_row (by decide)]; exact r81_20
  have r82_21 : h21 82 = fun _ => (0 : Int) := by rw [e21, mh_zr_row (by decide)]; exact r82_20
  have r83_21 : h21 83 = fun _ => (0 : Int) := by rw [e21, mh_zr_row (by decide)]; exact r83_20
  have r84_21 : h21 84 = fun _ => (0 : Int) := by rw [e21, mh_zr_row (by decide)]; exact r84_20
  have r85_21 : h21 85 = fun _ => (0 : Int) := by rw [e21, mh_zr_row (by decide)]; exact r85_20
  have r86_21 : h21 86 = fun _ => (0 : Int) := by rw [e21, mh_zr_row (by decide)]; exact r86_20
  have r87_21 : h21 87 = fun _ => (0 : Int) := by rw [e21, mh_zr_row (by decide)]; exact r87_20
  have r88_21 : h21 88 = fun _ => (0 : Int) := by rw [e21, mh_zr_row (by decide)]; exact r88_20
  have r89_21 : h21 89 = fun _ => (0 : Int) := by rw [e21, mh_zr_row (by decide)]; exact r89_20
  have r90_21 : h21 90 = fun _ => (0 : Int) := by rw [e21, mh_zr_row (by decide)]; exact r90_20
  have r91_21 : h21 91 = fun _ => (0 : Int) := by rw [e21, mh_zr_row (by decide)]; exact r91_20
  have r92_21 : h21 92 = fun _ => (0 : Int) := by rw [e21]; exact mh_zr_rs
  have fr21 : mh_fr [92, 91, 90, 89, 88, 87, 86, 85, 84, 83, 81, 82] h h21 := mh_fr.zr fr20 e21
  refine mh_putFr (pc := 91) F hn0 sh_81 (by decide) qw_RX12_41_12 dX12_init_91 rfl ?_
  refine mh_nmh (fun h22 e22 => ?_)
  have r81_22 : h22 81 = mh_ur (mh_ur (mh_ur (mh_ur (mh_ur (mh_ur (mh_ur (mh_ur (mh_ur (mh_ur (mh_ur (fun _ => (0 : Int)) 0 (((82 : Nat) : Int) + 1)) 1 (((83 : Nat) : Int) + 1)) 2 (((84 : Nat) : Int) + 1)) 5 (((85 : Nat) : Int) + 1)) 6 (((86 : Nat) : Int) + 1)) 7 (((87 : Nat) : Int) + 1)) 8 (((88 : Nat) : Int) + 1)) 14 (((89 : Nat) : Int) + 1)) 15 (((90 : Nat) : Int) + 1)) 21 (((91 : Nat) : Int) + 1)) 26 (((92 : Nat) : Int) + 1) := by rw [e22, mh_up_rs, r81_21] <;> rfl
  have r82_22 : h22 82 = fun _ => (0 : Int) := by rw [e22, mh_up_row (by decide)]; exact r82_21
  have r83_22 : h22 83 = fun _ => (0 : Int) := by rw [e22, mh_up_row (by decide)]; exact r83_21
  have r84_22 : h22 84 = fun _ => (0 : Int) := by rw [e22, mh_up_row (by decide)]; exact r84_21
  have r85_22 : h22 85 = fun _ => (0 : Int) := by rw [e22, mh_up_row (by decide)]; exact r85_21
  have r86_22 : h22 86 = fun _ => (0 : Int) := by rw [e22, mh_up_row (by decide)]; exact r86_21
  have r87_22 : h22 87 = fun _ => (0 : Int) := by rw [e22, mh_up_row (by decide)]; exact r87_21
  have r88_22 : h22 88 = fun _ => (0 : Int) := by rw [e22, mh_up_row (by decide)]; exact r88_21
  have r89_22 : h22 89 = fun _ => (0 : Int) := by rw [e22, mh_up_row (by decide)]; exact r89_21
  have r90_22 : h22 90 = fun _ => (0 : Int) := by rw [e22, mh_up_row (by decide)]; exact r90_21
  have r91_22 : h22 91 = fun _ => (0 : Int) := by rw [e22, mh_up_row (by decide)]; exact r91_21
  have r92_22 : h22 92 = fun _ => (0 : Int) := by rw [e22, mh_up_row (by decide)]; exact r92_21
  have fr22 : mh_fr [92, 91, 90, 89, 88, 87, 86, 85, 84, 83, 81, 82] h h22 := mh_fr.upi fr21 e22 (by simp)
  refine mh_aload0 (pc := 94) F dX12_init_94 ?_
  refine mh_iconst (pc := 95) F dX12_init_95 ?_
  refine mh_newarr (t := 0) (len := 4) (n1 := 94) (cl1 := 12) (sl1 := 38107) (pc := 96) F sh_93 (by decide) (by decide) rfl rfl tw_1_134 ⟨rfl, rfl, rfl⟩ (by rw [hR.1, hR.2]; exact ⟨Nat.le_of_ble_eq_true rfl, Nat.le_of_ble_eq_true rfl⟩) dX12_init_96 ?_
  refine mh_nmh (fun h23 e23 => ?_)
  have r81_23 : h23 81 = mh_ur (mh_ur (mh_ur (mh_ur (mh_ur (mh_ur (mh_ur (mh_ur (mh_ur (mh_ur (mh_ur (fun _ => (0 : Int)) 0 (((82 : Nat) : Int) + 1)) 1 (((83 : Nat) : Int) + 1)) 2 (((84 : Nat) : Int) + 1)) 5 (((85 : Nat) : Int) + 1)) 6 (((86 : Nat) : Int) + 1)) 7 (((87 : Nat) : Int) + 1)) 8 (((88 : Nat) : Int) + 1)) 14 (((89 : Nat) : Int) + 1)) 15 (((90 : Nat) : Int) + 1)) 21 (((91 : Nat) : Int) + 1)) 26 (((92 : Nat) : Int) + 1) := by rw [e23, mh_zr_row (by decide)]; exact r81_22
  have r82_23 : h23 82 = fun _ => (0 : Int) := by rw [e23, mh_zr_row (by decide)]; exact r82_22
  have r83_23 : h23 83 = fun _ => (0 : Int) := by rw [e23, mh_zr_row (by decide)]; exact r83_22
  have r84_23 : h23 84 = fun _ => (0 : Int) := by rw [e23, mh_zr_row (by decide)]; exact r84_22
  have r85_23 : h23 85 = fun _ => (0 : Int) := by rw [e23, mh_zr_row (by decide)]; exact r85_22
  have r86_23 : h23 86 = fun _ => (0 : Int) := by rw [e23, mh_zr_row (by decide)]; exact r86_22
  have r87_23 : h23 87 = fun _ => (0 : Int) := by rw [e23, mh_zr_row (by decide)]; exact r87_22
  have r88_23 : h23 88 = fun _ => (0 : Int) := by rw [e23, mh_zr_row (by decide)]; exact r88_22
  have r89_23 : h23 89 = fun _ => (0 : Int) := by rw [e23, mh_zr_row (by decide)]; exact r89_22
  have r90_23 : h23 90 = fun _ => (0 : Int) := by rw [e23, mh_zr_row (by decide)]; exact r90_22
  have r91_23 : h23 91 = fun _ => (0 : Int) := by rw [e23, mh_zr_row (by decide)]; exact r91_22
  have r92_23 : h23 92 = fun _ => (0 : Int) := by rw [e23, mh_zr_row (by decide)]; exact r92_22
  have r93_23 : h23 93 = fun _ => (0 : Int) := by rw [e23]; exact mh_zr_rs
  have fr23 : mh_fr [93, 92, 91, 90, 89, 88, 87, 86, 85, 84, 83, 81, 82] h h23 := mh_fr.zr fr22 e23
  refine mh_putFr (pc := 98) F hn0 sh_81 (by decide) qw_RX12_44_12 dX12_init_98 rfl ?_
  refine mh_nmh (fun h24 e24 => ?_)
  have r81_24 : h24 81 = mh_ur (mh_ur (mh_ur (mh_ur (mh_ur (mh_ur (mh_ur (mh_ur (mh_ur (mh_ur (mh_ur (mh_ur (fun _ => (0 : Int)) 0 (((82 : Nat) : Int) + 1)) 1 (((83 : Nat) : Int) + 1)) 2 (((84 : Nat) : Int) + 1)) 5 (((85 : Nat) : Int) + 1)) 6 (((86 : Nat) : Int) + 1)) 7 (((87 : Nat) : Int) + 1)) 8 (((88 : Nat) : Int) + 1)) 14 (((89 : Nat) : Int) + 1)) 15 (((90 : Nat) : Int) + 1)) 21 (((91 : Nat) : Int) + 1)) 26 (((92 : Nat) : Int) + 1)) 27 (((93 : Nat) : Int) + 1) := by rw [e24, mh_up_rs, r81_23] <;> rfl
  have r82_24 : h24 82 = fun _ => (0 : Int) := by rw [e24, mh_up_row (by decide)]; exact r82_23
  have r83_24 : h24 83 = fun _ => (0 : Int) := by rw [e24, mh_up_row (by decide)]; exact r83_23
  have r84_24 : h24 84 = fun _ => (0 : Int) := by rw [e24, mh_up_row (by decide)]; exact r84_23
  have r85_24 : h24 85 = fun _ => (0 : Int) := by rw [e24, mh_up_row (by decide)]; exact r85_23
  have r86_24 : h24 86 = fun _ => (0 : Int) := by rw [e24, mh_up_row (by decide)]; exact r86_23
  have r87_24 : h24 87 = fun _ => (0 : Int) := by rw [e24, mh_up_row (by decide)]; exact r87_23
  have r88_24 : h24 88 = fun _ => (0 : Int) := by rw [e24, mh_up_row (by decide)]; exact r88_23
  have r89_24 : h24 89 = fun _ => (0 : Int) := by rw [e24, mh_up_row (by decide)]; exact r89_23
  have r90_24 : h24 90 = fun _ => (0 : Int) := by rw [e24, mh_up_row (by decide)]; exact r90_23
  have r91_24 : h24 91 = fun _ => (0 : Int) := by rw [e24, mh_up_row (by decide)]; exact r91_23
  have r92_24 : h24 92 = fun _ => (0 : Int) := by rw [e24, mh_up_row (by decide)]; exact r92_23
  have r93_24 : h24 93 = fun _ => (0 : Int) := by rw [e24, mh_up_row (by decide)]; exact r93_23
  have fr24 : mh_fr [93, 92, 91, 90, 89, 88, 87, 86, 85, 84, 83, 81, 82] h h24 := mh_fr.upi fr23 e24 (by simp)
  refine mh_aload0 (pc := 101) F dX12_init_101 ?_
  refine mh_sipush (pc := 102) F dX12_init_102 rfl ?_
  refine mh_newarr (t := 0) (len := 160) (n1 := 95) (cl1 := 13) (sl1 := 38267) (pc := 105) F sh_94 (by decide) (by decide) rfl rfl tw_1_134 ⟨rfl, rfl, rfl⟩ (by rw [hR.1, hR.2]; exact ⟨Nat.le_of_ble_eq_true rfl, Nat.le_of_ble_eq_true rfl⟩) dX12_init_105 ?_
  refine mh_nmh (fun h25 e25 => ?_)
  have r81_25 : h25 81 = mh_ur (mh_ur (mh_ur (mh_ur (mh_ur (mh_ur (mh_ur (mh_ur (mh_ur (mh_ur (mh_ur (mh_ur (fun _ => (0 : Int)) 0 (((82 : Nat) : Int) + 1)) 1 (((83 : Nat) : Int) + 1)) 2 (((84 : Nat) : Int) + 1)) 5 (((85 : Nat) : Int) + 1)) 6 (((86 : Nat) : Int) + 1)) 7 (((87 : Nat) : Int) + 1)) 8 (((88 : Nat) : Int) + 1)) 14 (((89 : Nat) : Int) + 1)) 15 (((90 : Nat) : Int) + 1)) 21 (((91 : Nat) : Int) + 1)) 26 (((92 : Nat) : Int) + 1)) 27 (((93 : Nat) : Int) + 1) := by rw [e25, mh_zr_row (by decide)]; exact r81_24
  have r82_25 : h25 82 = fun _ => (0 : Int) := by rw [e25, mh_zr_row (by decide)]; exact r82_24
  have r83_25 : h25 83 = fun _ => (0 : Int) := by rw [e25, mh_zr_row (by decide)]; exact r83_24
  have r84_25 : h25 84 = fun _ => (0 : Int) := by rw [e25, mh_zr_row (by decide)]; exact r84_24
  have r85_25 : h25 85 = fun _ => (0 : Int) := by rw [e25, mh_zr_row (by decide)]; exact r85_24
  have r86_25 : h25 86 = fun _ => (0 : Int) := by rw [e25, mh_zr_row (by decide)]; exact r86_24
  have r87_25 : h25 87 = fun _ => (0 : Int) := by rw [e25, mh_zr_row (by decide)]; exact r87_24
  have r88_25 : h25 88 = fun _ => (0 : Int) := by rw [e25, mh_zr_row (by decide)]; exact r88_24
  have r89_25 : h25 89 = fun _ => (0 : Int) := by rw [e25, mh_zr_row (by decide)]; exact r89_24
  have r90_25 : h25 90 = fun _ => (0 : Int) := by rw [e25, mh_zr_row (by decide)]; exact r90_24
  have r91_25 : h25 91 = fun _ => (0 : Int) := by rw [e25, mh_zr_row (by decide)]; exact r91_24
  have r92_25 : h25 92 = fun _ => (0 : Int) := by rw [e25, mh_zr_row (by decide)]; exact r92_24
  have r93_25 : h25 93 = fun _ => (0 : Int) := by rw [e25, mh_zr_row (by decide)]; exact r93_24
  have r94_25 : h25 94 = fun _ => (0 : Int) := by rw [e25]; exact mh_zr_rs
  have fr25 : mh_fr [94, 93, 92, 91, 90, 89, 88, 87, 86, 85, 84, 83, 81, 82] h h25 := mh_fr.zr fr24 e25
  refine mh_putFr (pc := 107) F hn0 sh_81 (by decide) qw_RX12_47_12 dX12_init_107 rfl ?_
  refine mh_nmh (fun h26 e26 => ?_)
  have r81_26 : h26 81 = mh_ur (mh_ur (mh_ur (mh_ur (mh_ur (mh_ur (mh_ur (mh_ur (mh_ur (mh_ur (mh_ur (mh_ur (mh_ur (fun _ => (0 : Int)) 0 (((82 : Nat) : Int) + 1)) 1 (((83 : Nat) : Int) + 1)) 2 (((84 : Nat) : Int) + 1)) 5 (((85 : Nat) : Int) + 1)) 6 (((86 : Nat) : Int) + 1)) 7 (((87 : Nat) : Int) + 1)) 8 (((88 : Nat) : Int) + 1)) 14 (((89 : Nat) : Int) + 1)) 15 (((90 : Nat) : Int) + 1)) 21 (((91 : Nat) : Int) + 1)) 26 (((92 : Nat) : Int) + 1)) 27 (((93 : Nat) : Int) + 1)) 28 (((94 : Nat) : Int) + 1) := by rw [e26, mh_up_rs, r81_25] <;> rfl
  have r82_26 : h26 82 = fun _ => (0 : Int) := by rw [e26, mh_up_row (by decide)]; exact r82_25
  have r83_26 : h26 83 = fun _ => (0 : Int) := by rw [e26, mh_up_row (by decide)]; exact r83_25
  have r84_26 : h26 84 = fun _ => (0 : Int) := by rw [e26, mh_up_row (by decide)]; exact r84_25
  have r85_26 : h26 85 = fun _ => (0 : Int) := by rw [e26, mh_up_row (by decide)]; exact r85_25
  have r86_26 : h26 86 = fun _ => (0 : Int) := by rw [e26, mh_up_row (by decide)]; exact r86_25
  have r87_26 : h26 87 = fun _ => (0 : Int) := by rw [e26, mh_up_row (by decide)]; exact r87_25
  have r88_26 : h26 88 = fun _ => (0 : Int) := by rw [e26, mh_up_row (by decide)]; exact r88_25
  have r89_26 : h26 89 = fun _ => (0 : Int) := by rw [e26, mh_up_row (by decide)]; exact r89_25
  have r90_26 : h26 90 = fun _ => (0 : Int) := by rw [e26, mh_up_row (by decide)]; exact r90_25
  have r91_26 : h26 91 = fun _ => (0 : Int) := by rw [e26, mh_up_row (by decide)]; exact r91_25
  have r92_26 : h26 92 = fun _ => (0 : Int) := by rw [e26, mh_up_row (by decide)]; exact r92_25
  have r93_26 : h26 93 = fun _ => (0 : Int) := by rw [e26, mh_up_row (by decide)]; exact r93_25
  have r94_26 : h26 94 = fun _ => (0 : Int) := by rw [e26, mh_up_row (by decide)]; exact r94_25
  have fr26 : mh_fr [94, 93, 92, 91, 90, 89, 88, 87, 86, 85, 84, 83, 81, 82] h h26 := mh_fr.upi fr25 e26 (by simp)
  refine mh_aload0 (pc := 110) F dX12_init_110 ?_
  refine mh_bipush (pc := 111) F dX12_init_111 rfl ?_
  refine mh_newarr (t := 0) (len := 40) (n1 := 96) (cl1 := 14) (sl1 := 38307) (pc := 113) F sh_95 (by decide) (by decide) rfl rfl tw_1_134 ⟨rfl, rfl, rfl⟩ (by rw [hR.1, hR.2]; exact ⟨Nat.le_of_ble_eq_true rfl, Nat.le_of_ble_eq_true rfl⟩) dX12_init_113 ?_
  refine mh_nmh (fun h27 e27 => ?_)
  have r81_27 : h27 81 = mh_ur (mh_ur (mh_ur (mh_ur (mh_ur (mh_ur (mh_ur (mh_ur (mh_ur (mh_ur (mh_ur (mh_ur (mh_ur (fun _ => (0 : Int)) 0 (((82 : Nat) : Int) + 1)) 1 (((83 : Nat) : Int) + 1)) 2 (((84 : Nat) : Int) + 1)) 5 (((85 : Nat) : Int) + 1)) 6 (((86 : Nat) : Int) + 1)) 7 (((87 : Nat) : Int) + 1)) 8 (((88 : Nat) : Int) + 1)) 14 (((89 : Nat) : Int) + 1)) 15 (((90 : Nat) : Int) + 1)) 21 (((91 : Nat) : Int) + 1)) 26 (((92 : Nat) : Int) + 1)) 27 (((93 : Nat) : Int) + 1)) 28 (((94 : Nat) : Int) + 1) := by rw [e27, mh_zr_row (by decide)]; exact r81_26
  have r82_27 : h27 82 = fun _ => (0 : Int) := by rw [e27, mh_zr_row (by decide)]; exact r82_26
  have r83_27 : h27 83 = fun _ => (0 : Int) := by rw [e27, mh_zr_row (by decide)]; exact r83_26
  have r84_27 : h27 84 = fun _ => (0 : Int) := by rw [e27, mh_zr_row (by decide)]; exact r84_26
  have r85_27 : h27 85 = fun _ => (0 : Int) := by rw [e27, mh_zr_row (by decide)]; exact r85_26
  have r86_27 : h27 86 = fun _ => (0 : Int) := by rw [e27, mh_zr_row (by decide)]; exact r86_26
  have r87_27 : h27 87 = fun _ => (0 : Int) := by rw [e27, mh_zr_row (by decide)]; exact r87_26
  have r88_27 : h27 88 = fun _ => (0 : Int) := by rw [e27, mh_zr_row (by decide)]; exact r88_26
  have r89_27 : h27 89 = fun _ => (0 : Int) := by rw [e27, mh_zr_row (by decide)]; exact r89_26
  have r90_27 : h27 90 = fun _ => (0 : Int) := by rw [e27, mh_zr_row (by decide)]; exact r90_26
  have r91_27 : h27 91 = fun _ => (0 : Int) := by rw [e27, mh_zr_row (by decide)]; exact r91_26
  have r92_27 : h27 92 = fun _ => (0 : Int) := by rw [e27, mh_zr_row (by decide)]; exact r92_26
  have r93_27 : h27 93 = fun _ => (0 : Int) := by rw [e27, mh_zr_row (by decide)]; exact r93_26
  have r94_27 : h27 94 = fun _ => (0 : Int) := by rw [e27, mh_zr_row (by decide)]; exact r94_26
  have r95_27 : h27 95 = fun _ => (0 : Int) := by rw [e27]; exact mh_zr_rs
  have fr27 : mh_fr [95, 94, 93, 92, 91, 90, 89, 88, 87, 86, 85, 84, 83, 81, 82] h h27 := mh_fr.zr fr26 e27
  refine mh_putFr (pc := 115) F hn0 sh_81 (by decide) qw_RX12_50_12 dX12_init_115 rfl ?_
  refine mh_nmh (fun h28 e28 => ?_)
  have r81_28 : h28 81 = mh_ur (mh_ur (mh_ur (mh_ur (mh_ur (mh_ur (mh_ur (mh_ur (mh_ur (mh_ur (mh_ur (mh_ur (mh_ur (mh_ur (fun _ => (0 : Int)) 0 (((82 : Nat) : Int) + 1)) 1 (((83 : Nat) : Int) + 1)) 2 (((84 : Nat) : Int) + 1)) 5 (((85 : Nat) : Int) + 1)) 6 (((86 : Nat) : Int) + 1)) 7 (((87 : Nat) : Int) + 1)) 8 (((88 : Nat) : Int) + 1)) 14 (((89 : Nat) : Int) + 1)) 15 (((90 : Nat) : Int) + 1)) 21 (((91 : Nat) : Int) + 1)) 26 (((92 : Nat) : Int) + 1)) 27 (((93 : Nat) : Int) + 1)) 28 (((94 : Nat) : Int) + 1)) 29 (((95 : Nat) : Int) + 1) := by rw [e28, mh_up_rs, r81_27] <;> rfl
  have r82_28 : h28 82 = fun _ => (0 : Int) := by rw [e28, mh_up_row (by decide)]; exact r82_27
  have r83_28 : h28 83 = fun _ => (0 : Int) := by rw [e28, mh_up_row (by decide)]; exact r83_27
  have r84_28 : h28 84 = fun _ => (0 : Int) := by rw [e28, mh_up_row (by decide)]; exact r84_27
  have r85_28 : h28 85 = fun _ => (0 : Int) := by rw [e28, mh_up_row (by decide)]; exact r85_27
  have r86_28 : h28 86 = fun _ => (0 : Int) := by rw [e28, mh_up_row (by decide)]; exact r86_27
  have r87_28 : h28 87 = fun _ => (0 : Int) := by rw [e28, mh_up_row (by decide)]; exact r87_27
  have r88_28 : h28 88 = fun _ => (0 : Int) := by rw [e28, mh_up_row (by decide)]; exact r88_27
  have r89_28 : h28 89 = fun _ => (0 : Int) := by rw [e28, mh_up_row (by decide)]; exact r89_27
  have r90_28 : h28 90 = fun _ => (0 : Int) := by rw [e28, mh_up_row (by decide)]; exact r90_27
  have r91_28 : h28 91 = fun _ => (0 : Int) := by rw [e28, mh_up_row (by decide)]; exact r91_27
  have r92_28 : h28 92 = fun _ => (0 : Int) := by rw [e28, mh_up_row (by decide)]; exact r92_27
  have r93_28 : h28 93 = fun _ => (0 : Int) := by rw [e28, mh_up_row (by decide)]; exact r93_27
  have r94_28 : h28 94 = fun _ => (0 : Int) := by rw [e28, mh_up_row (by decide)]; exact r94_27
  have r95_28 : h28 95 = fun _ => (0 : Int) := by rw [e28, mh_up_row (by decide)]; exact r95_27
  have fr28 : mh_fr [95, 94, 93, 92, 91, 90, 89, 88, 87, 86, 85, 84, 83, 81, 82] h h28 := mh_fr.upi fr27 e28 (by simp)
  refine mh_aload0 (pc := 118) F dX12_init_118 ?_
  refine mh_getr (b := 82) (pc := 119) F sh_81 (by decide) fw_RX12_9_12 dX12_init_119 rfl (by rw [r81_28]; simp [mh_ur]) ?_
  refine mh_iconst (pc := 122) F dX12_init_122 ?_
  refine mh_iconst (pc := 123) F dX12_init_123 ?_
  refine mh_iastore (pc := 124) F sh_82 (by decide) (by omega) dX12_init_124 ?_
  refine mh_nmh (fun h29 e29 => ?_)
  have r81_29 : h29 81 = mh_ur (mh_ur (mh_ur (mh_ur (mh_ur (mh_ur (mh_ur (mh_ur (mh_ur (mh_ur (mh_ur (mh_ur (mh_ur (mh_ur (fun _ => (0 : Int)) 0 (((82 : Nat) : Int) + 1)) 1 (((83 : Nat) : Int) + 1)) 2 (((84 : Nat) : Int) + 1)) 5 (((85 : Nat) : Int) + 1)) 6 (((86 : Nat) : Int) + 1)) 7 (((87 : Nat) : Int) + 1)) 8 (((88 : Nat) : Int) + 1)) 14 (((89 : Nat) : Int) + 1)) 15 (((90 : Nat) : Int) + 1)) 21 (((91 : Nat) : Int) + 1)) 26 (((92 : Nat) : Int) + 1)) 27 (((93 : Nat) : Int) + 1)) 28 (((94 : Nat) : Int) + 1)) 29 (((95 : Nat) : Int) + 1) := by rw [e29, mh_up_row (by decide)]; exact r81_28
  have r82_29 : h29 82 = mh_ur (fun _ => (0 : Int)) 2 1 := by rw [e29, mh_up_rs, r82_28] <;> rfl
  have r83_29 : h29 83 = fun _ => (0 : Int) := by rw [e29, mh_up_row (by decide)]; exact r83_28
  have r84_29 : h29 84 = fun _ => (0 : Int) := by rw [e29, mh_up_row (by decide)]; exact r84_28
  have r85_29 : h29 85 = fun _ => (0 : Int) := by rw [e29, mh_up_row (by decide)]; exact r85_28
  have r86_29 : h29 86 = fun _ => (0 : Int) := by rw [e29, mh_up_row (by decide)]; exact r86_28
  have r87_29 : h29 87 = fun _ => (0 : Int) := by rw [e29, mh_up_row (by decide)]; exact r87_28
  have r88_29 : h29 88 = fun _ => (0 : Int) := by rw [e29, mh_up_row (by decide)]; exact r88_28
  have r89_29 : h29 89 = fun _ => (0 : Int) := by rw [e29, mh_up_row (by decide)]; exact r89_28
  have r90_29 : h29 90 = fun _ => (0 : Int) := by rw [e29, mh_up_row (by decide)]; exact r90_28
  have r91_29 : h29 91 = fun _ => (0 : Int) := by rw [e29, mh_up_row (by decide)]; exact r91_28
  have r92_29 : h29 92 = fun _ => (0 : Int) := by rw [e29, mh_up_row (by decide)]; exact r92_28
  have r93_29 : h29 93 = fun _ => (0 : Int) := by rw [e29, mh_up_row (by decide)]; exact r93_28
  have r94_29 : h29 94 = fun _ => (0 : Int) := by rw [e29, mh_up_row (by decide)]; exact r94_28
  have r95_29 : h29 95 = fun _ => (0 : Int) := by rw [e29, mh_up_row (by decide)]; exact r95_28
  have fr29 : mh_fr [95, 94, 93, 92, 91, 90, 89, 88, 87, 86, 85, 84, 83, 81, 82] h h29 := mh_fr.upi fr28 e29 (by simp)
  refine mh_iconst (pc := 125) F dX12_init_125 ?_
  refine mh_istore1 (pc := 126) F dX12_init_126 rfl (by decide) ?_
  refine mh_iload1 (pc := 127) F dX12_init_127 ?_
  refine mh_bipush (pc := 128) F dX12_init_128 rfl ?_
  refine mh_icmp_ge (pc := 130) (tgt := 169) F dX12_init_130 rfl (by omega) (by omega) (fun c_130 => ?_) (fun c_130 => ?_)
  · exact absurd c_130 (by decide)
  · refine mh_aload0 (pc := 133) F dX12_init_133 ?_
    refine mh_getr (b := 82) (pc := 134) F sh_81 (by decide) fw_RX12_9_12 dX12_init_134 rfl (by rw [r81_29]; simp [mh_ur]) ?_
    refine mh_bipush (pc := 137) F dX12_init_137 rfl ?_
    refine mh_iconst (pc := 139) F dX12_init_139 ?_
    refine mh_iload1 (pc := 140) F dX12_init_140 ?_
    refine mh_imul (pc := 141) F dX12_init_141 ?_
    refine mh_top (y := 0) rfl ?_
    refine mh_iadd (pc := 142) F dX12_init_142 ?_
    refine mh_top (y := 6) rfl ?_
    refine mh_iconst (pc := 143) F dX12_init_143 ?_
    refine mh_iadd (pc := 144) F dX12_init_144 ?_
    refine mh_top (y := 6) rfl ?_
    refine mh_bipush (pc := 145) F dX12_init_145 rfl ?_
    refine mh_iastore (pc := 147) F sh_82 (by decide) (by omega) dX12_init_147 ?_
    refine mh_nmh (fun h30 e30 => ?_)
    have r81_30 : h30 81 = mh_ur (mh_ur (mh_ur (mh_ur (mh_ur (mh_ur (mh_ur (mh_ur (mh_ur (mh_ur (mh_ur (mh_ur (mh_ur (mh_ur (fun _ => (0 : Int)) 0 (((82 : Nat) : Int) + 1)) 1 (((83 : Nat) : Int) + 1)) 2 (((84 : Nat) : Int) + 1)) 5 (((85 : Nat) : Int) + 1)) 6 (((86 : Nat) : Int) + 1)) 7 (((87 : Nat) : Int) + 1)) 8 (((88 : Nat) : Int) + 1)) 14 (((89 : Nat) : Int) + 1)) 15 (((90 : Nat) : Int) + 1)) 21 (((91 : Nat) : Int) + 1)) 26 (((92 : Nat) : Int) + 1)) 27 (((93 : Nat) : Int) + 1)) 28 (((94 : Nat) : Int) + 1)) 29 (((95 : Nat) : Int) + 1) := by rw [e30, mh_up_row (by decide)]; exact r81_29
    have r82_30 : h30 82 = mh_ur (mh_ur (fun _ => (0 : Int)) 2 1) 6 8 := by rw [e30, mh_up_rs, r82_29] <;> rfl
    have r83_30 : h30 83 = fun _ => (0 : Int) := by rw [e30, mh_up_row (by decide)]; exact r83_29
    have r84_30 : h30 84 = fun _ => (0 : Int) := by rw [e30, mh_up_row (by decide)]; exact r84_29
    have r85_30 : h30 85 = fun _ => (0 : Int) := by rw [e30, mh_up_row (by decide)]; exact r85_29
    have r86_30 : h30 86 = fun _ => (0 : Int) := by rw [e30, mh_up_row (by decide)]; exact r86_29
    have r87_30 : h30 87 = fun _ => (0 : Int) := by rw [e30, mh_up_row (by decide)]; exact r87_29
    have r88_30 : h30 88 = fun _ => (0 : Int) := by rw [e30, mh_up_row (by decide)]; exact r88_29
    have r89_30 : h30 89 = fun _ => (0 : Int) := by rw [e30, mh_up_row (by decide)]; exact r89_29
    have r90_30 : h30 90 = fun _ => (0 : Int) := by rw [e30, mh_up_row (by decide)]; exact r90_29
    have r91_30 : h30 91 = fun _ => (0 : Int) := by rw [e30, mh_up_row (by decide)]; exact r91_29
    have r92_30 : h30 92 = fun _ => (0 : Int) := by rw [e30, mh_up_row (by decide)]; exact r92_29
    have r93_30 : h30 93 = fun _ => (0 : Int) := by rw [e30, mh_up_row (by decide)]; exact r93_29
    have r94_30 : h30 94 = fun _ => (0 : Int) := by rw [e30, mh_up_row (by decide)]; exact r94_29
    have r95_30 : h30 95 = fun _ => (0 : Int) := by rw [e30, mh_up_row (by decide)]; exact r95_29
    have fr30 : mh_fr [95, 94, 93, 92, 91, 90, 89, 88, 87, 86, 85, 84, 83, 81, 82] h h30 := mh_fr.upi fr29 e30 (by simp)
    refine mh_aload0 (pc := 148) F dX12_init_148 ?_
    refine mh_getr (b := 82) (pc := 149) F sh_81 (by decide) fw_RX12_9_12 dX12_init_149 rfl (by rw [r81_30]; simp [mh_ur]) ?_
    refine mh_bipush (pc := 152) F dX12_init_152 rfl ?_
    refine mh_iconst (pc := 154) F dX12_init_154 ?_
    refine mh_iload1 (pc := 155) F dX12_init_155 ?_
    refine mh_imul (pc := 156) F dX12_init_156 ?_
    refine mh_top (y := 0) rfl ?_
    refine mh_iadd (pc := 157) F dX12_init_157 ?_
    refine mh_top (y := 6) rfl ?_
    refine mh_iconst (pc := 158) F dX12_init_158 ?_
    refine mh_iadd (pc := 159) F dX12_init_159 ?_
    refine mh_top (y := 8) rfl ?_
    refine mh_bipush (pc := 160) F dX12_init_160 rfl ?_
    refine mh_iastore (pc := 162) F sh_82 (by decide) (by omega) dX12_init_162 ?_
    refine mh_nmh (fun h31 e31 => ?_)
    have r81_31 : h31 81 = mh_ur (mh_ur (mh_ur (mh_ur (mh_ur (mh_ur (mh_ur (mh_ur (mh_ur (mh_ur (mh_ur (mh_ur (mh_ur (mh_ur (fun _ => (0 : Int)) 0 (((82 : Nat) : Int) + 1)) 1 (((83 : Nat) : Int) + 1)) 2 (((84 : Nat) : Int) + 1)) 5 (((85 : Nat) : Int) + 1)) 6 (((86 : Nat) : Int) + 1)) 7 (((87 : Nat) : Int) + 1)) 8 (((88 : Nat) : Int) + 1)) 14 (((89 : Nat) : Int) + 1)) 15 (((90 : Nat) : Int) + 1)) 21 (((91 : Nat) : Int) + 1)) 26 (((92 : Nat) : Int) + 1)) 27 (((93 : Nat) : Int) + 1)) 28 (((94 : Nat) : Int) + 1)) 29 (((95 : Nat) : Int) + 1) := by rw [e31, mh_up_row (by decide)]; exact r81_30
    have r82_31 : h31 82 = mh_ur (mh_ur (mh_ur (fun _ => (0 : Int)) 2 1) 6 8) 8 10 := by rw [e31, mh_up_rs, r82_30] <;> rfl
    have r83_31 : h31 83 = fun _ => (0 : Int) := by rw [e31, mh_up_row (by decide)]; exact r83_30
    have r84_31 : h31 84 = fun _ => (0 : Int) := by rw [e31, mh_up_row (by decide)]; exact r84_30
    have r85_31 : h31 85 = fun _ => (0 : Int) := by rw [e31, mh_up_row (by decide)]; exact r85_30
    have r86_31 : h31 86 = fun _ => (0 : Int) := by rw [e31, mh_up_row (by decide)]; exact r86_30
    have r87_31 : h31 87 = fun _ => (0 : Int) := by rw [e31, mh_up_row (by decide)]; exact r87_30
    have r88_31 : h31 88 = fun _ => (0 : Int) := by rw [e31, mh_up_row (by decide)]; exact r88_30
    have r89_31 : h31 89 = fun _ => (0 : Int) := by rw [e31, mh_up_row (by decide)]; exact r89_30
    have r90_31 : h31 90 = fun _ => (0 : Int) := by rw [e31, mh_up_row (by decide)]; exact r90_30
    have r91_31 : h31 91 = fun _ => (0 : Int) := by rw [e31, mh_up_row (by decide)]; exact r91_30
    have r92_31 : h31 92 = fun _ => (0 : Int) := by rw [e31, mh_up_row (by decide)]; exact r92_30
    have r93_31 : h31 93 = fun _ => (0 : Int) := by rw [e31, mh_up_row (by decide)]; exact r93_30
    have r94_31 : h31 94 = fun _ => (0 : Int) := by rw [e31, mh_up_row (by decide)]; exact r94_30
    have r95_31 : h31 95 = fun _ => (0 : Int) := by rw [e31, mh_up_row (by decide)]; exact r95_30
    have fr31 : mh_fr [95, 94, 93, 92, 91, 90, 89, 88, 87, 86, 85, 84, 83, 81, 82] h h31 := mh_fr.upi fr30 e31 (by simp)
    refine mh_iinc1 (pc := 163) F dX12_init_163 rfl (by decide) ?_
    refine mh_goto (pc := 166) (tgt := 127) F dX12_init_166 rfl ?_
    refine mh_iload1 (pc := 127) F dX12_init_127 ?_
    refine mh_bipush (pc := 128) F dX12_init_128 rfl ?_
    refine mh_icmp_ge (pc := 130) (tgt := 169) F dX12_init_130 rfl (by omega) (by omega) (fun c_130 => ?_) (fun c_130 => ?_)
    · exact absurd c_130 (by decide)
    · refine mh_aload0 (pc := 133) F dX12_init_133 ?_
      refine mh_getr (b := 82) (pc := 134) F sh_81 (by decide) fw_RX12_9_12 dX12_init_134 rfl (by rw [r81_31]; simp [mh_ur]) ?_
      refine mh_bipush (pc := 137) F dX12_init_137 rfl ?_
      refine mh_iconst (pc := 139) F dX12_init_139 ?_
      refine mh_iload1 (pc := 140) F dX12_init_140 ?_
      refine mh_imul (pc := 141) F dX12_init_141 ?_
      refine mh_top (y := 3) rfl ?_
      refine mh_iadd (pc := 142) F dX12_init_142 ?_
      refine mh_top (y := 9) rfl ?_
      refine mh_iconst (pc := 143) F dX12_init_143 ?_
      refine mh_iadd (pc := 144) F dX12_init_144 ?_
      refine mh_top (y := 9) rfl ?_
      refine mh_bipush (pc := 145) F dX12_init_145 rfl ?_
      refine mh_iastore (pc := 147) F sh_82 (by decide) (by omega) dX12_init_147 ?_
      refine mh_nmh (fun h32 e32 => ?_)
      have r81_32 : h32 81 = mh_ur (mh_ur (mh_ur (mh_ur (mh_ur (mh_ur (mh_ur (mh_ur (mh_ur (mh_ur (mh_ur (mh_ur (mh_ur (mh_ur (fun _ => (0 : Int)) 0 (((82 : Nat) : Int) + 1)) 1 (((83 : Nat) : Int) + 1)) 2 (((84 : Nat) : Int) + 1)) 5 (((85 : Nat) : Int) + 1)) 6 (((86 : Nat) : Int) + 1)) 7 (((87 : Nat) : Int) + 1)) 8 (((88 : Nat) : Int) + 1)) 14 (((89 : Nat) : Int) + 1)) 15 (((90 : Nat) : Int) + 1)) 21 (((91 : Nat) : Int) + 1)) 26 (((92 : Nat) : Int) + 1)) 27 (((93 : Nat) : Int) + 1)) 28 (((94 : Nat) : Int) + 1)) 29 (((95 : Nat) : Int) + 1) := by rw [e32, mh_up_row (by decide)]; exact r81_31
      have r82_32 : h32 82 = mh_ur (mh_ur (mh_ur (mh_ur (fun _ => (0 : Int)) 2 1) 6 8) 8 10) 9 8 := by rw [e32, mh_up_rs, r82_31] <;> rfl
      have r83_32 : h32 83 = fun _ => (0 : Int) := by rw [e32, mh_up_row (by decide)]; exact r83_31
      have r84_32 : h32 84 = fun _ => (0 : Int) := by rw [e32, mh_up_row (by decide)]; exact r84_31
      have r85_32 : h32 85 = fun _ => (0 : Int) := by rw [e32, mh_up_row (by decide)]; exact r85_31
      have r86_32 : h32 86 = fun _ => (0 : Int) := by rw [e32, mh_up_row (by decide)]; exact r86_31
      have r87_32 : h32 87 = fun _ => (0 : Int) := by rw [e32, mh_up_row (by decide)]; exact r87_31
      have r88_32 : h32 88 = fun _ => (0 : Int) := by rw [e32, mh_up_row (by decide)]; exact r88_31
      have r89_32 : h32 89 = fun _ => (0 : Int) := by rw [e32, mh_up_row (by decide)]; exact r89_31
      have r90_32 : h32 90 = fun _ => (0 : Int) := by rw [e32, mh_up_row (by decide)]; exact r90_31
      have r91_32 : h32 91 = fun _ => (0 : Int) := by rw [e32, mh_up_row (by decide)]; exact r91_31
      have r92_32 : h32 92 = fun _ => (0 : Int) := by rw [e32, mh_up_row (by decide)]; exact r92_31
      have r93_32 : h32 93 = fun _ => (0 : Int) := by rw [e32, mh_up_row (by decide)]; exact r93_31
      have r94_32 : h32 94 = fun _ => (0 : Int) := by rw [e32, mh_up_row (by decide)]; exact r94_31
      have r95_32 : h32 95 = fun _ => (0 : Int) := by rw [e32, mh_up_row (by decide)]; exact r95_31
      have fr32 : mh_fr [95, 94, 93, 92, 91, 90, 89, 88, 87, 86, 85, 84, 83, 81, 82] h h32 := mh_fr.upi fr31 e32 (by simp)
      refine mh_aload0 (pc := 148) F dX12_init_148 ?_
      refine mh_getr (b := 82) (pc := 149) F sh_81 (by decide) fw_RX12_9_12 dX12_init_149 rfl (by rw [r81_32]; simp [mh_ur]) ?_
      refine mh_bipush (pc := 152) F dX12_init_152 rfl ?_
      refine mh_iconst (pc := 154) F dX12_init_154 ?_
      refine mh_iload1 (pc := 155) F dX12_init_155 ?_
      refine mh_imul (pc := 156) F dX12_init_156 ?_
      refine mh_top (y := 3) rfl ?_
      refine mh_iadd (pc := 157) F dX12_init_157 ?_
      refine mh_top (y := 9) rfl ?_
      refine mh_iconst (pc := 158) F dX12_init_158 ?_
      refine mh_iadd (pc := 159) F dX12_init_159 ?_
      refine mh_top (y := 11) rfl ?_
      refine mh_bipush (pc := 160) F dX12_init_160 rfl ?_
      refine mh_iastore (pc := 162) F sh_82 (by decide) (by omega) dX12_init_162 ?_
      refine mh_nmh (fun h33 e33 => ?_)
      have r81_33 : h33 81 = mh_ur (mh_ur (mh_ur (mh_ur (mh_ur (mh_ur (mh_ur (mh_ur (mh_ur (mh_ur (mh_ur (mh_ur (mh_ur (mh_ur (fun _ => (0 : Int)) 0 (((82 : Nat) : Int) + 1)) 1 (((83 : Nat) : Int) + 1)) 2 (((84 : Nat) : Int) + 1)) 5 (((85 : Nat) : Int) + 1)) 6 (((86 : Nat) : Int) + 1)) 7 (((87 : Nat) : Int) + 1)) 8 (((88 : Nat) : Int) + 1)) 14 (((89 : Nat) : Int) + 1)) 15 (((90 : Nat) : Int) + 1)) 21 (((91 : Nat) : Int) + 1)) 26 (((92 : Nat) : Int) + 1)) 27 (((93 : Nat) : Int) + 1)) 28 (((94 : Nat) : Int) + 1)) 29 (((95 : Nat) : Int) + 1) := by rw [e33, mh_up_row (by decide)]; exact r81_32
      have r82_33 : h33 82 = mh_ur (mh_ur (mh_ur (mh_ur (mh_ur (fun _ => (0 : Int)) 2 1) 6 8) 8 10) 9 8) 11 10 := by rw [e33, mh_up_rs, r82_32] <;> rfl
      have r83_33 : h33 83 = fun _ => (0 : Int) := by rw [e33, mh_up_row (by decide)]; exact r83_32
      have r84_33 : h33 84 = fun _ => (0 : Int) := by rw [e33, mh_up_row (by decide)]; exact r84_32
      have r85_33 : h33 85 = fun _ => (0 : Int) := by rw [e33, mh_up_row (by decide)]; exact r85_32
      have r86_33 : h33 86 = fun _ => (0 : Int) := by rw [e33, mh_up_row (by decide)]; exact r86_32
      have r87_33 : h33 87 = fun _ => (0 : Int) := by rw [e33, mh_up_row (by decide)]; exact r87_32
      have r88_33 : h33 88 = fun _ => (0 : Int) := by rw [e33, mh_up_row (by decide)]; exact r88_32
      have r89_33 : h33 89 = fun _ => (0 : Int) := by rw [e33, mh_up_row (by decide)]; exact r89_32
      have r90_33 : h33 90 = fun _ => (0 : Int) := by rw [e33, mh_up_row (by decide)]; exact r90_32
      have r91_33 : h33 91 = fun _ => (0 : Int) := by rw [e33, mh_up_row (by decide)]; exact r91_32
      have r92_33 : h33 92 = fun _ => (0 : Int) := by rw [e33, mh_up_row (by decide)]; exact r92_32
      have r93_33 : h33 93 = fun _ => (0 : Int) := by rw [e33, mh_up_row (by decide)]; exact r93_32
      have r94_33 : h33 94 = fun _ => (0 : Int) := by rw [e33, mh_up_row (by decide)]; exact r94_32
      have r95_33 : h33 95 = fun _ => (0 : Int) := by rw [e33, mh_up_row (by decide)]; exact r95_32
      have fr33 : mh_fr [95, 94, 93, 92, 91, 90, 89, 88, 87, 86, 85, 84, 83, 81, 82] h h33 := mh_fr.upi fr32 e33 (by simp)
      refine mh_iinc1 (pc := 163) F dX12_init_163 rfl (by decide) ?_
      refine mh_goto (pc := 166) (tgt := 127) F dX12_init_166 rfl ?_
      refine mh_iload1 (pc := 127) F dX12_init_127 ?_
      refine mh_bipush (pc := 128) F dX12_init_128 rfl ?_
      refine mh_icmp_ge (pc := 130) (tgt := 169) F dX12_init_130 rfl (by omega) (by omega) (fun c_130 => ?_) (fun c_130 => ?_)
      · exact absurd c_130 (by decide)
      · refine mh_aload0 (pc := 133) F dX12_init_133 ?_
        refine mh_getr (b := 82) (pc := 134) F sh_81 (by decide) fw_RX12_9_12 dX12_init_134 rfl (by rw [r81_33]; simp [mh_ur]) ?_
        refine mh_bipush (pc := 137) F dX12_init_137 rfl ?_
        refine mh_iconst (pc := 139) F dX12_init_139 ?_
        refine mh_iload1 (pc := 140) F dX12_init_140 ?_
        refine mh_imul (pc := 141) F dX12_init_141 ?_
        refine mh_top (y := 6) rfl ?_
        refine mh_iadd (pc := 142) F dX12_init_142 ?_
        refine mh_top (y := 12) rfl ?_
        refine mh_iconst (pc := 143) F dX12_init_143 ?_
        refine mh_iadd (pc := 144) F dX12_init_144 ?_
        refine mh_top (y := 12) rfl ?_
        refine mh_bipush (pc := 145) F dX12_init_145 rfl ?_
        refine mh_iastore (pc := 147) F sh_82 (by decide) (by omega) dX12_init_147 ?_
        refine mh_nmh (fun h34 e34 => ?_)
        have r81_34 : h34 81 = mh_ur (mh_ur (mh_ur (mh_ur (mh_ur (mh_ur (mh_ur (mh_ur (mh_ur (mh_ur (mh_ur (mh_ur (mh_ur (mh_ur (fun _ => (0 : Int)) 0 (((82 : Nat) : Int) + 1)) 1 (((83 : Nat) : Int) + 1)) 2 (((84 : Nat) : Int) + 1)) 5 (((85 : Nat) : Int) + 1)) 6 (((86 : Nat) : Int) + 1)) 7 (((87 : Nat) : Int) + 1)) 8 (((88 : Nat) : Int) + 1)) 14 (((89 : Nat) : Int) + 1)) 15 (((90 : Nat) : Int) + 1)) 21 (((91 : Nat) : Int) + 1)) 26 (((92 : Nat) : Int) + 1)) 27 (((93 : Nat) : Int) + 1)) 28 (((94 : Nat) : Int) + 1)) 29 (((95 : Nat) : Int) + 1) := by rw [e34, mh_up_row (by decide)]; exact r81_33
        have r82_34 : h34 82 = mh_ur (mh_ur (mh_ur (mh_ur (mh_ur (mh_ur (fun _ => (0 : Int)) 2 1) 6 8) 8 10) 9 8) 11 10) 12 8 := by rw [e34, mh_up_rs, r82_33] <;> rfl
        have r83_34 : h34 83 = fun _ => (0 : Int) := by rw [e34, mh_up_row (by decide)]; exact r83_33
        have r84_34 : h34 84 = fun _ => (0 : Int) := by rw [e34, mh_up_row (by decide)]; exact r84_33
        have r85_34 : h34 85 = fun _ => (0 : Int) := by rw [e34, mh_up_row (by decide)]; exact r85_33
        have r86_34 : h34 86 = fun _ => (0 : Int) := by rw [e34, mh_up_row (by decide)]; exact r86_33
        have r87_34 : h34 87 = fun _ => (0 : Int) := by rw [e34, mh_up_row (by decide)]; exact r87_33
        have r88_34 : h34 88 = fun _ => (0 : Int) := by rw [e34, mh_up_row (by decide)]; exact r88_33
        have r89_34 : h34 89 = fun _ => (0 : Int) := by rw [e34, mh_up_row (by decide)]; exact r89_33
        have r90_34 : h34 90 = fun _ => (0 : Int) := by rw [e34, mh_up_row (by decide)]; exact r90_33
        have r91_34 : h34 91 = fun _ => (0 : Int) := by rw [e34, mh_up_row (by decide)]; exact r91_33
        have r92_34 : h34 92 = fun _ => (0 : Int) := by rw [e34, mh_up_row (by decide)]; exact r92_33
        have r93_34 : h34 93 = fun _ => (0 : Int) := by rw [e34, mh_up_row (by decide)]; exact r93_33
        have r94_34 : h34 94 = fun _ => (0 : Int) := by rw [e34, mh_up_row (by decide)]; exact r94_33
        have r95_34 : h34 95 = fun _ => (0 : Int) := by rw [e34, mh_up_row (by decide)]; exact r95_33
        have fr34 : mh_fr [95, 94, 93, 92, 91, 90, 89, 88, 87, 86, 85, 84, 83, 81, 82] h h34 := mh_fr.upi fr33 e34 (by simp)
        refine mh_aload0 (pc := 148) F dX12_init_148 ?_
        refine mh_getr (b := 82) (pc := 149) F sh_81 (by decide) fw_RX12_9_12 dX12_init_149 rfl (by rw [r81_34]; simp [mh_ur]) ?_
        refine mh_bipush (pc := 152) F dX12_init_152 rfl ?_
        refine mh_iconst (pc := 154) F dX12_init_154 ?_
        refine mh_iload1 (pc := 155) F dX12_init_155 ?_
        refine mh_imul (pc := 156) F dX12_init_156 ?_
        refine mh_top (y := 6) rfl ?_
        refine mh_iadd (pc := 157) F dX12_init_157 ?_
        refine mh_top (y := 12) rfl ?_
        refine mh_iconst (pc := 158) F dX12_init_158 ?_
        refine mh_iadd (pc := 159) F dX12_init_159 ?_
        refine mh_top (y := 14) rfl ?_
        refine mh_bipush (pc := 160) F dX12_init_160 rfl ?_
        refine mh_iastore (pc := 162) F sh_82 (by decide) (by omega) dX12_init_162 ?_
        refine mh_nmh (fun h35 e35 => ?_)
        have r81_35 : h35 81 = mh_ur (mh_ur (mh_ur (mh_ur (mh_ur (mh_ur (mh_ur (mh_ur (mh_ur (mh_ur (mh_ur (mh_ur (mh_ur (mh_ur (fun _ => (0 : Int)) 0 (((82 : Nat) : Int) + 1)) 1 (((83 : Nat) : Int) + 1)) 2 (((84 : Nat) : Int) + 1)) 5 (((85 : Nat) : Int) + 1)) 6 (((86 : Nat) : Int) + 1)) 7 (((87 : Nat) : Int) + 1)) 8 (((88 : Nat) : Int) + 1)) 14 (((89 : Nat) : Int) + 1)) 15 (((90 : Nat) : Int) + 1)) 21 (((91 : Nat) : Int) + 1)) 26 (((92 : Nat) : Int) + 1)) 27 (((93 : Nat) : Int) + 1)) 28 (((94 : Nat) : Int) + 1)) 29 (((95 : Nat) : Int) + 1) := by rw [e35, mh_up_row (by decide)]; exact r81_34
        have r82_35 : h35 82 = mh_ur (mh_ur (mh_ur (mh_ur (mh_ur (mh_ur (mh_ur (fun _ => (0 : Int)) 2 1) 6 8) 8 10) 9 8) 11 10) 12 8) 14 10 := by rw [e35, mh_up_rs, r82_34] <;> rfl
        have r83_35 : h35 83 = fun _ => (0 : Int) := by rw [e35, mh_up_row (by decide)]; exact r83_34
        have r84_35 : h35 84 = fun _ => (0 : Int) := by rw [e35, mh_up_row (by decide)]; exact r84_34
        have r85_35 : h35 85 = fun _ => (0 : Int) := by rw [e35, mh_up_row (by decide)]; exact r85_34
        have r86_35 : h35 86 = fun _ => (0 : Int) := by rw [e35, mh_up_row (by decide)]; exact r86_34
        have r87_35 : h35 87 = fun _ => (0 : Int) := by rw [e35, mh_up_row (by decide)]; exact r87_34
        have r88_35 : h35 88 = fun _ => (0 : Int) := by rw [e35, mh_up_row (by decide)]; exact r88_34
        have r89_35 : h35 89 = fun _ => (0 : Int) := by rw [e35, mh_up_row (by decide)]; exact r89_34
        have r90_35 : h35 90 = fun _ => (0 : Int) := by rw [e35, mh_up_row (by decide)]; exact r90_34
        have r91_35 : h35 91 = fun _ => (0 : Int) := by rw [e35, mh_up_row (by decide)]; exact r91_34
        have r92_35 : h35 92 = fun _ => (0 : Int) := by rw [e35, mh_up_row (by decide)]; exact r92_34
        have r93_35 : h35 93 = fun _ => (0 : Int) := by rw [e35, mh_up_row (by decide)]; exact r93_34
        have r94_35 : h35 94 = fun _ => (0 : Int) := by rw [e35, mh_up_row (by decide)]; exact r94_34
        have r95_35 : h35 95 = fun _ => (0 : Int) := by rw [e35, mh_up_row (by decide)]; exact r95_34
        have fr35 : mh_fr [95, 94, 93, 92, 91, 90, 89, 88, 87, 86, 85, 84, 83, 81, 82] h h35 := mh_fr.upi fr34 e35 (by simp)
        refine mh_iinc1 (pc := 163) F dX12_init_163 rfl (by decide) ?_
        refine mh_goto (pc := 166) (tgt := 127) F dX12_init_166 rfl ?_
        refine mh_iload1 (pc := 127) F dX12_init_127 ?_
        refine mh_bipush (pc := 128) F dX12_init_128 rfl ?_
        refine mh_icmp_ge (pc := 130) (tgt := 169) F dX12_init_130 rfl (by omega) (by omega) (fun c_130 => ?_) (fun c_130 => ?_)
        · exact absurd c_130 (by decide)
        · refine mh_aload0 (pc := 133) F dX12_init_133 ?_
          refine mh_getr (b := 82) (pc := 134) F sh_81 (by decide) fw_RX12_9_12 dX12_init_134 rfl (by rw [r81_35]; simp [mh_ur]) ?_
          refine mh_bipush (pc := 137) F dX12_init_137 rfl ?_
          refine mh_iconst (pc := 139) F dX12_init_139 ?_
          refine mh_iload1 (pc := 140) F dX12_init_140 ?_
          refine mh_imul (pc := 141) F dX12_init_141 ?_
          refine mh_top (y := 9) rfl ?_
          refine mh_iadd (pc := 142) F dX12_init_142 ?_
          refine mh_top (y := 15) rfl ?_
          refine mh_iconst (pc := 143) F dX12_init_143 ?_
          refine mh_iadd (pc := 144) F dX12_init_144 ?_
          refine mh_top (y := 15) rfl ?_
          refine mh_bipush (pc := 145) F dX12_init_145 rfl ?_
          refine mh_iastore (pc := 147) F sh_82 (by decide) (by omega) dX12_init_147 ?_
          refine mh_nmh (fun h36 e36 => ?_)
          have r81_36 : h36 81 = mh_ur (mh_ur (mh_ur (mh_ur (mh_ur (mh_ur (mh_ur (mh_ur (mh_ur (mh_ur (mh_ur (mh_ur (mh_ur (mh_ur (fun _ => (0 : Int)) 0 (((82 : Nat) : Int) + 1)) 1 (((83 : Nat) : Int) + 1)) 2 (((84 : Nat) : Int) + 1)) 5 (((85 : Nat) : Int) + 1)) 6 (((86 : Nat) : Int) + 1)) 7 (((87 : Nat) : Int) + 1)) 8 (((88 : Nat) : Int) + 1)) 14 (((89 : Nat) : Int) + 1)) 15 (((90 : Nat) : Int) + 1)) 21 (((91 : Nat) : Int) + 1)) 26 (((92 : Nat) : Int) + 1)) 27 (((93 : Nat) : Int) + 1)) 28 (((94 : Nat) : Int) + 1)) 29 (((95 : Nat) : Int) + 1) := by rw [e36, mh_up_row (by decide)]; exact r81_35
          have r82_36 : h36 82 = mh_ur (mh_ur (mh_ur (mh_ur (mh_ur (mh_ur (mh_ur (mh_ur (fun _ => (0 : Int)) 2 1) 6 8) 8 10) 9 8) 11 10) 12 8) 14 10) 15 8 := by rw [e36, mh_up_rs, r82_35] <;> rfl
          have r83_36 : h36 83 = fun _ => (0 : Int) := by rw [e36, mh_up_row (by decide)]; exact r83_35
          have r84_36 : h36 84 = fun _ => (0 : Int) := by rw [e36, mh_up_row (by decide)]; exact r84_35
          have r85_36 : h36 85 = fun _ => (0 : Int) := by rw [e36, mh_up_row (by decide)]; exact r85_35
          have r86_36 : h36 86 = fun _ => (0 : Int) := by rw [e36, mh_up_row (by decide)]; exact r86_35
          have r87_36 : h36 87 = fun _ => (0 : Int) := by rw [e36, mh_up_row (by decide)]; exact r87_35
          have r88_36 : h36 88 = fun _ => (0 : Int) := by rw [e36, mh_up_row (by decide)]; exact r88_35
          have r89_36 : h36 89 = fun _ => (0 : Int) := by rw [e36, mh_up_row (by decide)]; exact r89_35
          have r90_36 : h36 90 = fun _ => (0 : Int) := by rw [e36, mh_up_row (by decide)]; exact r90_35
          have r91_36 : h36 91 = fun _ => (0 : Int) := by rw [e36, mh_up_row (by decide)]; exact r91_35
          have r92_36 : h36 92 = fun _ => (0 : Int) := by rw [e36, mh_up_row (by decide)]; exact r92_35
          have r93_36 : h36 93 = fun _ => (0 : Int) := by rw [e36, mh_up_row (by decide)]; exact r93_35
          have r94_36 : h36 94 = fun _ => (0 : Int) := by rw [e36, mh_up_row (by decide)]; exact r94_35
          have r95_36 : h36 95 = fun _ => (0 : Int) := by rw [e36, mh_up_row (by decide)]; exact r95_35
          have fr36 : mh_fr [95, 94, 93, 92, 91, 90, 89, 88, 87, 86, 85, 84, 83, 81, 82] h h36 := mh_fr.upi fr35 e36 (by simp)
          refine mh_aload0 (pc := 148) F dX12_init_148 ?_
          refine mh_getr (b := 82) (pc := 149) F sh_81 (by decide) fw_RX12_9_12 dX12_init_149 rfl (by rw [r81_36]; simp [mh_ur]) ?_
          refine mh_bipush (pc := 152) F dX12_init_152 rfl ?_
          refine mh_iconst (pc := 154) F dX12_init_154 ?_
          refine mh_iload1 (pc := 155) F dX12_init_155 ?_
          refine mh_imul (pc := 156) F dX12_init_156 ?_
          refine mh_top (y := 9) rfl ?_
          refine mh_iadd (pc := 157) F dX12_init_157 ?_
          refine mh_top (y := 15) rfl ?_
          refine mh_iconst (pc := 158) F dX12_init_158 ?_
          refine mh_iadd (pc := 159) F dX12_init_159 ?_
          refine mh_top (y := 17) rfl ?_
          refine mh_bipush (pc := 160) F dX12_init_160 rfl ?_
          refine mh_iastore (pc := 162) F sh_82 (by decide) (by omega) dX12_init_162 ?_
          refine mh_nmh (fun h37 e37 => ?_)
          have r81_37 : h37 81 = mh_ur (mh_ur (mh_ur (mh_ur (mh_ur (mh_ur (mh_ur (mh_ur (mh_ur (mh_ur (mh_ur (mh_ur (mh_ur (mh_ur (fun _ => (0 : Int)) 0 (((82 : Nat) : Int) + 1)) 1 (((83 : Nat) : Int) + 1)) 2 (((84 : Nat) : Int) + 1)) 5 (((85 : Nat) : Int) + 1)) 6 (((86 : Nat) : Int) + 1)) 7 (((87 : Nat) : Int) + 1)) 8 (((88 : Nat) : Int) + 1)) 14 (((89 : Nat) : Int) + 1)) 15 (((90 : Nat) : Int) + 1)) 21 (((91 : Nat) : Int) + 1)) 26 (((92 : Nat) : Int) + 1)) 27 (((93 : Nat) : Int) + 1)) 28 (((94 : Nat) : Int) + 1)) 29 (((95 : Nat) : Int) + 1) := by rw [e37, mh_up_row (by decide)]; exact r81_36
          have r82_37 : h37 82 = mh_ur (mh_ur (mh_ur (mh_ur (mh_ur (mh_ur (mh_ur (mh_ur (mh_ur (fun _ => (0 : Int)) 2 1) 6 8) 8 10) 9 8) 11 10) 12 8) 14 10) 15 8) 17 10 := by rw [e37, mh_up_rs, r82_36] <;> rfl
          have r83_37 : h37 83 = fun _ => (0 : Int) := by rw [e37, mh_up_row (by decide)]; exact r83_36
          have r84_37 : h37 84 = fun _ => (0 : Int) := by rw [e37, mh_up_row (by decide)]; exact r84_36
          have r85_37 : h37 85 = fun _ => (0 : Int) := by rw [e37, mh_up_row (by decide)]; exact r85_36
          have r86_37 : h37 86 = fun _ => (0 : Int) := by rw [e37, mh_up_row (by decide)]; exact r86_36
          have r87_37 : h37 87 = fun _ => (0 : Int) := by rw [e37, mh_up_row (by decide)]; exact r87_36
          have r88_37 : h37 88 = fun _ => (0 : Int) := by rw [e37, mh_up_row (by decide)]; exact r88_36
          have r89_37 : h37 89 = fun _ => (0 : Int) := by rw [e37, mh_up_row (by decide)]; exact r89_36
          have r90_37 : h37 90 = fun _ => (0 : Int) := by rw [e37, mh_up_row (by decide)]; exact r90_36
          have r91_37 : h37 91 = fun _ => (0 : Int) := by rw [e37, mh_up_row (by decide)]; exact r91_36
          have r92_37 : h37 92 = fun _ => (0 : Int) := by rw [e37, mh_up_row (by decide)]; exact r92_36
          have r93_37 : h37 93 = fun _ => (0 : Int) := by rw [e37, mh_up_row (by decide)]; exact r93_36
          have r94_37 : h37 94 = fun _ => (0 : Int) := by rw [e37, mh_up_row (by decide)]; exact r94_36
          have r95_37 : h37 95 = fun _ => (0 : Int) := by rw [e37, mh_up_row (by decide)]; exact r95_36
          have fr37 : mh_fr [95, 94, 93, 92, 91, 90, 89, 88, 87, 86, 85, 84, 83, 81, 82] h h37 := mh_fr.upi fr36 e37 (by simp)
          refine mh_iinc1 (pc := 163) F dX12_init_163 rfl (by decide) ?_
          refine mh_goto (pc := 166) (tgt := 127) F dX12_init_166 rfl ?_
          refine mh_iload1 (pc := 127) F dX12_init_127 ?_
          refine mh_bipush (pc := 128) F dX12_init_128 rfl ?_
          refine mh_icmp_ge (pc := 130) (tgt := 169) F dX12_init_130 rfl (by omega) (by omega) (fun c_130 => ?_) (fun c_130 => ?_)
          · exact absurd c_130 (by decide)
          · refine mh_aload0 (pc := 133) F dX12_init_133 ?_
            refine mh_getr (b := 82) (pc := 134) F sh_81 (by decide) fw_RX12_9_12 dX12_init_134 rfl (by rw [r81_37]; simp [mh_ur]) ?_
            refine mh_bipush (pc := 137) F dX12_init_137 rfl ?_
            refine mh_iconst (pc := 139) F dX12_init_139 ?_
            refine mh_iload1 (pc := 140) F dX12_init_140 ?_
            refine mh_imul (pc := 141) F dX12_init_141 ?_
            refine mh_top (y := 12) rfl ?_
            refine mh_iadd (pc := 142) F dX12_init_142 ?_
            refine mh_top (y := 18) rfl ?_
            refine mh_iconst (pc := 143) F dX12_init_143 ?_
            refine mh_iadd (pc := 144) F dX12_init_144 ?_
            refine mh_top (y := 18) rfl ?_
            refine mh_bipush (pc := 145) F dX12_init_145 rfl ?_
            refine mh_iastore (pc := 147) F sh_82 (by decide) (by omega) dX12_init_147 ?_
            refine mh_nmh (fun h38 e38 => ?_)
            have r81_38 : h38 81 = mh_ur (mh_ur (mh_ur (mh_ur (mh_ur (mh_ur (mh_ur (mh_ur (mh_ur (mh_ur (mh_ur (mh_ur (mh_ur (mh_ur (fun _ => (0 : Int)) 0 (((82 : Nat) : Int) + 1)) 1 (((83 : Nat) : Int) + 1)) 2 (((84 : Nat) : Int) + 1)) 5 (((85 : Nat) : Int) + 1)) 6 (((86 : Nat) : Int) + 1)) 7 (((87 : Nat) : Int) + 1)) 8 (((88 : Nat) : Int) + 1)) 14 (((89 : Nat) : Int) + 1)) 15 (((90 : Nat) : Int) + 1)) 21 (((91 : Nat) : Int) + 1)) 26 (((92 : Nat) : Int) + 1)) 27 (((93 : Nat) : Int) + 1)) 28 (((94 : Nat) : Int) + 1)) 29 (((95 : Nat) : Int) + 1) := by rw [e38, mh_up_row (by decide)]; exact r81_37
            have r82_38 : h38 82 = mh_ur (mh_ur (mh_ur (mh_ur (mh_ur (mh_ur (mh_ur (mh_ur (mh_ur (mh_ur (fun _ => (0 : Int)) 2 1) 6 8) 8 10) 9 8) 11 10) 12 8) 14 10) 15 8) 17 10) 18 8 := by rw [e38, mh_up_rs, r82_37] <;> rfl
            have r83_38 : h38 83 = fun _ => (0 : Int) := by rw [e38, mh_up_row (by decide)]; exact r83_37
            have r84_38 : h38 84 = fun _ => (0 : Int) := by rw [e38, mh_up_row (by decide)]; exact r84_37
            have r85_38 : h38 85 = fun _ => (0 : Int) := by rw [e38, mh_up_row (by decide)]; exact r85_37
            have r86_38 : h38 86 = fun _ => (0 : Int) := by rw [e38, mh_up_row (by decide)]; exact r86_37
            have r87_38 : h38 87 = fun _ => (0 : Int) := by rw [e38, mh_up_row (by decide)]; exact r87_37
            have r88_38 : h38 88 = fun _ => (0 : Int) := by rw [e38, mh_up_row (by decide)]; exact r88_37
            have r89_38 : h38 89 = fun _ => (0 : Int) := by rw [e38, mh_up_row (by decide)]; exact r89_37
            have r90_38 : h38 90 = fun _ => (0 : Int) := by rw [e38, mh_up_row (by decide)]; exact r90_37
            have r91_38 : h38 91 = fun _ => (0 : Int) := by rw [e38, mh_up_row (by decide)]; exact r91_37
            have r92_38 : h38 92 = fun _ => (0 : Int) := by rw [e38, mh_up_row (by decide)]; exact r92_37
            have r93_38 : h38 93 = fun _ => (0 : Int) := by rw [e38, mh_up_row (by decide)]; exact r93_37
            have r94_38 : h38 94 = fun _ => (0 : Int) := by rw [e38, mh_up_row (by decide)]; exact r94_37
            have r95_38 : h38 95 = fun _ => (0 : Int) := by rw [e38, mh_up_row (by decide)]; exact r95_37
            have fr38 : mh_fr [95, 94, 93, 92, 91, 90, 89, 88, 87, 86, 85, 84, 83, 81, 82] h h38 := mh_fr.upi fr37 e38 (by simp)
            refine mh_aload0 (pc := 148) F dX12_init_148 ?_
            refine mh_getr (b := 82) (pc := 149) F sh_81 (by decide) fw_RX12_9_12 dX12_init_149 rfl (by rw [r81_38]; simp [mh_ur]) ?_
            refine mh_bipush (pc := 152) F dX12_init_152 rfl ?_
            refine mh_iconst (pc := 154) F dX12_init_154 ?_
            refine mh_iload1 (pc := 155) F dX12_init_155 ?_
            refine mh_imul (pc := 156) F dX12_init_156 ?_
            refine mh_top (y := 12) rfl ?_
            refine mh_iadd (pc := 157) F dX12_init_157 ?_
            refine mh_top (y := 18) rfl ?_
            refine mh_iconst (pc := 158) F dX12_init_158 ?_
            refine mh_iadd (pc := 159) F dX12_init_159 ?_
            refine mh_top (y := 20) rfl ?_
            refine mh_bipush (pc := 160) F dX12_init_160 rfl ?_
            refine mh_iastore (pc := 162) F sh_82 (by decide) (by omega) dX12_init_162 ?_
            refine mh_nmh (fun h39 e39 => ?_)
            have r81_39 : h39 81 = mh_ur (mh_ur (mh_ur (mh_ur (mh_ur (mh_ur (mh_ur (mh_ur (mh_ur (mh_ur (mh_ur (mh_ur (mh_ur (mh_ur (fun _ => (0 : Int)) 0 (((82 : Nat) : Int) + 1)) 1 (((83 : Nat) : Int) + 1)) 2 (((84 : Nat) : Int) + 1)) 5 (((85 : Nat) : Int) + 1)) 6 (((86 : Nat) : Int) + 1)) 7 (((87 : Nat) : Int) + 1)) 8 (((88 : Nat) : Int) + 1)) 14 (((89 : Nat) : Int) + 1)) 15 (((90 : Nat) : Int) + 1)) 21 (((91 : Nat) : Int) + 1)) 26 (((92 : Nat) : Int) + 1)) 27 (((93 : Nat) : Int) + 1)) 28 (((94 : Nat) : Int) + 1)) 29 (((95 : Nat) : Int) + 1) := by rw [e39, mh_up_row (by decide)]; exact r81_38
            have r82_39 : h39 82 = mh_ur (mh_ur (mh_ur (mh_ur (mh_ur (mh_ur (mh_ur (mh_ur (mh_ur (mh_ur (mh_ur (fun _ => (0 : Int)) 2 1) 6 8) 8 10) 9 8) 11 10) 12 8) 14 10) 15 8) 17 10) 18 8) 20 10 := by rw [e39, mh_up_rs, r82_38] <;> rfl
            have r83_39 : h39 83 = fun _ => (0 : Int) := by rw [e39, mh_up_row (by decide)]; exact r83_38
            have r84_39 : h39 84 = fun _ => (0 : Int) := by rw [e39, mh_up_row (by decide)]; exact r84_38
            have r85_39 : h39 85 = fun _ => (0 : Int) := by rw [e39, mh_up_row (by decide)]; exact r85_38
            have r86_39 : h39 86 = fun _ => (0 : Int) := by rw [e39, mh_up_row (by decide)]; exact r86_38
            have r87_39 : h39 87 = fun _ => (0 : Int) := by rw [e39, mh_up_row (by decide)]; exact r87_38
            have r88_39 : h39 88 = fun _ => (0 : Int) := by rw [e39, mh_up_row (by decide)]; exact r88_38
            have r89_39 : h39 89 = fun _ => (0 : Int) := by rw [e39, mh_up_row (by decide)]; exact r89_38
            have r90_39 : h39 90 = fun _ => (0 : Int) := by rw [e39, mh_up_row (by decide)]; exact r90_38
            have r91_39 : h39 91 = fun _ => (0 : Int) := by rw [e39, mh_up_row (by decide)]; exact r91_38
            have r92_39 : h39 92 = fun _ => (0 : Int) := by rw [e39, mh_up_row (by decide)]; exact r92_38
            have r93_39 : h39 93 = fun _ => (0 : Int) := by rw [e39, mh_up_row (by decide)]; exact r93_38
            have r94_39 : h39 94 = fun _ => (0 : Int) := by rw [e39, mh_up_row (by decide)]; exact r94_38
            have r95_39 : h39 95 = fun _ => (0 : Int) := by rw [e39, mh_up_row (by decide)]; exact r95_38
            have fr39 : mh_fr [95, 94, 93, 92, 91, 90, 89, 88, 87, 86, 85, 84, 83, 81, 82] h h39 := mh_fr.upi fr38 e39 (by simp)
            refine mh_iinc1 (pc := 163) F dX12_init_163 rfl (by decide) ?_
            refine mh_goto (pc := 166) (tgt := 127) F dX12_init_166 rfl ?_
            refine mh_iload1 (pc := 127) F dX12_init_127 ?_
            refine mh_bipush (pc := 128) F dX12_init_128 rfl ?_
            refine mh_icmp_ge (pc := 130) (tgt := 169) F dX12_init_130 rfl (by omega) (by omega) (fun c_130 => ?_) (fun c_130 => ?_)
            · exact absurd c_130 (by decide)
            · refine mh_aload0 (pc := 133) F dX12_init_133 ?_
              refine mh_getr (b := 82) (pc := 134) F sh_81 (by decide) fw_RX12_9_12 dX12_init_134 rfl (by rw [r81_39]; simp [mh_ur]) ?_
              refine mh_bipush (pc := 137) F dX12_init_137 rfl ?_
              refine mh_iconst (pc := 139) F dX12_init_139 ?_
              refine mh_iload1 (pc := 140) F dX12_init_140 ?_
              refine mh_imul (pc := 141) F dX12_init_141 ?_
              refine mh_top (y := 15) rfl ?_
              refine mh_iadd (pc := 142) F dX12_init_142 ?_
              refine mh_top (y := 21) rfl ?_
              refine mh_iconst (pc := 143) F dX12_init_143 ?_
              refine mh_iadd (pc := 144) F dX12_init_144 ?_
              refine mh_top (y := 21) rfl ?_
              refine mh_bipush (pc := 145) F dX12_init_145 rfl ?_
              refine mh_iastore (pc := 147) F sh_82 (by decide) (by omega) dX12_init_147 ?_
              refine mh_nmh (fun h40 e40 => ?_)
              have r81_40 : h40 81 = mh_ur (mh_ur (mh_ur (mh_ur (mh_ur (mh_ur (mh_ur (mh_ur (mh_ur (mh_ur (mh_ur (mh_ur (mh_ur (mh_ur (fun _ => (0 : Int)) 0 (((82 : Nat) : Int) + 1)) 1 (((83 : Nat) : Int) + 1)) 2 (((84 : Nat) : Int) + 1)) 5 (((85 : Nat) : Int) + 1)) 6 (((86 : Nat) : Int) + 1)) 7 (((87 : Nat) : Int) + 1)) 8 (((88 : Nat) : Int) + 1)) 14 (((89 : Nat) : Int) + 1)) 15 (((90 : Nat) : Int) + 1)) 21 (((91 : Nat) : Int) + 1)) 26 (((92 : Nat) : Int) + 1)) 27 (((93 : Nat) : Int) + 1)) 28 (((94 : Nat) : Int) + 1)) 29 (((95 : Nat) : Int) + 1) := by rw [e40, mh_up_row (by decide)]; exact r81_39
              have r82_40 : h40 82 = mh_ur (mh_ur (mh_ur (mh_ur (mh_ur (mh_ur (mh_ur (mh_ur (mh_ur (mh_ur (mh_ur (mh_ur (fun _ => (0 : Int)) 2 1) 6 8) 8 10) 9 8) 11 10) 12 8) 14 10) 15 8) 17 10) 18 8) 20 10) 21 8 := by rw [e40, mh_up_rs, r82_39] <;> rfl
              have r83_40 : h40 83 = fun _ => (0 : Int) := by rw [e40, mh_up_row (by decide)]; exact r83_39
              have r84_40 : h40 84 = fun _ => (0 : Int) := by rw [e40, mh_up_row (by decide)]; exact r84_39
              have r85_40 : h40 85 = fun _ => (0 : Int) := by rw [e40, mh_up_row (by decide)]; exact r85_39
              have r86_40 : h40 86 = fun _ => (0 : Int) := by rw [e40, mh_up_row (by decide)]; exact r86_39
              have r87_40 : h40 87 = fun _ => (0 : Int) := by rw [e40, mh_up_row (by decide)]; exact r87_39
              have r88_40 : h40 88 = fun _ => (0 : Int) := by rw [e40, mh_up_row (by decide)]; exact r88_39
              have r89_40 : h40 89 = fun _ => (0 : Int) := by rw [e40, mh_up_row (by decide)]; exact r89_39
              have r90_40 : h40 90 = fun _ => (0 : Int) := by rw [e40, mh_up_row (by decide)]; exact r90_39
              have r91_40 : h40 91 = fun _ => (0 : Int) := by rw [e40, mh_up_row (by decide)]; exact r91_39
              have r92_40 : h40 92 = fun _ => (0 : Int) := by rw [e40, mh_up_row (by decide)]; exact r92_39
              have r93_40 : h40 93 = fun _ => (0 : Int) := by rw [e40, mh_up_row (by decide)]; exact r93_39
              have r94_40 : h40 94 = fun _ => (0 : Int) := by rw [e40, mh_up_row (by decide)]; exact r94_39
              have r95_40 : h40 95 = fun _ => (0 : Int) := by rw [e40, mh_up_row (by decide)]; exact r95_39
              have fr40 : mh_fr [95, 94, 93, 92, 91, 90, 89, 88, 87, 86, 85, 84, 83, 81, 82] h h40 := mh_fr.upi fr39 e40 (by simp)
              refine mh_aload0 (pc := 148) F dX12_init_148 ?_
              refine mh_getr (b := 82) (pc := 149) F sh_81 (by decide) fw_RX12_9_12 dX12_init_149 rfl (by rw [r81_40]; simp [mh_ur]) ?_
              refine mh_bipush (pc := 152) F dX12_init_152 rfl ?_
              refine mh_iconst (pc := 154) F dX12_init_154 ?_
              refine mh_iload1 (pc := 155) F dX12_init_155 ?_
              refine mh_imul (pc := 156) F dX12_init_156 ?_
              refine mh_top (y := 15) rfl ?_
              refine mh_iadd (pc := 157) F dX12_init_157 ?_
              refine mh_top (y := 21) rfl ?_
              refine mh_iconst (pc := 158) F dX12_init_158 ?_
              refine mh_iadd (pc := 159) F dX12_init_159 ?_
              refine mh_top (y := 23) rfl ?_
              refine mh_bipush (pc := 160) F dX12_init_160 rfl ?_
              refine mh_iastore (pc := 162) F sh_82 (by decide) (by omega) dX12_init_162 ?_
              refine mh_nmh (fun h41 e41 => ?_)
              have r81_41 : h41 81 = mh_ur (mh_ur (mh_ur (mh_ur (mh_ur (mh_ur (mh_ur (mh_ur (mh_ur (mh_ur (mh_ur (mh_ur (mh_ur (mh_ur (fun _ => (0 : Int)) 0 (((82 : Nat) : Int) + 1)) 1 (((83 : Nat) : Int) + 1)) 2 (((84 : Nat) : Int) + 1)) 5 (((85 : Nat) : Int) + 1)) 6 (((86 : Nat) : Int) + 1)) 7 (((87 : Nat) : Int) + 1)) 8 (((88 : Nat) : Int) + 1)) 14 (((89 : Nat) : Int) + 1)) 15 (((90 : Nat) : Int) + 1)) 21 (((91 : Nat) : Int) + 1)) 26 (((92 : Nat) : Int) + 1)) 27 (((93 : Nat) : Int) + 1)) 28 (((94 : Nat) : Int) + 1)) 29 (((95 : Nat) : Int) + 1) := by rw [e41, mh_up_row (by decide)]; exact r81_40
              have r82_41 : h41 82 = mh_ur (mh_ur (mh_ur (mh_ur (mh_ur (mh_ur (mh_ur (mh_ur (mh_ur (mh_ur (mh_ur (mh_ur (mh_ur (fun _ => (0 : Int)) 2 1) 6 8) 8 10) 9 8) 11 10) 12 8) 14 10) 15 8) 17 10) 18 8) 20 10) 21 8) 23 10 := by rw [e41, mh_up_rs, r82_40] <;> rfl
              have r83_41 : h41 83 = fun _ => (0 : Int) := by rw [e41, mh_up_row (by decide)]; exact r83_40
              have r84_41 : h41 84 = fun _ => (0 : Int) := by rw [e41, mh_up_row (by decide)]; exact r84_40
              have r85_41 : h41 85 = fun _ => (0 : Int) := by rw [e41, mh_up_row (by decide)]; exact r85_40
              have r86_41 : h41 86 = fun _ => (0 : Int) := by rw [e41, mh_up_row (by decide)]; exact r86_40
              have r87_41 : h41 87 = fun _ => (0 : Int) := by rw [e41, mh_up_row (by decide)]; exact r87_40
              have r88_41 : h41 88 = fun _ => (0 : Int) := by rw [e41, mh_up_row (by decide)]; exact r88_40
              have r89_41 : h41 89 = fun _ => (0 : Int) := by rw [e41, mh_up_row (by decide)]; exact r89_40
              have r90_41 : h41 90 = fun _ => (0 : Int) := by rw [e41, mh_up_row (by decide)]; exact r90_40
              have r91_41 : h41 91 = fun _ => (0 : Int) := by rw [e41, mh_up_row (by decide)]; exact r91_40
              have r92_41 : h41 92 = fun _ => (0 : Int) := by rw [e41, mh_up_row (by decide)]; exact r92_40
              have r93_41 : h41 93 = fun _ => (0 : Int) := by rw [e41, mh_up_row (by decide)]; exact r93_40
              have r94_41 : h41 94 = fun _ => (0 : Int) := by rw [e41, mh_up_row (by decide)]; exact r94_40
              have r95_41 : h41 95 = fun _ => (0 : Int) := by rw [e41, mh_up_row (by decide)]; exact r95_40
              have fr41 : mh_fr [95, 94, 93, 92, 91, 90, 89, 88, 87, 86, 85, 84, 83, 81, 82] h h41 := mh_fr.upi fr40 e41 (by simp)
              refine mh_iinc1 (pc := 163) F dX12_init_163 rfl (by decide) ?_
              refine mh_goto (pc := 166) (tgt := 127) F dX12_init_166 rfl ?_
              refine mh_iload1 (pc := 127) F dX12_init_127 ?_
              refine mh_bipush (pc := 128) F dX12_init_128 rfl ?_
              refine mh_icmp_ge (pc := 130) (tgt := 169) F dX12_init_130 rfl (by omega) (by omega) (fun c_130 => ?_) (fun c_130 => ?_)
              · exact absurd c_130 (by decide)
              · refine mh_aload0 (pc := 133) F dX12_init_133 ?_
                refine mh_getr (b := 82) (pc := 134) F sh_81 (by decide) fw_RX12_9_12 dX12_init_134 rfl (by rw [r81_41]; simp [mh_ur]) ?_
                refine mh_bipush (pc := 137) F dX12_init_137 rfl ?_
                refine mh_iconst (pc := 139) F dX12_init_139 ?_
                refine mh_iload1 (pc := 140) F dX12_init_140 ?_
                refine mh_imul (pc := 141) F dX12_init_141 ?_
                refine mh_top (y := 18) rfl ?_
                refine mh_iadd (pc := 142) F dX12_init_142 ?_
                refine mh_top (y := 24) rfl ?_
                refine mh_iconst (pc := 143) F dX12_init_143 ?_
                refine mh_iadd (pc := 144) F dX12_init_144 ?_
                refine mh_top (y := 24) rfl ?_
                refine mh_bipush (pc := 145) F dX12_init_145 rfl ?_
                refine mh_iastore (pc := 147) F sh_82 (by decide) (by omega) dX12_init_147 ?_
                refine mh_nmh (fun h42 e42 => ?_)
                have r81_42 : h42 81 = mh_ur (mh_ur (mh_ur (mh_ur (mh_ur (mh_ur (mh_ur (mh_ur (mh_ur (mh_ur (mh_ur (mh_ur (mh_ur (mh_ur (fun _ => (0 : Int)) 0 (((82 : Nat) : Int) + 1)) 1 (((83 : Nat) : Int) + 1)) 2 (((84 : Nat) : Int) + 1)) 5 (((85 : Nat) : Int) + 1)) 6 (((86 : Nat) : Int) + 1)) 7 (((87 : Nat) : Int) + 1)) 8 (((88 : Nat) : Int) + 1)) 14 (((89 : Nat) : Int) + 1)) 15 (((90 : Nat) : Int) + 1)) 21 (((91 : Nat) : Int) + 1)) 26 (((92 : Nat) : Int) + 1)) 27 (((93 : Nat) : Int) + 1)) 28 (((94 : Nat) : Int) + 1)) 29 (((95 : Nat) : Int) + 1) := by rw [e42, mh_up_row (by decide)]; exact r81_41
                have r82_42 : h42 82 = mh_ur (mh_ur (mh_ur (mh_ur (mh_ur (mh_ur (mh_ur (mh_ur (mh_ur (mh_ur (mh_ur (mh_ur (mh_ur (mh_ur (fun _ => (0 : Int)) 2 1) 6 8) 8 10) 9 8) 11 10) 12 8) 14 10) 15 8) 17 10) 18 8) 20 10) 21 8) 23 10) 24 8 := by rw [e42, mh_up_rs, r82_41] <;> rfl
                have r83_42 : h42 83 = fun _ => (0 : Int) := by rw [e42, mh_up_row (by decide)]; exact r83_41
                have r84_42 : h42 84 = fun _ => (0 : Int) := by rw [e42, mh_up_row (by decide)]; exact r84_41
                have r85_42 : h42 85 = fun _ => (0 : Int) := by rw [e42, mh_up_row (by decide)]; exact r85_41
                have r86_42 : h42 86 = fun _ => (0 : Int) := by rw [e42, mh_up_row (by decide)]; exact r86_41
                have r87_42 : h42 87 = fun _ => (0 : Int) := by rw [e42, mh_up_row (by decide)]; exact r87_41
                have r88_42 : h42 88 = fun _ => (0 : Int) := by rw [e42, mh_up_row (by decide)]; exact r88_41
                have r89_42 : h42 89 = fun _ => (0 : Int) := by rw [e42, mh_up_row (by decide)]; exact r89_41
                have r90_42 : h42 90 = fun _ => (0 : Int) := by rw [e42, mh_up_row (by decide)]; exact r90_41
                have r91_42 : h42 91 = fun _ => (0 : Int) := by rw [e42, mh_up_row (by decide)]; exact r91_41
                have r92_42 : h42 92 = fun _ => (0 : Int) := by rw [e42, mh_up_row (by decide)]; exact r92_41
                have r93_42 : h42 93 = fun _ => (0 : Int) := by rw [e42, mh_up_row (by decide)]; exact r93_41
                have r94_42 : h42 94 = fun _ => (0 : Int) := by rw [e42, mh_up_row (by decide)]; exact r94_41
                have r95_42 : h42 95 = fun _ => (0 : Int) := by rw [e42, mh_up_row (by decide)]; exact r95_41
                have fr42 : mh_fr [95, 94, 93, 92, 91, 90, 89, 88, 87, 86, 85, 84, 83, 81, 82] h h42 := mh_fr.upi fr41 e42 (by simp)
                refine mh_aload0 (pc := 148) F dX12_init_148 ?_
                refine mh_getr (b := 82) (pc := 149) F sh_81 (by decide) fw_RX12_9_12 dX12_init_149 rfl (by rw [r81_42]; simp [mh_ur]) ?_
                refine mh_bipush (pc := 152) F dX12_init_152 rfl ?_
                refine mh_iconst (pc := 154) F dX12_init_154 ?_
                refine mh_iload1 (pc := 155) F dX12_init_155 ?_
                refine mh_imul (pc := 156) F dX12_init_156 ?_
                refine mh_top (y := 18) rfl ?_
                refine mh_iadd (pc := 157) F dX12_init_157 ?_
                refine mh_top (y := 24) rfl ?_
                refine mh_iconst (pc := 158) F dX12_init_158 ?_
                refine mh_iadd (pc := 159) F dX12_init_159 ?_
                refine mh_top (y := 26) rfl ?_
                refine mh_bipush (pc := 160) F dX12_init_160 rfl ?_
                refine mh_iastore (pc := 162) F sh_82 (by decide) (by omega) dX12_init_162 ?_
                refine mh_nmh (fun h43 e43 => ?_)
                have r81_43 : h43 81 = mh_ur (mh_ur (mh_ur (mh_ur (mh_ur (mh_ur (mh_ur (mh_ur (mh_ur (mh_ur (mh_ur (mh_ur (mh_ur (mh_ur (fun _ => (0 : Int)) 0 (((82 : Nat) : Int) + 1)) 1 (((83 : Nat) : Int) + 1)) 2 (((84 : Nat) : Int) + 1)) 5 (((85 : Nat) : Int) + 1)) 6 (((86 : Nat) : Int) + 1)) 7 (((87 : Nat) : Int) + 1)) 8 (((88 : Nat) : Int) + 1)) 14 (((89 : Nat) : Int) + 1)) 15 (((90 : Nat) : Int) + 1)) 21 (((91 : Nat) : Int) + 1)) 26 (((92 : Nat) : Int) + 1)) 27 (((93 : Nat) : Int) + 1)) 28 (((94 : Nat) : Int) + 1)) 29 (((95 : Nat) : Int) + 1) := by rw [e43, mh_up_row (by decide)]; exact r81_42
                have r82_43 : h43 82 = mh_ur (mh_ur (mh_ur (mh_ur (mh_ur (mh_ur (mh_ur (mh_ur (mh_ur (mh_ur (mh_ur (mh_ur (mh_ur (mh_ur (mh_ur (fun _ => (0 : Int)) 2 1) 6 8) 8 10) 9 8) 11 10) 12 8) 14 10) 15 8) 17 10) 18 8) 20 10) 21 8) 23 10) 24 8) 26 10 := by rw [e43, mh_up_rs, r82_42] <;> rfl
                have r83_43 : h43 83 = fun _ => (0 : Int) := by rw [e43, mh_up_row (by decide)]; exact r83_42
                have r84_43 : h43 84 = fun _ => (0 : Int) := by rw [e43, mh_up_row (by decide)]; exact r84_42
                have r85_43 : h43 85 = fun _ => (0 : Int) := by rw [e43, mh_up_row (by decide)]; exact r85_42
                have r86_43 : h43 86 = fun _ => (0 : Int) := by rw [e43, mh_up_row (by decide)]; exact r86_42
                have r87_43 : h43 87 = fun _ => (0 : Int) := by rw [e43, mh_up_row (by decide)]; exact r87_42
                have r88_43 : h43 88 = fun _ => (0 : Int) := by rw [e43, mh_up_row (by decide)]; exact r88_42
                have r89_43 : h43 89 = fun _ => (0 : Int) := by rw [e43, mh_up_row (by decide)]; exact r89_42
                have r90_43 : h43 90 = fun _ => (0 : Int) := by rw [e43, mh_up_row (by decide)]; exact r90_42
                have r91_43 : h43 91 = fun _ => (0 : Int) := by rw [e43, mh_up_row (by decide)]; exact r91_42
                have r92_43 : h43 92 = fun _ => (0 : Int) := by rw [e43, mh_up_row (by decide)]; exact r92_42
                have r93_43 : h43 93 = fun _ => (0 : Int) := by rw [e43, mh_up_row (by decide)]; exact r93_42
                have r94_43 : h43 94 = fun _ => (0 : Int) := by rw [e43, mh_up_row (by decide)]; exact r94_42
                have r95_43 : h43 95 = fun _ => (0 : Int) := by rw [e43, mh_up_row (by decide)]; exact r95_42
                have fr43 : mh_fr [95, 94, 93, 92, 91, 90, 89, 88, 87, 86, 85, 84, 83, 81, 82] h h43 := mh_fr.upi fr42 e43 (by simp)
                refine mh_iinc1 (pc := 163) F dX12_init_163 rfl (by decide) ?_
                refine mh_goto (pc := 166) (tgt := 127) F dX12_init_166 rfl ?_
                refine mh_iload1 (pc := 127) F dX12_init_127 ?_
                refine mh_bipush (pc := 128) F dX12_init_128 rfl ?_
                refine mh_icmp_ge (pc := 130) (tgt := 169) F dX12_init_130 rfl (by omega) (by omega) (fun c_130 => ?_) (fun c_130 => ?_)
                · exact absurd c_130 (by decide)
                · refine mh_aload0 (pc := 133) F dX12_init_133 ?_
                  refine mh_getr (b := 82) (pc := 134) F sh_81 (by decide) fw_RX12_9_12 dX12_init_134 rfl (by rw [r81_43]; simp [mh_ur]) ?_
                  refine mh_bipush (pc := 137) F dX12_init_137 rfl ?_
                  refine mh_iconst (pc := 139) F dX12_init_139 ?_
                  refine mh_iload1 (pc := 140) F dX12_init_140 ?_
                  refine mh_imul (pc := 141) F dX12_init_141 ?_
                  refine mh_top (y := 21) rfl ?_
                  refine mh_iadd (pc := 142) F dX12_init_142 ?_
                  refine mh_top (y := 27) rfl ?_
                  refine mh_iconst (pc := 143) F dX12_init_143 ?_
                  refine mh_iadd (pc := 144) F dX12_init_144 ?_
                  refine mh_top (y := 27) rfl ?_
                  refine mh_bipush (pc := 145) F dX12_init_145 rfl ?_
                  refine mh_iastore (pc := 147) F sh_82 (by decide) (by omega) dX12_init_147 ?_
                  refine mh_nmh (fun h44 e44 => ?_)
                  have r81_44 : h44 81 = mh_ur (mh_ur (mh_ur (mh_ur (mh_ur (mh_ur (mh_ur (mh_ur (mh_ur (mh_ur (mh_ur (mh_ur (mh_ur (mh_ur (fun _ => (0 : Int)) 0 (((82 : Nat) : Int) + 1)) 1 (((83 : Nat) : Int) + 1)) 2 (((84 : Nat) : Int) + 1)) 5 (((85 : Nat) : Int) + 1)) 6 (((86 : Nat) : Int) + 1)) 7 (((87 : Nat) : Int) + 1)) 8 (((88 : Nat) : Int) + 1)) 14 (((89 : Nat) : Int) + 1)) 15 (((90 : Nat) : Int) + 1)) 21 (((91 : Nat) : Int) + 1)) 26 (((92 : Nat) : Int) + 1)) 27 (((93 : Nat) : Int) + 1)) 28 (((94 : Nat) : Int) + 1)) 29 (((95 : Nat) : Int) + 1) := by rw [e44, mh_up_row (by decide)]; exact r81_43
                  have r82_44 : h44 82 = mh_ur (mh_ur (mh_ur (mh_ur (mh_ur (mh_ur (mh_ur (mh_ur (mh_ur (mh_ur (mh_ur (mh_ur (mh_ur (mh_ur (mh_ur (mh_ur (fun _ => (0 : Int)) 2 1) 6 8) 8 10) 9 8) 11 10) 12 8) 14 10) 15 8) 17 10) 18 8) 20 10) 21 8) 23 10) 24 8) 26 10) 27 8 := by rw [e44, mh_up_rs, r82_43] <;> rfl
                  have r83_44 : h44 83 = fun _ => (0 : Int) := by rw [e44, mh_up_row (by decide)]; exact r83_43
                  have r84_44 : h44 84 = fun _ => (0 : Int) := by rw [e44, mh_up_row (by decide)]; exact r84_43
                  have r85_44 : h44 85 = fun _ => (0 : Int) := by rw [e44, mh_up_row (by decide)]; exact r85_43
                  have r86_44 : h44 86 = fun _ => (0 : Int) := by rw [e44, mh_up_row (by decide)]; exact r86_43
                  have r87_44 : h44 87 = fun _ => (0 : Int) := by rw [e44, mh_up_row (by decide)]; exact r87_43
                  have r88_44 : h44 88 = fun _ => (0 : Int) := by rw [e44, mh_up_row (by decide)]; exact r88_43
                  have r89_44 : h44 89 = fun _ => (0 : Int) := by rw [e44, mh_up_row (by decide)]; exact r89_43
                  have r90_44 : h44 90 = fun _ => (0 : Int) := by rw [e44, mh_up_row (by decide)]; exact r90_43
                  have r91_44 : h44 91 = fun _ => (0 : Int) := by rw [e44, mh_up_row (by decide)]; exact r91_43
                  have r92_44 : h44 92 = fun _ => (0 : Int) := by rw [e44, mh_up_row (by decide)]; exact r92_43
                  have r93_44 : h44 93 = fun _ => (0 : Int) := by rw [e44, mh_up_row (by decide)]; exact r93_43
                  have r94_44 : h44 94 = fun _ => (0 : Int) := by rw [e44, mh_up_row (by decide)]; exact r94_43
                  have r95_44 : h44 95 = fun _ => (0 : Int) := by rw [e44, mh_up_row (by decide)]; exact r95_43
                  have fr44 : mh_fr [95, 94, 93, 92, 91, 90, 89, 88, 87, 86, 85, 84, 83, 81, 82] h h44 := mh_fr.upi fr43 e44 (by simp)
                  refine mh_aload0 (pc := 148) F dX12_init_148 ?_
                  refine mh_getr (b := 82) (pc := 149) F sh_81 (by decide) fw_RX12_9_12 dX12_init_149 rfl (by rw [r81_44]; simp [mh_ur]) ?_
                  refine mh_bipush (pc := 152) F dX12_init_152 rfl ?_
                  refine mh_iconst (pc := 154) F dX12_init_154 ?_
                  refine mh_iload1 (pc := 155) F dX12_init_155 ?_
                  refine mh_imul (pc := 156) F dX12_init_156 ?_
                  refine mh_top (y := 21) rfl ?_
                  refine mh_iadd (pc := 157) F dX12_init_157 ?_
                  refine mh_top (y := 27) rfl ?_
                  refine mh_iconst (pc := 158) F dX12_init_158 ?_
                  refine mh_iadd (pc := 159) F dX12_init_159 ?_
                  refine mh_top (y := 29) rfl ?_
                  refine mh_bipush (pc := 160) F dX12_init_160 rfl ?_
                  refine mh_iastore (pc := 162) F sh_82 (by decide) (by omega) dX12_init_162 ?_
                  refine mh_nmh (fun h45 e45 => ?_)
                  have r81_45 : h45 81 = mh_ur (mh_ur (mh_ur (mh_ur (mh_ur (mh_ur (mh_ur (mh_ur (mh_ur (mh_ur (mh_ur (mh_ur (mh_ur (mh_ur (fun _ => (0 : Int)) 0 (((82 : Nat) : Int) + 1)) 1 (((83 : Nat) : Int) + 1)) 2 (((84 : Nat) : Int) + 1)) 5 (((85 : Nat) : Int) + 1)) 6 (((86 : Nat) : Int) + 1)) 7 (((87 : Nat) : Int) + 1)) 8 (((88 : Nat) : Int) + 1)) 14 (((89 : Nat) : Int) + 1)) 15 (((90 : Nat) : Int) + 1)) 21 (((91 : Nat) : Int) + 1)) 26 (((92 : Nat) : Int) + 1)) 27 (((93 : Nat) : Int) + 1)) 28 (((94 : Nat) : Int) + 1)) 29 (((95 : Nat) : Int) + 1) := by rw [e45, mh_up_row (by decide)]; exact r81_44
                  have r82_45 : h45 82 = mh_ur (mh_ur (mh_ur (mh_ur (mh_ur (mh_ur (mh_ur (mh_ur (mh_ur (mh_ur (mh_ur (mh_ur (mh_ur (mh_ur (mh_ur (mh_ur (mh_ur (fun _ => (0 : Int)) 2 1) 6 8) 8 10) 9 8) 11 10) 12 8) 14 10) 15 8) 17 10) 18 8) 20 10) 21 8) 23 10) 24 8) 26 10) 27 8) 29 10 := by rw [e45, mh_up_rs, r82_44] <;> rfl
                  have r83_45 : h45 83 = fun _ => (0 : Int) := by rw [e45, mh_up_row (by decide)]; exact r83_44
                  have r84_45 : h45 84 = fun _ => (0 : Int) := by rw [e45, mh_up_row (by decide)]; exact r84_44
                  have r85_45 : h45 85 = fun _ => (0 : Int) := by rw [e45, mh_up_row (by decide)]; exact r85_44
                  have r86_45 : h45 86 = fun _ => (0 : Int) := by rw [e45, mh_up_row (by decide)]; exact r86_44
                  have r87_45 : h45 87 = fun _ => (0 : Int) := by rw [e45, mh_up_row (by decide)]; exact r87_44
                  have r88_45 : h45 88 = fun _ => (0 : Int) := by rw [e45, mh_up_row (by decide)]; exact r88_44
                  have r89_45 : h45 89 = fun _ => (0 : Int) := by rw [e45, mh_up_row (by decide)]; exact r89_44
                  have r90_45 : h45 90 = fun _ => (0 : Int) := by rw [e45, mh_up_row (by decide)]; exact r90_44
                  have r91_45 : h45 91 = fun _ => (0 : Int) := by rw [e45, mh_up_row (by decide)]; exact r91_44
                  have r92_45 : h45 92 = fun _ => (0 : Int) := by rw [e45, mh_up_row (by decide)]; exact r92_44
                  have r93_45 : h45 93 = fun _ => (0 : Int) := by rw [e45, mh_up_row (by decide)]; exact r93_44
                  have r94_45 : h45 94 = fun _ => (0 : Int) := by rw [e45, mh_up_row (by decide)]; exact r94_44
                  have r95_45 : h45 95 = fun _ => (0 : Int) := by rw [e45, mh_up_row (by decide)]; exact r95_44
                  have fr45 : mh_fr [95, 94, 93, 92, 91, 90, 89, 88, 87, 86, 85, 84, 83, 81, 82] h h45 := mh_fr.upi fr44 e45 (by simp)
                  refine mh_iinc1 (pc := 163) F dX12_init_163 rfl (by decide) ?_
                  refine mh_goto (pc := 166) (tgt := 127) F dX12_init_166 rfl ?_
                  refine mh_iload1 (pc := 127) F dX12_init_127 ?_
                  refine mh_bipush (pc := 128) F dX12_init_128 rfl ?_
                  refine mh_icmp_ge (pc := 130) (tgt := 169) F dX12_init_130 rfl (by omega) (by omega) (fun c_130 => ?_) (fun c_130 => ?_)
                  · exact absurd c_130 (by decide)
                  · refine mh_aload0 (pc := 133) F dX12_init_133 ?_
                    refine mh_getr (b := 82) (pc := 134) F sh_81 (by decide) fw_RX12_9_12 dX12_init_134 rfl (by rw [r81_45]; simp [mh_ur]) ?_
                    refine mh_bipush (pc := 137) F dX12_init_137 rfl ?_
                    refine mh_iconst (pc := 139) F dX12_init_139 ?_
                    refine mh_iload1 (pc := 140) F dX12_init_140 ?_
                    refine mh_imul (pc := 141) F dX12_init_141 ?_
                    refine mh_top (y := 24) rfl ?_
                    refine mh_iadd (pc := 142) F dX12_init_142 ?_
                    refine mh_top (y := 30) rfl ?_
                    refine mh_iconst (pc := 143) F dX12_init_143 ?_
                    refine mh_iadd (pc := 144) F dX12_init_144 ?_
                    refine mh_top (y := 30) rfl ?_
                    refine mh_bipush (pc := 145) F dX12_init_145 rfl ?_
                    refine mh_iastore (pc := 147) F sh_82 (by decide) (by omega) dX12_init_147 ?_
                    refine mh_nmh (fun h46 e46 => ?_)
                    have r81_46 : h46 81 = mh_ur (mh_ur (mh_ur (mh_ur (mh_ur (mh_ur (mh_ur (mh_ur (mh_ur (mh_ur (mh_ur (mh_ur (mh_ur (mh_ur (fun _ => (0 : Int)) 0 (((82 : Nat) : Int) + 1)) 1 (((83 : Nat) : Int) + 1)) 2 (((84 : Nat) : Int) + 1)) 5 (((85 : Nat) : Int) + 1)) 6 (((86 : Nat) : Int) + 1)) 7 (((87 : Nat) : Int) + 1)) 8 (((88 : Nat) : Int) + 1)) 14 (((89 : Nat) : Int) + 1)) 15 (((90 : Nat) : Int) + 1)) 21 (((91 : Nat) : Int) + 1)) 26 (((92 : Nat) : Int) + 1)) 27 (((93 : Nat) : Int) + 1)) 28 (((94 : Nat) : Int) + 1)) 29 (((95 : Nat) : Int) + 1) := by rw [e46, mh_up_row (by decide)]; exact r81_45
                    have r82_46 : h46 82 = mh_ur (mh_ur (mh_ur (mh_ur (mh_ur (mh_ur (mh_ur (mh_ur (mh_ur (mh_ur (mh_ur (mh_ur (mh_ur (mh_ur (mh_ur (mh_ur (mh_ur (mh_ur (fun _ => (0 : Int)) 2 1) 6 8) 8 10) 9 8) 11 10) 12 8) 14 10) 15 8) 17 10) 18 8) 20 10) 21 8) 23 10) 24 8) 26 10) 27 8) 29 10) 30 8 := by rw [e46, mh_up_rs, r82_45] <;> rfl
                    have r83_46 : h46 83 = fun _ => (0 : Int) := by rw [e46, mh_up_row (by decide)]; exact r83_45
                    have r84_46 : h46 84 = fun _ => (0 : Int) := by rw [e46, mh_up_row (by decide)]; exact r84_45
                    have r85_46 : h46 85 = fun _ => (0 : Int) := by rw [e46, mh_up_row (by decide)]; exact r85_45
                    have r86_46 : h46 86 = fun _ => (0 : Int) := by rw [e46, mh_up_row (by decide)]; exact r86_45
                    have r87_46 : h46 87 = fun _ => (0 : Int) := by rw [e46, mh_up_row (by decide)]; exact r87_45
                    have r88_46 : h46 88 = fun _ => (0 : Int) := by rw [e46, mh_up_row (by decide)]; exact r88_45
                    have r89_46 : h46 89 = fun _ => (0 : Int) := by rw [e46, mh_up_row (by decide)]; exact r89_45
                    have r90_46 : h46 90 = fun _ => (0 : Int) := by rw [e46, mh_up_row (by decide)]; exact r90_45
                    have r91_46 : h46 91 = fun _ => (0 : Int) := by rw [e46, mh_up_row (by decide)]; exact r91_45
                    have r92_46 : h46 92 = fun _ => (0 : Int) := by rw [e46, mh_up_row (by decide)]; exact r92_45
                    have r93_46 : h46 93 = fun _ => (0 : Int) := by rw [e46, mh_up_row (by decide)]; exact r93_45
                    have r94_46 : h46 94 = fun _ => (0 : Int) := by rw [e46, mh_up_row (by decide)]; exact r94_45
                    have r95_46 : h46 95 = fun _ => (0 : Int) := by rw [e46, mh_up_row (by decide)]; exact r95_45
                    have fr46 : mh_fr [95, 94, 93, 92, 91, 90, 89, 88, 87, 86, 85, 84, 83, 81, 82] h h46 := mh_fr.upi fr45 e46 (by simp)
                    refine mh_aload0 (pc := 148) F dX12_init_148 ?_
                    refine mh_getr (b := 82) (pc := 149) F sh_81 (by decide) fw_RX12_9_12 dX12_init_149 rfl (by rw [r81_46]; simp [mh_ur]) ?_
                    refine mh_bipush (pc := 152) F dX12_init_152 rfl ?_
                    refine mh_iconst (pc := 154) F dX12_init_154 ?_
                    refine mh_iload1 (pc := 155) F dX12_init_155 ?_
                    refine mh_imul (pc := 156) F dX12_init_156 ?_
                    refine mh_top (y := 24) rfl ?_
                    refine mh_iadd (pc := 157) F dX12_init_157 ?_
                    refine mh_top (y := 30) rfl ?_
                    refine mh_iconst (pc := 158) F dX12_init_158 ?_
                    refine mh_iadd (pc := 159) F dX12_init_159 ?_
                    refine mh_top (y := 32) rfl ?_
                    refine mh_bipush (pc := 160) F dX12_init_160 rfl ?_
                    refine mh_iastore (pc := 162) F sh_82 (by decide) (by omega) dX12_init_162 ?_
                    refine mh_nmh (fun h47 e47 => ?_)
                    have r81_47 : h47 81 = mh_ur (mh_ur (mh_ur (mh_ur (mh_ur (mh_ur (mh_ur (mh_ur (mh_ur (mh_ur (mh_ur (mh_ur (mh_ur (mh_ur (fun _ => (0 : Int)) 0 (((82 : Nat) : Int) + 1)) 1 (((83 : Nat) : Int) + 1)) 2 (((84 : Nat) : Int) + 1)) 5 (((85 : Nat) : Int) + 1)) 6 (((86 : Nat) : Int) + 1)) 7 (((87 : Nat) : Int) + 1)) 8 (((88 : Nat) : Int) + 1)) 14 (((89 : Nat) : Int) + 1)) 15 (((90 : Nat) : Int) + 1)) 21 (((91 : Nat) : Int) + 1)) 26 (((92 : Nat) : Int) + 1)) 27 (((93 : Nat) : Int) + 1)) 28 (((94 : Nat) : Int) + 1)) 29 (((95 : Nat) : Int) + 1) := by rw [e47, mh_up_row (by decide)]; exact r81_46
                    have r82_47 : h47 82 = mh_ur (mh_ur (mh_ur (mh_ur (mh_ur (mh_ur (mh_ur (mh_ur (mh_ur (mh_ur (mh_ur (mh_ur (mh_ur (mh_ur (mh_ur (mh_ur (mh_ur (mh_ur (mh_ur (fun _ => (0 : Int)) 2 1) 6 8) 8 10) 9 8) 11 10) 12 8) 14 10) 15 8) 17 10) 18 8) 20 10) 21 8) 23 10) 24 8) 26 10) 27 8) 29 10) 30 8) 32 10 := by rw [e47, mh_up_rs, r82_46] <;> rfl
                    have r83_47 : h47 83 = fun _ => (0 : Int) := by rw [e47, mh_up_row (by decide)]; exact r83_46
                    have r84_47 : h47 84 = fun _ => (0 : Int) := by rw [e47, mh_up_row (by decide)]; exact r84_46
                    have r85_47 : h47 85 = fun _ => (0 : Int) := by rw [e47, mh_up_row (by decide)]; exact r85_46
                    have r86_47 : h47 86 = fun _ => (0 : Int) := by rw [e47, mh_up_row (by decide)]; exact r86_46
                    have r87_47 : h47 87 = fun _ => (0 : Int) := by rw [e47, mh_up_row (by decide)]; exact r87_46
                    have r88_47 : h47 88 = fun _ => (0 : Int) := by rw [e47, mh_up_row (by decide)]; exact r88_46
                    have r89_47 : h47 89 = fun _ => (0 : Int) := by rw [e47, mh_up_row (by decide)]; exact r89_46
                    have r90_47 : h47 90 = fun _ => (0 : Int) := by rw [e47, mh_up_row (by decide)]; exact r90_46
                    have r91_47 : h47 91 = fun _ => (0 : Int) := by rw [e47, mh_up_row (by decide)]; exact r91_46
                    have r92_47 : h47 92 = fun _ => (0 : Int) := by rw [e47, mh_up_row (by decide)]; exact r92_46
                    have r93_47 : h47 93 = fun _ => (0 : Int) := by rw [e47, mh_up_row (by decide)]; exact r93_46
                    have r94_47 : h47 94 = fun _ => (0 : Int) := by rw [e47, mh_up_row (by decide)]; exact r94_46
                    have r95_47 : h47 95 = fun _ => (0 : Int) := by rw [e47, mh_up_row (by decide)]; exact r95_46
                    have fr47 : mh_fr [95, 94, 93, 92, 91, 90, 89, 88, 87, 86, 85, 84, 83, 81, 82] h h47 := mh_fr.upi fr46 e47 (by simp)
                    refine mh_iinc1 (pc := 163) F dX12_init_163 rfl (by decide) ?_
                    refine mh_goto (pc := 166) (tgt := 127) F dX12_init_166 rfl ?_
                    refine mh_iload1 (pc := 127) F dX12_init_127 ?_
                    refine mh_bipush (pc := 128) F dX12_init_128 rfl ?_
                    refine mh_icmp_ge (pc := 130) (tgt := 169) F dX12_init_130 rfl (by omega) (by omega) (fun c_130 => ?_) (fun c_130 => ?_)
                    · refine mh_iconst (pc := 169) F dX12_init_169 ?_
                      refine mh_istore1 (pc := 170) F dX12_init_170 rfl (by decide) ?_
                      refine mh_iload1 (pc := 171) F dX12_init_171 ?_
                      refine mh_iconst (pc := 172) F dX12_init_172 ?_
                      refine mh_icmp_ge (pc := 173) (tgt := 215) F dX12_init_173 rfl (by omega) (by omega) (fun c_173 => ?_) (fun c_173 => ?_)
                      · exact absurd c_173 (by decide)
                      · refine mh_aload0 (pc := 176) F dX12_init_176 ?_
                        refine mh_getr (b := 82) (pc := 177) F sh_81 (by decide) fw_RX12_9_12 dX12_init_177 rfl (by rw [r81_47]; simp [mh_ur]) ?_
                        refine mh_bipush (pc := 180) F dX12_init_180 rfl ?_
                        refine mh_iconst (pc := 182) F dX12_init_182 ?_
                        refine mh_iload1 (pc := 183) F dX12_init_183 ?_
                        refine mh_imul (pc := 184) F dX12_init_184 ?_
                        refine mh_top (y := 0) rfl ?_
                        refine mh_iadd (pc := 185) F dX12_init_185 ?_
                        refine mh_top (y := 33) rfl ?_
                        refine mh_iload1 (pc := 186) F dX12_init_186 ?_
                        refine mh_iconst (pc := 187) F dX12_init_187 ?_
                        refine mh_iadd (pc := 188) F dX12_init_188 ?_
                        refine mh_top (y := 1) rfl ?_
                        refine mh_iastore (pc := 189) F sh_82 (by decide) (by omega) dX12_init_189 ?_
                        refine mh_nmh (fun h48 e48 => ?_)
                        have r81_48 : h48 81 = mh_ur (mh_ur (mh_ur (mh_ur (mh_ur (mh_ur (mh_ur (mh_ur (mh_ur (mh_ur (mh_ur (mh_ur (mh_ur (mh_ur (fun _ => (0 : Int)) 0 (((82 : Nat) : Int) + 1)) 1 (((83 : Nat) : Int) + 1)) 2 (((84 : Nat) : Int) + 1)) 5 (((85 : Nat) : Int) + 1)) 6 (((86 : Nat) : Int) + 1)) 7 (((87 : Nat) : Int) + 1)) 8 (((88 : Nat) : Int) + 1)) 14 (((89 : Nat) : Int) + 1)) 15 (((90 : Nat) : Int) + 1)) 21 (((91 : Nat) : Int) + 1)) 26 (((92 : Nat) : Int) + 1)) 27 (((93 : Nat) : Int) + 1)) 28 (((94 : Nat) : Int) + 1)) 29 (((95 : Nat) : Int) + 1) := by rw [e48, mh_up_row (by decide)]; exact r81_47
                        have r82_48 : h48 82 = mh_ur (mh_ur (mh_ur (mh_ur (mh_ur (mh_ur (mh_ur (mh_ur (mh_ur (mh_ur (mh_ur (mh_ur (mh_ur (mh_ur (mh_ur (mh_ur (mh_ur (mh_ur (mh_ur (mh_ur (fun _ => (0 : Int)) 2 1) 6 8) 8 10) 9 8) 11 10) 12 8) 14 10) 15 8) 17 10) 18 8) 20 10) 21 8) 23 10) 24 8) 26 10) 27 8) 29 10) 30 8) 32 10) 33 1 := by rw [e48, mh_up_rs, r82_47] <;> rfl
                        have r83_48 : h48 83 = fun _ => (0 : Int) := by rw [e48, mh_up_row (by decide)]; exact r83_47
                        have r84_48 : h48 84 = fun _ => (0 : Int) := by rw [e48, mh_up_row (by decide)]; exact r84_47
                        have r85_48 : h48 85 = fun _ => (0 : Int) := by rw [e48, mh_up_row (by decide)]; exact r85_47
                        have r86_48 : h48 86 = fun _ => (0 : Int) := by rw [e48, mh_up_row (by decide)]; exact r86_47
                        have r87_48 : h48 87 = fun _ => (0 : Int) := by rw [e48, mh_up_row (by decide)]; exact r87_47
                        have r88_48 : h48 88 = fun _ => (0 : Int) := by rw [e48, mh_up_row (by decide)]; exact r88_47
                        have r89_48 : h48 89 = fun _ => (0 : Int) := by rw [e48, mh_up_row (by decide)]; exact r89_47
                        have r90_48 : h48 90 = fun _ => (0 : Int) := by rw [e48, mh_up_row (by decide)]; exact r90_47
                        have r91_48 : h48 91 = fun _ => (0 : Int) := by rw [e48, mh_up_row (by decide)]; exact r91_47
                        have r92_48 : h48 92 = fun _ => (0 : Int) := by rw [e48, mh_up_row (by decide)]; exact r92_47
                        have r93_48 : h48 93 = fun _ => (0 : Int) := by rw [e48, mh_up_row (by decide)]; exact r93_47
                        have r94_48 : h48 94 = fun _ => (0 : Int) := by rw [e48, mh_up_row (by decide)]; exact r94_47
                        have r95_48 : h48 95 = fun _ => (0 : Int) := by rw [e48, mh_up_row (by decide)]; exact r95_47
                        have fr48 : mh_fr [95, 94, 93, 92, 91, 90, 89, 88, 87, 86, 85, 84, 83, 81, 82] h h48 := mh_fr.upi fr47 e48 (by simp)
                        refine mh_aload0 (pc := 190) F dX12_init_190 ?_
                        refine mh_getr (b := 82) (pc := 191) F sh_81 (by decide) fw_RX12_9_12 dX12_init_191 rfl (by rw [r81_48]; simp [mh_ur]) ?_
                        refine mh_bipush (pc := 194) F dX12_init_194 rfl ?_
                        refine mh_iconst (pc := 196) F dX12_init_196 ?_
                        refine mh_iload1 (pc := 197) F dX12_init_197 ?_
                        refine mh_imul (pc := 198) F dX12_init_198 ?_
                        refine mh_top (y := 0) rfl ?_
                        refine mh_iadd (pc := 199) F dX12_init_199 ?_
                        refine mh_top (y := 33) rfl ?_
                        refine mh_iconst (pc := 200) F dX12_init_200 ?_
                        refine mh_iadd (pc := 201) F dX12_init_201 ?_
                        refine mh_top (y := 34) rfl ?_
                        refine mh_bipush (pc := 202) F dX12_init_202 rfl ?_
                        refine mh_iconst (pc := 204) F dX12_init_204 ?_
                        refine mh_iload1 (pc := 205) F dX12_init_205 ?_
                        refine mh_imul (pc := 206) F dX12_init_206 ?_
                        refine mh_top (y := 0) rfl ?_
                        refine mh_isub (pc := 207) F dX12_init_207 ?_
                        refine mh_top (y := 9) rfl ?_
                        refine mh_iastore (pc := 208) F sh_82 (by decide) (by omega) dX12_init_208 ?_
                        refine mh_nmh (fun h49 e49 => ?_)
                        have r81_49 : h49 81 = mh_ur (mh_ur (mh_ur (mh_ur (mh_ur (mh_ur (mh_ur (mh_ur (mh_ur (mh_ur (mh_ur (mh_ur (mh_ur (mh_ur (fun _ => (0 : Int)) 0 (((82 : Nat) : Int) + 1)) 1 (((83 : Nat) : Int) + 1)) 2 (((84 : Nat) : Int) + 1)) 5 (((85 : Nat) : Int) + 1)) 6 (((86 : Nat) : Int) + 1)) 7 (((87 : Nat) : Int) + 1)) 8 (((88 : Nat) : Int) + 1)) 14 (((89 : Nat) : Int) + 1)) 15 (((90 : Nat) : Int) + 1)) 21 (((91 : Nat) : Int) + 1)) 26 (((92 : Nat) : Int) + 1)) 27 (((93 : Nat) : Int) + 1)) 28 (((94 : Nat) : Int) + 1)) 29 (((95 : Nat) : Int) + 1) := by rw [e49, mh_up_row (by decide)]; exact r81_48
                        have r82_49 : h49 82 = mh_ur (mh_ur (mh_ur (mh_ur (mh_ur (mh_ur (mh_ur (mh_ur (mh_ur (mh_ur (mh_ur (mh_ur (mh_ur (mh_ur (mh_ur (mh_ur (mh_ur (mh_ur (mh_ur (mh_ur (mh_ur (fun _ => (0 : Int)) 2 1) 6 8) 8 10) 9 8) 11 10) 12 8) 14 10) 15 8) 17 10) 18 8) 20 10) 21 8) 23 10) 24 8) 26 10) 27 8) 29 10) 30 8) 32 10) 33 1) 34 9 := by rw [e49, mh_up_rs, r82_48] <;> rfl
                        have r83_49 : h49 83 = fun _ => (0 : Int) := by rw [e49, mh_up_row (by decide)]; exact r83_48
                        have r84_49 : h49 84 = fun _ => (0 : Int) := by rw [e49, mh_up_row (by decide)]; exact r84_48
                        have r85_49 : h49 85 = fun _ => (0 : Int) := by rw [e49, mh_up_row (by decide)]; exact r85_48
                        have r86_49 : h49 86 = fun _ => (0 : Int) := by rw [e49, mh_up_row (by decide)]; exact r86_48
                        have r87_49 : h49 87 = fun _ => (0 : Int) := by rw [e49, mh_up_row (by decide)]; exact r87_48
                        have r88_49 : h49 88 = fun _ => (0 : Int) := by rw [e49, mh_up_row (by decide)]; exact r88_48
                        have r89_49 : h49 89 = fun _ => (0 : Int) := by rw [e49, mh_up_row (by decide)]; exact r89_48
                        have r90_49 : h49 90 = fun _ => (0 : Int) := by rw [e49, mh_up_row (by decide)]; exact r90_48
                        have r91_49 : h49 91 = fun _ => (0 : Int) := by rw [e49, mh_up_row (by decide)]; exact r91_48
                        have r92_49 : h49 92 = fun _ => (0 : Int) := by rw [e49, mh_up_row (by decide)]; exact r92_48
                        have r93_49 : h49 93 = fun _ => (0 : Int) := by rw [e49, mh_up_row (by decide)]; exact r93_48
                        have r94_49 : h49 94 = fun _ => (0 : Int) := by rw [e49, mh_up_row (by decide)]; exact r94_48
                        have r95_49 : h49 95 = fun _ => (0 : Int) := by rw [e49, mh_up_row (by decide)]; exact r95_48
                        have fr49 : mh_fr [95, 94, 93, 92, 91, 90, 89, 88, 87, 86, 85, 84, 83, 81, 82] h h49 := mh_fr.upi fr48 e49 (by simp)
                        refine mh_iinc1 (pc := 209) F dX12_init_209 rfl (by decide) ?_
                        refine mh_goto (pc := 212) (tgt := 171) F dX12_init_212 rfl ?_
                        refine mh_iload1 (pc := 171) F dX12_init_171 ?_
                        refine mh_iconst (pc := 172) F dX12_init_172 ?_
                        refine mh_icmp_ge (pc := 173) (tgt := 215) F dX12_init_173 rfl (by omega) (by omega) (fun c_173 => ?_) (fun c_173 => ?_)
                        · exact absurd c_173 (by decide)
                        · refine mh_aload0 (pc := 176) F dX12_init_176 ?_
                          refine mh_getr (b := 82) (pc := 177) F sh_81 (by decide) fw_RX12_9_12 dX12_init_177 rfl (by rw [r81_49]; simp [mh_ur]) ?_
                          refine mh_bipush (pc := 180) F dX12_init_180 rfl ?_
                          refine mh_iconst (pc := 182) F dX12_init_182 ?_
                          refine mh_iload1 (pc := 183) F dX12_init_183 ?_
                          refine mh_imul (pc := 184) F dX12_init_184 ?_
                          refine mh_top (y := 2) rfl ?_
                          refine mh_iadd (pc := 185) F dX12_init_185 ?_
                          refine mh_top (y := 35) rfl ?_
                          refine mh_iload1 (pc := 186) F dX12_init_186 ?_
                          refine mh_iconst (pc := 187) F dX12_init_187 ?_
                          refine mh_iadd (pc := 188) F dX12_init_188 ?_
                          refine mh_top (y := 2) rfl ?_
                          refine mh_iastore (pc := 189) F sh_82 (by decide) (by omega) dX12_init_189 ?_
                          refine mh_nmh (fun h50 e50 => ?_)
                          have r81_50 : h50 81 = mh_ur (mh_ur (mh_ur (mh_ur (mh_ur (mh_ur (mh_ur (mh_ur (mh_ur (mh_ur (mh_ur (mh_ur (mh_ur (mh_ur (fun _ => (0 : Int)) 0 (((82 : Nat) : Int) + 1)) 1 (((83 : Nat) : Int) + 1)) 2 (((84 : Nat) : Int) + 1)) 5 (((85 : Nat) : Int) + 1)) 6 (((86 : Nat) : Int) + 1)) 7 (((87 : Nat) : Int) + 1)) 8 (((88 : Nat) : Int) + 1)) 14 (((89 : Nat) : Int) + 1)) 15 (((90 : Nat) : Int) + 1)) 21 (((91 : Nat) : Int) + 1)) 26 (((92 : Nat) : Int) + 1)) 27 (((93 : Nat) : Int) + 1)) 28 (((94 : Nat) : Int) + 1)) 29 (((95 : Nat) : Int) + 1) := by rw [e50, mh_up_row (by decide)]; exact r81_49
                          have r82_50 : h50 82 = mh_ur (mh_ur (mh_ur (mh_ur (mh_ur (mh_ur (mh_ur (mh_ur (mh_ur (mh_ur (mh_ur (mh_ur (mh_ur (mh_ur (mh_ur (mh_ur (mh_ur (mh_ur (mh_ur (mh_ur (mh_ur (mh_ur (fun _ => (0 : Int)) 2 1) 6 8) 8 10) 9 8) 11 10) 12 8) 14 10) 15 8) 17 10) 18 8) 20 10) 21 8) 23 10) 24 8) 26 10) 27 8) 29 10) 30 8) 32 10) 33 1) 34 9) 35 2 := by rw [e50, mh_up_rs, r82_49] <;> rfl
                          have r83_50 : h50 83 = fun _ => (0 : Int) := by rw [e50, mh_up_row (by decide)]; exact r83_49
                          have r84_50 : h50 84 = fun _ => (0 : Int) := by rw [e50, mh_up_row (by decide)]; exact r84_49
                          have r85_50 : h50 85 = fun _ => (0 : Int) := by rw [e50, mh_up_row (by decide)]; exact r85_49
                          have r86_50 : h50 86 = fun _ => (0 : Int) := by rw [e50, mh_up_row (by decide)]; exact r86_49
                          have r87_50 : h50 87 = fun _ => (0 : Int) := by rw [e50, mh_up_row (by decide)]; exact r87_49
                          have r88_50 : h50 88 = fun _ => (0 : Int) := by rw [e50, mh_up_row (by decide)]; exact r88_49
                          have r89_50 : h50 89 = fun _ => (0 : Int) := by rw [e50, mh_up_row (by decide)]; exact r89_49
                          have r90_50 : h50 90 = fun _ => (0 : Int) := by rw [e50, mh_up_row (by decide)]; exact r90_49
                          have r91_50 : h50 91 = fun _ => (0 : Int) := by rw [e50, mh_up_row (by decide)]; exact r91_49
                          have r92_50 : h50 92 = fun _ => (0 : Int) := by rw [e50, mh_up_row (by decide)]; exact r92_49
                          have r93_50 : h50 93 = fun _ => (0 : Int) := by rw [e50, mh_up_row (by decide)]; exact r93_49
                          have r94_50 : h50 94 = fun _ => (0 : Int) := by rw [e50, mh_up_row (by decide)]; exact r94_49
                          have r95_50 : h50 95 = fun _ => (0 : Int) := by rw [e50, mh_up_row (by decide)]; exact r95_49
                          have fr50 : mh_fr [95, 94, 93, 92, 91, 90, 89, 88, 87, 86, 85, 84, 83, 81, 82] h h50 := mh_fr.upi fr49 e50 (by simp)
                          refine mh_aload0 (pc := 190) F dX12_init_190 ?_
                          refine mh_getr (b := 82) (pc := 191) F sh_81 (by decide) fw_RX12_9_12 dX12_init_191 rfl (by rw [r81_50]; simp [mh_ur]) ?_
                          refine mh_bipush (pc := 194) F dX12_init_194 rfl ?_
                          refine mh_iconst (pc := 196) F dX12_init_196 ?_
                          refine mh_iload1 (pc := 197) F dX12_init_197 ?_
                          refine mh_imul (pc := 198) F dX12_init_198 ?_
                          refine mh_top (y := 2) rfl ?_
                          refine mh_iadd (pc := 199) F dX12_init_199 ?_
                          refine mh_top (y := 35) rfl ?_
                          refine mh_iconst (pc := 200) F dX12_init_200 ?_
                          refine mh_iadd (pc := 201) F dX12_init_201 ?_
                          refine mh_top (y := 36) rfl ?_
                          refine mh_bipush (pc := 202) F dX12_init_202 rfl ?_
                          refine mh_iconst (pc := 204) F dX12_init_204 ?_
                          refine mh_iload1 (pc := 205) F dX12_init_205 ?_
                          refine mh_imul (pc := 206) F dX12_init_206 ?_
                          refine mh_top (y := 2) rfl ?_
                          refine mh_isub (pc := 207) F dX12_init_207 ?_
                          refine mh_top (y := 7) rfl ?_
                          refine mh_iastore (pc := 208) F sh_82 (by decide) (by omega) dX12_init_208 ?_
                          refine mh_nmh (fun h51 e51 => ?_)
                          have r81_51 : h51 81 = mh_ur (mh_ur (mh_ur (mh_ur (mh_ur (mh_ur (mh_ur (mh_ur (mh_ur (mh_ur (mh_ur (mh_ur (mh_ur (mh_ur (fun _ => (0 : Int)) 0 (((82 : Nat) : Int) + 1)) 1 (((83 : Nat) : Int) + 1)) 2 (((84 : Nat) : Int) + 1)) 5 (((85 : Nat) : Int) + 1)) 6 (((86 : Nat) : Int) + 1)) 7 (((87 : Nat) : Int) + 1)) 8 (((88 : Nat) : Int) + 1)) 14 (((89 : Nat) : Int) + 1)) 15 (((90 : Nat) : Int) + 1)) 21 (((91 : Nat) : Int) + 1)) 26 (((92 : Nat) : Int) + 1)) 27 (((93 : Nat) : Int) + 1)) 28 (((94 : Nat) : Int) + 1)) 29 (((95 : Nat) : Int) + 1) := by rw [e51, mh_up_row (by decide)]; exact r81_50
                          have r82_51 : h51 82 = mh_ur (mh_ur (mh_ur (mh_ur (mh_ur (mh_ur (mh_ur (mh_ur (mh_ur (mh_ur (mh_ur (mh_ur (mh_ur (mh_ur (mh_ur (mh_ur (mh_ur (mh_ur (mh_ur (mh_ur (mh_ur (mh_ur (mh_ur (fun _ => (0 : Int)) 2 1) 6 8) 8 10) 9 8) 11 10) 12 8) 14 10) 15 8) 17 10) 18 8) 20 10) 21 8) 23 10) 24 8) 26 10) 27 8) 29 10) 30 8) 32 10) 33 1) 34 9) 35 2) 36 7 := by rw [e51, mh_up_rs, r82_50] <;> rfl
                          have r83_51 : h51 83 = fun _ => (0 : Int) := by rw [e51, mh_up_row (by decide)]; exact r83_50
                          have r84_51 : h51 84 = fun _ => (0 : Int) := by rw [e51, mh_up_row (by decide)]; exact r84_50
                          have r85_51 : h51 85 = fun _ => (0 : Int) := by rw [e51, mh_up_row (by decide)]; exact r85_50
                          have r86_51 : h51 86 = fun _ => (0 : Int) := by rw [e51, mh_up_row (by decide)]; exact r86_50
                          have r87_51 : h51 87 = fun _ => (0 : Int) := by rw [e51, mh_up_row (by decide)]; exact r87_50
                          have r88_51 : h51 88 = fun _ => (0 : Int) := by rw [e51, mh_up_row (by decide)]; exact r88_50
                          have r89_51 : h51 89 = fun _ => (0 : Int) := by rw [e51, mh_up_row (by decide)]; exact r89_50
                          have r90_51 : h51 90 = fun _ => (0 : Int) := by rw [e51, mh_up_row (by decide)]; exact r90_50
                          have r91_51 : h51 91 = fun _ => (0 : Int) := by rw [e51, mh_up_row (by decide)]; exact r91_50
                          have r92_51 : h51 92 = fun _ => (0 : Int) := by rw [e51, mh_up_row (by decide)]; exact r92_50
                          have r93_51 : h51 93 = fun _ => (0 : Int) := by rw [e51, mh_up_row (by decide)]; exact r93_50
                          have r94_51 : h51 94 = fun _ => (0 : Int) := by rw [e51, mh_up_row (by decide)]; exact r94_50
                          have r95_51 : h51 95 = fun _ => (0 : Int) := by rw [e51, mh_up_row (by decide)]; exact r95_50
                          have fr51 : mh_fr [95, 94, 93, 92, 91, 90, 89, 88, 87, 86, 85, 84, 83, 81, 82] h h51 := mh_fr.upi fr50 e51 (by simp)
                          refine mh_iinc1 (pc := 209) F dX12_init_209 rfl (by decide) ?_
                          refine mh_goto (pc := 212) (tgt := 171) F dX12_init_212 rfl ?_
                          refine mh_iload1 (pc := 171) F dX12_init_171 ?_
                          refine mh_iconst (pc := 172) F dX12_init_172 ?_
                          refine mh_icmp_ge (pc := 173) (tgt := 215) F dX12_init_173 rfl (by omega) (by omega) (fun c_173 => ?_) (fun c_173 => ?_)
                          · exact absurd c_173 (by decide)
                          · refine mh_aload0 (pc := 176) F dX12_init_176 ?_
                            refine mh_getr (b := 82) (pc := 177) F sh_81 (by decide) fw_RX12_9_12 dX12_init_177 rfl (by rw [r81_51]; simp [mh_ur]) ?_
                            refine mh_bipush (pc := 180) F dX12_init_180 rfl ?_
                            refine mh_iconst (pc := 182) F dX12_init_182 ?_
                            refine mh_iload1 (pc := 183) F dX12_init_183 ?_
                            refine mh_imul (pc := 184) F dX12_init_184 ?_
                            refine mh_top (y := 4) rfl ?_
                            refine mh_iadd (pc := 185) F dX12_init_185 ?_
                            refine mh_top (y := 37) rfl ?_
                            refine mh_iload1 (pc := 186) F dX12_init_186 ?_
                            refine mh_iconst (pc := 187) F dX12_init_187 ?_
                            refine mh_iadd (pc := 188) F dX12_init_188 ?_
                            refine mh_top (y := 3) rfl ?_
                            refine mh_iastore (pc := 189) F sh_82 (by decide) (by omega) dX12_init_189 ?_
                            refine mh_nmh (fun h52 e52 => ?_)
                            have r81_52 : h52 81 = mh_ur (mh_ur (mh_ur (mh_ur (mh_ur (mh_ur (mh_ur (mh_ur (mh_ur (mh_ur (mh_ur (mh_ur (mh_ur (mh_ur (fun _ => (0 : Int)) 0 (((82 : Nat) : Int) + 1)) 1 (((83 : Nat) : Int) + 1)) 2 (((84 : Nat) : Int) + 1)) 5 (((85 : Nat) : Int) + 1)) 6 (((86 : Nat) : Int) + 1)) 7 (((87 : Nat) : Int) + 1)) 8 (((88 : Nat) : Int) + 1)) 14 (((89 : Nat) : Int) + 1)) 15 (((90 : Nat) : Int) + 1)) 21 (((91 : Nat) : Int) + 1)) 26 (((92 : Nat) : Int) + 1)) 27 (((93 : Nat) : Int) + 1)) 28 (((94 : Nat) : Int) + 1)) 29 (((95 : Nat) : Int) + 1) := by rw [e52, mh_up_row (by decide)]; exact r81_51
                            have r82_52 : h52 82 = mh_ur (mh_ur (mh_ur (mh_ur (mh_ur (mh_ur (mh_ur (mh_ur (mh_ur (mh_ur (mh_ur (mh_ur (mh_ur (mh_ur (mh_ur (mh_ur (mh_ur (mh_ur (mh_ur (mh_ur (mh_ur (mh_ur (mh_ur (mh_ur (fun _ => (0 : Int)) 2 1) 6 8) 8 10) 9 8) 11 10) 12 8) 14 10) 15 8) 17 10) 18 8) 20 10) 21 8) 23 10) 24 8) 26 10) 27 8) 29 10) 30 8) 32 10) 33 1) 34 9) 35 2) 36 7) 37 3 := by rw [e52, mh_up_rs, r82_51] <;> rfl
                            have r83_52 : h52 83 = fun _ => (0 : Int) := by rw [e52, mh_up_row (by decide)]; exact r83_51
                            have r84_52 : h52 84 = fun _ => (0 : Int) := by rw [e52, mh_up_row (by decide)]; exact r84_51
                            have r85_52 : h52 85 = fun _ => (0 : Int) := by rw [e52, mh_up_row (by decide)]; exact r85_51
                            have r86_52 : h52 86 = fun _ => (0 : Int) := by rw [e52, mh_up_row (by decide)]; exact r86_51
                            have r87_52 : h52 87 = fun _ => (0 : Int) := by rw [e52, mh_up_row (by decide)]; exact r87_51
                            have r88_52 : h52 88 = fun _ => (0 : Int) := by rw [e52, mh_up_row (by decide)]; exact r88_51
                            have r89_52 : h52 89 = fun _ => (0 : Int) := by rw [e52, mh_up_row (by decide)]; exact r89_51
                            have r90_52 : h52 90 = fun _ => (0 : Int) := by rw [e52, mh_up_row (by decide)]; exact r90_51
                            have r91_52 : h52 91 = fun _ => (0 : Int) := by rw [e52, mh_up_row (by decide)]; exact r91_51
                            have r92_52 : h52 92 = fun _ => (0 : Int) := by rw [e52, mh_up_row (by decide)]; exact r92_51
                            have r93_52 : h52 93 = fun _ => (0 : Int) := by rw [e52, mh_up_row (by decide)]; exact r93_51
                            have r94_52 : h52 94 = fun _ => (0 : Int) := by rw [e52, mh_up_row (by decide)]; exact r94_51
                            have r95_52 : h52 95 = fun _ => (0 : Int) := by rw [e52, mh_up_row (by decide)]; exact r95_51
                            have fr52 : mh_fr [95, 94, 93, 92, 91, 90, 89, 88, 87, 86, 85, 84, 83, 81, 82] h h52 := mh_fr.upi fr51 e52 (by simp)
                            refine mh_aload0 (pc := 190) F dX12_init_190 ?_
                            refine mh_getr (b := 82) (pc := 191) F sh_81 (by decide) fw_RX12_9_12 dX12_init_191 rfl (by rw [r81_52]; simp [mh_ur]) ?_
                            refine mh_bipush (pc := 194) F dX12_init_194 rfl ?_
                            refine mh_iconst (pc := 196) F dX12_init_196 ?_
                            refine mh_iload1 (pc := 197) F dX12_init_197 ?_
                            refine mh_imul (pc := 198) F dX12_init_198 ?_
                            refine mh_top (y := 4) rfl ?_
                            refine mh_iadd (pc := 199) F dX12_init_199 ?_
                            refine mh_top (y := 37) rfl ?_
                            refine mh_iconst (pc := 200) F dX12_init_200 ?_
                            refine mh_iadd (pc := 201) F dX12_init_201 ?_
                            refine mh_top (y := 38) rfl ?_
                            refine mh_bipush (pc := 202) F dX12_init_202 rfl ?_
                            refine mh_iconst (pc := 204) F dX12_init_204 ?_
                            refine mh_iload1 (pc := 205) F dX12_init_205 ?_
                            refine mh_imul (pc := 206) F dX12_init_206 ?_
                            refine mh_top (y := 4) rfl ?_
                            refine mh_isub (pc := 207) F dX12_init_207 ?_
                            refine mh_top (y := 5) rfl ?_
                            refine mh_iastore (pc := 208) F sh_82 (by decide) (by omega) dX12_init_208 ?_
                            refine mh_nmh (fun h53 e53 => ?_)
                            have r81_53 : h53 81 = mh_ur (mh_ur (mh_ur (mh_ur (mh_ur (mh_ur (mh_ur (mh_ur (mh_ur (mh_ur (mh_ur (mh_ur (mh_ur (mh_ur (fun _ => (0 : Int)) 0 (((82 : Nat) : Int) + 1)) 1 (((83 : Nat) : Int) + 1)) 2 (((84 : Nat) : Int) + 1)) 5 (((85 : Nat) : Int) + 1)) 6 (((86 : Nat) : Int) + 1)) 7 (((87 : Nat) : Int) + 1)) 8 (((88 : Nat) : Int) + 1)) 14 (((89 : Nat) : Int) + 1)) 15 (((90 : Nat) : Int) + 1)) 21 (((91 : Nat) : Int) + 1)) 26 (((92 : Nat) : Int) + 1)) 27 (((93 : Nat) : Int) + 1)) 28 (((94 : Nat) : Int) + 1)) 29 (((95 : Nat) : Int) + 1) := by rw [e53, mh_up_row (by decide)]; exact r81_52
                            have r82_53 : h53 82 = mh_ur (mh_ur (mh_ur (mh_ur (mh_ur (mh_ur (mh_ur (mh_ur (mh_ur (mh_ur (mh_ur (mh_ur (mh_ur (mh_ur (mh_ur (mh_ur (mh_ur (mh_ur (mh_ur (mh_ur (mh_ur (mh_ur (mh_ur (mh_ur (mh_ur (fun _ => (0 : Int)) 2 1) 6 8) 8 10) 9 8) 11 10) 12 8) 14 10) 15 8) 17 10) 18 8) 20 10) 21 8) 23 10) 24 8) 26 10) 27 8) 29 10) 30 8) 32 10) 33 1) 34 9) 35 2) 36 7) 37 3) 38 5 := by rw [e53, mh_up_rs, r82_52] <;> rfl
                            have r83_53 : h53 83 = fun _ => (0 : Int) := by rw [e53, mh_up_row (by decide)]; exact r83_52
                            have r84_53 : h53 84 = fun _ => (0 : Int) := by rw [e53, mh_up_row (by decide)]; exact r84_52
                            have r85_53 : h53 85 = fun _ => (0 : Int) := by rw [e53, mh_up_row (by decide)]; exact r85_52
                            have r86_53 : h53 86 = fun _ => (0 : Int) := by rw [e53, mh_up_row (by decide)]; exact r86_52
                            have r87_53 : h53 87 = fun _ => (0 : Int) := by rw [e53, mh_up_row (by decide)]; exact r87_52
                            have r88_53 : h53 88 = fun _ => (0 : Int) := by rw [e53, mh_up_row (by decide)]; exact r88_52
                            have r89_53 : h53 89 = fun _ => (0 : Int) := by rw [e53, mh_up_row (by decide)]; exact r89_52
                            have r90_53 : h53 90 = fun _ => (0 : Int) := by rw [e53, mh_up_row (by decide)]; exact r90_52
                            have r91_53 : h53 91 = fun _ => (0 : Int) := by rw [e53, mh_up_row (by decide)]; exact r91_52
                            have r92_53 : h53 92 = fun _ => (0 : Int) := by rw [e53, mh_up_row (by decide)]; exact r92_52
                            have r93_53 : h53 93 = fun _ => (0 : Int) := by rw [e53, mh_up_row (by decide)]; exact r93_52
                            have r94_53 : h53 94 = fun _ => (0 : Int) := by rw [e53, mh_up_row (by decide)]; exact r94_52
                            have r95_53 : h53 95 = fun _ => (0 : Int) := by rw [e53, mh_up_row (by decide)]; exact r95_52
                            have fr53 : mh_fr [95, 94, 93, 92, 91, 90, 89, 88, 87, 86, 85, 84, 83, 81, 82] h h53 := mh_fr.upi fr52 e53 (by simp)
                            refine mh_iinc1 (pc := 209) F dX12_init_209 rfl (by decide) ?_
                            refine mh_goto (pc := 212) (tgt := 171) F dX12_init_212 rfl ?_
                            refine mh_iload1 (pc := 171) F dX12_init_171 ?_
                            refine mh_iconst (pc := 172) F dX12_init_172 ?_
                            refine mh_icmp_ge (pc := 173) (tgt := 215) F dX12_init_173 rfl (by omega) (by omega) (fun c_173 => ?_) (fun c_173 => ?_)
                            · exact absurd c_173 (by decide)
                            · refine mh_aload0 (pc := 176) F dX12_init_176 ?_
                              refine mh_getr (b := 82) (pc := 177) F sh_81 (by decide) fw_RX12_9_12 dX12_init_177 rfl (by rw [r81_53]; simp [mh_ur]) ?_
                              refine mh_bipush (pc := 180) F dX12_init_180 rfl ?_
                              refine mh_iconst (pc := 182) F dX12_init_182 ?_
                              refine mh_iload1 (pc := 183) F dX12_init_183 ?_
                              refine mh_imul (pc := 184) F dX12_init_184 ?_
                              refine mh_top (y := 6) rfl ?_
                              refine mh_iadd (pc := 185) F dX12_init_185 ?_
                              refine mh_top (y := 39) rfl ?_
                              refine mh_iload1 (pc := 186) F dX12_init_186 ?_
                              refine mh_iconst (pc := 187) F dX12_init_187 ?_
                              refine mh_iadd (pc := 188) F dX12_init_188 ?_
                              refine mh_top (y := 4) rfl ?_
                              refine mh_iastore (pc := 189) F sh_82 (by decide) (by omega) dX12_init_189 ?_
                              refine mh_nmh (fun h54 e54 => ?_)
                              have r81_54 : h54 81 = mh_ur (mh_ur (mh_ur (mh_ur (mh_ur (mh_ur (mh_ur (mh_ur (mh_ur (mh_ur (mh_ur (mh_ur (mh_ur (mh_ur (fun _ => (0 : Int)) 0 (((82 : Nat) : Int) + 1)) 1 (((83 : Nat) : Int) + 1)) 2 (((84 : Nat) : Int) + 1)) 5 (((85 : Nat) : Int) + 1)) 6 (((86 : Nat) : Int) + 1)) 7 (((87 : Nat) : Int) + 1)) 8 (((88 : Nat) : Int) + 1)) 14 (((89 : Nat) : Int) + 1)) 15 (((90 : Nat) : Int) + 1)) 21 (((91 : Nat) : Int) + 1)) 26 (((92 : Nat) : Int) + 1)) 27 (((93 : Nat) : Int) + 1)) 28 (((94 : Nat) : Int) + 1)) 29 (((95 : Nat) : Int) + 1) := by rw [e54, mh_up_row (by decide)]; exact r81_53
                              have r82_54 : h54 82 = mh_ur (mh_ur (mh_ur (mh_ur (mh_ur (mh_ur (mh_ur (mh_ur (mh_ur (mh_ur (mh_ur (mh_ur (mh_ur (mh_ur (mh_ur (mh_ur (mh_ur (mh_ur (mh_ur (mh_ur (mh_ur (mh_ur (mh_ur (mh_ur (mh_ur (mh_ur (fun _ => (0 : Int)) 2 1) 6 8) 8 10) 9 8) 11 10) 12 8) 14 10) 15 8) 17 10) 18 8) 20 10) 21 8) 23 10) 24 8) 26 10) 27 8) 29 10) 30 8) 32 10) 33 1) 34 9) 35 2) 36 7) 37 3) 38 5) 39 4 := by rw [e54, mh_up_rs, r82_53] <;> rfl
                              have r83_54 : h54 83 = fun _ => (0 : Int) := by rw [e54, mh_up_row (by decide)]; exact r83_53
                              have r84_54 : h54 84 = fun _ => (0 : Int) := by rw [e54, mh_up_row (by decide)]; exact r84_53
                              have r85_54 : h54 85 = fun _ => (0 : Int) := by rw [e54, mh_up_row (by decide)]; exact r85_53
                              have r86_54 : h54 86 = fun _ => (0 : Int) := by rw [e54, mh_up_row (by decide)]; exact r86_53
                              have r87_54 : h54 87 = fun _ => (0 : Int) := by rw [e54, mh_up_row (by decide)]; exact r87_53
                              have r88_54 : h54 88 = fun _ => (0 : Int) := by rw [e54, mh_up_row (by decide)]; exact r88_53
                              have r89_54 : h54 89 = fun _ => (0 : Int) := by rw [e54, mh_up_row (by decide)]; exact r89_53
                              have r90_54 : h54 90 = fun _ => (0 : Int) := by rw [e54, mh_up_row (by decide)]; exact r90_53
                              have r91_54 : h54 91 = fun _ => (0 : Int) := by rw [e54, mh_up_row (by decide)]; exact r91_53
                              have r92_54 : h54 92 = fun _ => (0 : Int) := by rw [e54, mh_up_row (by decide)]; exact r92_53
                              have r93_54 : h54 93 = fun _ => (0 : Int) := by rw [e54, mh_up_row (by decide)]; exact r93_53
                              have r94_54 : h54 94 = fun _ => (0 : Int) := by rw [e54, mh_up_row (by decide)]; exact r94_53
                              have r95_54 : h54 95 = fun _ => (0 : Int) := by rw [e54, mh_up_row (by decide)]; exact r95_53
                              have fr54 : mh_fr [95, 94, 93, 92, 91, 90, 89, 88, 87, 86, 85, 84, 83, 81, 82] h h54 := mh_fr.upi fr53 e54 (by simp)
                              refine mh_aload0 (pc := 190) F dX12_init_190 ?_
                              refine mh_getr (b := 82) (pc := 191) F sh_81 (by decide) fw_RX12_9_12 dX12_init_191 rfl (by rw [r81_54]; simp [mh_ur]) ?_
                              refine mh_bipush (pc := 194) F dX12_init_194 rfl ?_
                              refine mh_iconst (pc := 196) F dX12_init_196 ?_
                              refine mh_iload1 (pc := 197) F dX12_init_197 ?_
                              refine mh_imul (pc := 198) F dX12_init_198 ?_
                              refine mh_top (y := 6) rfl ?_
                              refine mh_iadd (pc := 199) F dX12_init_199 ?_
                              refine mh_top (y := 39) rfl ?_
                              refine mh_iconst (pc := 200) F dX12_init_200 ?_
                              refine mh_iadd (pc := 201) F dX12_init_201 ?_
                              refine mh_top (y := 40) rfl ?_
                              refine mh_bipush (pc := 202) F dX12_init_202 rfl ?_
                              refine mh_iconst (pc := 204) F dX12_init_204 ?_
                              refine mh_iload1 (pc := 205) F dX12_init_205 ?_
                              refine mh_imul (pc := 206) F dX12_init_206 ?_
                              refine mh_top (y := 6) rfl ?_
                              refine mh_isub (pc := 207) F dX12_init_207 ?_
                              refine mh_top (y := 3) rfl ?_
                              refine mh_iastore (pc := 208) F sh_82 (by decide) (by omega) dX12_init_208 ?_
                              refine mh_nmh (fun h55 e55 => ?_)
                              have r81_55 : h55 81 = mh_ur (mh_ur (mh_ur (mh_ur (mh_ur (mh_ur (mh_ur (mh_ur (mh_ur (mh_ur (mh_ur (mh_ur (mh_ur (mh_ur (fun _ => (0 : Int)) 0 (((82 : Nat) : Int) + 1)) 1 (((83 : Nat) : Int) + 1)) 2 (((84 : Nat) : Int) + 1)) 5 (((85 : Nat) : Int) + 1)) 6 (((86 : Nat) : Int) + 1)) 7 (((87 : Nat) : Int) + 1)) 8 (((88 : Nat) : Int) + 1)) 14 (((89 : Nat) : Int) + 1)) 15 (((90 : Nat) : Int) + 1)) 21 (((91 : Nat) : Int) + 1)) 26 (((92 : Nat) : Int) + 1)) 27 (((93 : Nat) : Int) + 1)) 28 (((94 : Nat) : Int) + 1)) 29 (((95 : Nat) : Int) + 1) := by rw [e55, mh_up_row (by decide)]; exact r81_54
                              have r82_55 : h55 82 = mh_ur (mh_ur (mh_ur (mh_ur (mh_ur (mh_ur (mh_ur (mh_ur (mh_ur (mh_ur (mh_ur (mh_ur (mh_ur (mh_ur (mh_ur (mh_ur (mh_ur (mh_ur (mh_ur (mh_ur (mh_ur (mh_ur (mh_ur (mh_ur (mh_ur (mh_ur (mh_ur (fun _ => (0 : Int)) 2 1) 6 8) 8 10) 9 8) 11 10) 12 8) 14 10) 15 8) 17 10) 18 8) 20 10) 21 8) 23 10) 24 8) 26 10) 27 8) 29 10) 30 8) 32 10) 33 1) 34 9) 35 2) 36 7) 37 3) 38 5) 39 4) 40 3 := by rw [e55, mh_up_rs, r82_54] <;> rfl
                              have r83_55 : h55 83 = fun _ => (0 : Int) := by rw [e55, mh_up_row (by decide)]; exact r83_54
                              have r84_55 : h55 84 = fun _ => (0 : Int) := by rw [e55, mh_up_row (by decide)]; exact r84_54
                              have r85_55 : h55 85 = fun _ => (0 : Int) := by rw [e55, mh_up_row (by decide)]; exact r85_54
                              have r86_55 : h55 86 = fun _ => (0 : Int) := by rw [e55, mh_up_row (by decide)]; exact r86_54
                              have r87_55 : h55 87 = fun _ => (0 : Int) := by rw [e55, mh_up_row (by decide)]; exact r87_54
                              have r88_55 : h55 88 = fun _ => (0 : Int) := by rw [e55, mh_up_row (by decide)]; exact r88_54
                              have r89_55 : h55 89 = fun _ => (0 : Int) := by rw [e55, mh_up_row (by decide)]; exact r89_54
                              have r90_55 : h55 90 = fun _ => (0 : Int) := by rw [e55, mh_up_row (by decide)]; exact r90_54
                              have r91_55 : h55 91 = fun _ => (0 : Int) := by rw [e55, mh_up_row (by decide)]; exact r91_54
                              have r92_55 : h55 92 = fun _ => (0 : Int) := by rw [e55, mh_up_row (by decide)]; exact r92_54
                              have r93_55 : h55 93 = fun _ => (0 : Int) := by rw [e55, mh_up_row (by decide)]; exact r93_54
                              have r94_55 : h55 94 = fun _ => (0 : Int) := by rw [e55, mh_up_row (by decide)]; exact r94_54
                              have r95_55 : h55 95 = fun _ => (0 : Int) := by rw [e55, mh_up_row (by decide)]; exact r95_54
                              have fr55 : mh_fr [95, 94, 93, 92, 91, 90, 89, 88, 87, 86, 85, 84, 83, 81, 82] h h55 := mh_fr.upi fr54 e55 (by simp)
                              refine mh_iinc1 (pc := 209) F dX12_init_209 rfl (by decide) ?_
                              refine mh_goto (pc := 212) (tgt := 171) F dX12_init_212 rfl ?_
                              refine mh_iload1 (pc := 171) F dX12_init_171 ?_
                              refine mh_iconst (pc := 172) F dX12_init_172 ?_
                              refine mh_icmp_ge (pc := 173) (tgt := 215) F dX12_init_173 rfl (by omega) (by omega) (fun c_173 => ?_) (fun c_173 => ?_)
                              · exact mh_return F Z dX12_init_215 ⟨rfl, (fr55.mono (by simp)), ⟨(by rw [r81_55]; decide +kernel), (by rw [r81_55]; decide +kernel), (by rw [r81_55]; decide +kernel), (by rw [r81_55]; decide +kernel), (by rw [r81_55]; decide +kernel), (by rw [r81_55]; decide +kernel), (by rw [r81_55]; decide +kernel), (by rw [r81_55]; decide +kernel), (by rw [r81_55]; decide +kernel), (by rw [r81_55]; decide +kernel), (by rw [r81_55]; decide +kernel), (by rw [r81_55]; decide +kernel), (by rw [r81_55]; decide +kernel), (by rw [r81_55]; decide +kernel)⟩, ⟨(by rw [r81_55]; decide +kernel), (by rw [r81_55]; decide +kernel), (by rw [r81_55]; decide +kernel), (by rw [r81_55]; decide +kernel), (by rw [r81_55]; decide +kernel), (by rw [r81_55]; decide +kernel), (by rw [r81_55]; decide +kernel), (by rw [r81_55]; decide +kernel), (by rw [r81_55]; decide +kernel), (by rw [r81_55]; decide +kernel), (by rw [r81_55]; decide +kernel), (by rw [r81_55]; decide +kernel), (by rw [r81_55]; decide +kernel), (by rw [r81_55]; decide +kernel), (by rw [r81_55]; decide +kernel), (by rw [r81_55]; decide +kernel)⟩, (by rw [r82_55]; rfl), ⟨r83_55, r84_55, r85_55, r86_55, r87_55, r88_55, r89_55, r90_55, r91_55, r92_55, r93_55, r94_55, r95_55⟩⟩
                              · exact absurd c_173 (by decide)
                    · exact absurd c_130 (by decide)

