/-! contracts that are told of the rows of rows' class besides -/
def mh_Pc2 (g : mh_G) (av : List Value) (n : Nat) (h : Nat → Int → Int) : Array Value → State → Prop := fun v U => mh_Pc g av n h v U ∧ mh_AA g U
def mh_M2 (g : mh_G) (d : Nat) (y : MethodName) (cc : ByteArray) (nL : Nat) (ret : Option FieldType) (n mc ms : Nat) (av : List Value) (h : Nat → Int → Int) (post : Option Value → (Nat → Int → Int) → Prop) : Prop :=
  Met (mh_l g) y (.code y cc nL ret :: mh_WT) (mh_rm d mc ms) (mh_Pc2 g av n h) (mh_Qc g (n + mc) post) mc ms (fun q => mh_b g ≤ q)
theorem mh_M_of2 {g : mh_G} {d : Nat} {y : MethodName} {cc : ByteArray} {nL : Nat} {ret : Option FieldType} {n mc ms : Nat} {av : List Value} {h : Nat → Int → Int} {post : Option Value → (Nat → Int → Int) → Prop} (own : String) (hown : y.cls = own) (hy : plainName y.cls = true) (loc : List (Option Value)) (hl : mh_al av ++ List.replicate (nL - (mh_al av).length) none = loc) (hn : (mh_al av).length ≤ nL)
    (body : ∀ f : mh_F, mh_Fr g f own cc nL d → mh_Rt g f (n + mc) mc ms ret post → (mh_h f).name = y.name → (mh_R f).cells = mc ∧ (mh_R f).slots = ms → mh_AA g (mh_s f) → mh_V g f nL n 0 0 0 loc [] h) : mh_M2 g d y cc nL ret n mc ms av h post := by
  unfold mh_M2
  refine Met.ofW (cc := cc) (maxL := nL) (ret := ret) hy rfl ?_
  intro p e s m args below meth c s₁ B hml hv
  obtain ⟨⟨rfl, hW, hK⟩, hAA⟩ := hv
  have hts := atoms_spec (ws := .code y cc nL ret :: mh_WT) B.pre
  have hown2 : s.vm.findClass y.cls = some m.cls := findClass_of_methodNamed B.named
  have hnm : meth.name = y.name := (name_of_methodNamed B.named B.method).1
  rw [hown] at hown2
  have hsz : mh_b g ≤ s.heap.size := by rw [hW.2.1]; exact Nat.le_add_right _ _
  have hlen : (lg_sl (av.map (mh_tr g))).length ≤ nL := by rw [mh_al_len]; exact hn
  have hl2 := lv_entry (av.map (mh_tr g)) (n := nL) hlen
  rw [lg_entry_eq]
  refine body (p, e, mh_rm d mc ms, s, m, _, below, meth, c, _) ⟨B.exec, B.bytes, hml, hown2, fun w hw => hts w (List.mem_cons_of_mem _ hw), hK, B.notSynchronized, hsz, Nat.le_refl _, Nat.le_refl _⟩ ⟨B.returns, rfl⟩ hnm ⟨rfl, rfl⟩ hAA s.heap [] _ hW va_S.rf ?_
  rw [← hl, mh_lo_al]
  exact hl2
theorem sc_tzr.eq {a b a2 b2 : Int → Int} {t U : Nat} (h : sc_tzr a b t U) (e1 : a2 = a) (e2 : b2 = b) : sc_tzr a2 b2 t U := by rw [e1, e2]; exact h
theorem sc_w0.fr {h h2 : Nat → Int → Int} {w : Nat} (H : sc_w0 h w) (e : ∀ a, w ≤ a → a ≤ w + 24 → h2 a = h a) : sc_w0 h2 w := by
  unfold sc_w0 at *
  rw [e w (by omega) (by omega), e (w + 1) (by omega) (by omega), e (w + 2) (by omega) (by omega), e (w + 3) (by omega) (by omega), e (w + 4) (by omega) (by omega), e (w + 5) (by omega) (by omega), e (w + 6) (by omega) (by omega), e (w + 7) (by omega) (by omega), e (w + 8) (by omega) (by omega), e (w + 9) (by omega) (by omega), e (w + 13) (by omega) (by omega), e (w + 14) (by omega) (by omega), e (w + 19) (by omega) (by omega), e (w + 20) (by omega) (by omega), e (w + 21) (by omega) (by omega), e (w + 22) (by omega) (by omega), e (w + 23) (by omega) (by omega), e (w + 24) (by omega) (by omega)]
  exact H
/-- a new MilkHills -/
def sc_m0 (h : Nat → Int → Int) : Prop :=
  (h 0 0 = ((25 : Nat) : Int) + 1 ∧ h 0 1 = ((50 : Nat) : Int) + 1 ∧ h 0 2 = 0 ∧ h 0 3 = ((1 : Nat) : Int) + 1 ∧ h 0 4 = ((9 : Nat) : Int) + 1 ∧ h 0 5 = ((10 : Nat) : Int) + 1 ∧ h 0 6 = ((16 : Nat) : Int) + 1 ∧ h 0 7 = ((17 : Nat) : Int) + 1 ∧ h 0 8 = ((22 : Nat) : Int) + 1 ∧ h 0 9 = ((23 : Nat) : Int) + 1 ∧ h 0 10 = ((24 : Nat) : Int) + 1) ∧
  (∀ k : Nat, k < 7 → h 1 (k : Int) = ((2 + k : Nat) : Int) + 1) ∧ (h 2 0 = 0 ∧ h 3 0 = 1 ∧ h 4 0 = 2 ∧ h 5 0 = 3 ∧ h 6 0 = 4 ∧ h 7 0 = 5 ∧ h 8 0 = 6) ∧ (∀ k : Nat, k < 6 → h 9 (k : Int) = ((75 + k : Nat) : Int) + 1) ∧
  (h 10 0 = ((11 : Nat) : Int) + 1 ∧ h 10 1 = ((12 : Nat) : Int) + 1 ∧ h 10 2 = ((13 : Nat) : Int) + 1 ∧ h 10 3 = ((14 : Nat) : Int) + 1 ∧ h 10 4 = ((15 : Nat) : Int) + 1) ∧
  (∀ k : Nat, k < 4 → h 17 (k : Int) = ((18 + k : Nat) : Int) + 1) ∧ (h 16 = (fun _ => 0) ∧ h 18 = (fun _ => 0) ∧ h 19 = (fun _ => 0) ∧ h 20 = (fun _ => 0) ∧ h 21 = (fun _ => 0) ∧ h 22 = (fun _ => 0) ∧ h 23 = (fun _ => 0) ∧ h 24 = (fun _ => 0)) ∧
  sc_w0 h 25 ∧ sc_w0 h 50 ∧ (h 75 = sc_c0 0 ∧ h 76 = sc_c0 1 ∧ h 77 = sc_c0 2 ∧ h 78 = sc_c0 3 ∧ h 79 = sc_c0 4 ∧ h 80 = sc_c0 5)

set_option maxRecDepth 100000 in
set_option maxHeartbeats 8000000 in
theorem q47_init {g : mh_G} {d : Nat} (hd : 80 ≤ d) {h : Nat → Int → Int}  (r0 : h 0 = fun _ => (0 : Int)) : mh_M2 g d yX11_init cX11_init 2 none 1 80 8518 [.ref 0] h (fun r h2 => r = none ∧ mh_fr (List.range 81) h h2 ∧ sc_m0 h2) := by
  refine mh_M_of2 RX11 rfl (by decide +kernel) [some (.ref 0), none] rfl (Nat.le_of_ble_eq_true rfl) (fun f F Z hn0 hR hAA => ?_)
  refine mh_aload0 (pc := 0) F dX11_init_0 ?_
  refine mh_objI (pc := 1) F (by omega) tw_1_27 (Nat.le_of_ble_eq_true rfl) dX11_init_1 ?_
  refine mh_aload0 (pc := 4) F dX11_init_4 ?_
  refine mh_bipush (pc := 5) F dX11_init_5 rfl ?_
  refine mh_anew (t := 3) (len := 7) (n1 := 2) (cl1 := 1) (sl1 := 7) (pc := 7) F sh_1 (by decide) rfl (by decide) rfl tw_1_30 F.kk.2.2.1 ⟨rfl, rfl, rfl⟩ (by rw [hR.1, hR.2]; exact ⟨Nat.le_of_ble_eq_true rfl, Nat.le_of_ble_eq_true rfl⟩) dX11_init_7 ?_
  refine mh_nmh (fun h1 e1 => ?_)
  have r0_1 : h1 0 = fun _ => (0 : Int) := by rw [e1, mh_zr_row (by decide)]; exact r0
  have r1_1 : h1 1 = fun _ => (0 : Int) := by rw [e1]; exact mh_zr_rs
  have fr1 : mh_fr [1] h h1 := mh_fr.zr mh_fr.rf e1
  refine mh_dup (pc := 10) F dX11_init_10 rfl ?_
  refine mh_iconst (pc := 11) F dX11_init_11 ?_
  refine mh_new (ci := 3) (n1 := 3) (cl1 := 2) (sl1 := 8) (pc := 12) F sh_2 (by decide) tw_1_30 tw_1_32 tw_1_2 ⟨rfl, rfl, rfl⟩ (by rw [hR.1, hR.2]; exact ⟨Nat.le_of_ble_eq_true rfl, Nat.le_of_ble_eq_true rfl⟩) dX11_init_12 ?_
  refine mh_nmh (fun h2 e2 => ?_)
  have r0_2 : h2 0 = fun _ => (0 : Int) := by rw [e2, mh_zr_row (by decide)]; exact r0_1
  have r1_2 : h2 1 = fun _ => (0 : Int) := by rw [e2, mh_zr_row (by decide)]; exact r1_1
  have r2_2 : h2 2 = fun _ => (0 : Int) := by rw [e2]; exact mh_zr_rs
  have fr2 : mh_fr [2, 1] h h2 := mh_fr.zr fr1 e2
  refine mh_dup (pc := 15) F dX11_init_15 rfl ?_
  refine mh_iconst (pc := 16) F dX11_init_16 ?_
  refine mh_callIx (pc := 17) (As := [.int (Int32.ofInt (0))]) (st := [.ref 2, .int (Int32.ofInt (0)), .ref 1, .ref 1, .ref 0]) (n1 := 3) (cl1 := 2) (sl1 := 8) F (by omega) (q44_kind_2_3 (by omega) (by decide)) ⟨rfl, rfl, rfl⟩ wi_RX11_9 dX11_init_17 rfl rfl (Nat.le_of_ble_eq_true rfl) (by rw [hR.1, hR.2]; exact ⟨Nat.le_of_ble_eq_true rfl, Nat.le_of_ble_eq_true rfl⟩) (fun r3 h3 q3 => ?_)
  obtain ⟨rfl, fr3, hk3⟩ := q3
  have r0_4 : h3 0 = fun _ => (0 : Int) := (fr3 _ (by decide)).trans r0_2
  have r1_4 : h3 1 = fun _ => (0 : Int) := (fr3 _ (by decide)).trans r1_2
  have fr4 : mh_fr [2, 1] h h3 := (mh_fr.tr fr2 fr3).mono (by simp)
  refine mh_aastore (pc := 20) F sh_1 sh_2 (by decide) rfl (by decide) (by decide) (by decide) (Or.inl rfl) dX11_init_20 ?_
  refine mh_nmh (fun h5 e5 => ?_)
  have r0_5 : h5 0 = fun _ => (0 : Int) := by rw [e5, mh_up_row (by decide)]; exact r0_4
  have r1_5 : h5 1 = mh_ur (fun _ => (0 : Int)) 0 (((2 : Nat) : Int) + 1) := by rw [e5, mh_up_rs, r1_4] <;> rfl
  have r2_5 : h5 2 = mh_ur (fun _ => (0 : Int)) 0 0 := by rw [e5, mh_up_row (by decide)]; exact (hk3.trans (by rw [r2_2]))
  have fr5 : mh_fr [2, 1] h h5 := mh_fr.upi fr4 e5 (by simp)
  refine mh_dup (pc := 21) F dX11_init_21 rfl ?_
  refine mh_iconst (pc := 22) F dX11_init_22 ?_
  refine mh_new (ci := 2) (n1 := 4) (cl1 := 3) (sl1 := 9) (pc := 23) F sh_3 (by decide) tw_1_43 tw_1_44 tw_1_3 ⟨rfl, rfl, rfl⟩ (by rw [hR.1, hR.2]; exact ⟨Nat.le_of_ble_eq_true rfl, Nat.le_of_ble_eq_true rfl⟩) dX11_init_23 ?_
  refine mh_nmh (fun h6 e6 => ?_)
  have r0_6 : h6 0 = fun _ => (0 : Int) := by rw [e6, mh_zr_row (by decide)]; exact r0_5
  have r1_6 : h6 1 = mh_ur (fun _ => (0 : Int)) 0 (((2 : Nat) : Int) + 1) := by rw [e6, mh_zr_row (by decide)]; exact r1_5
  have r2_6 : h6 2 = mh_ur (fun _ => (0 : Int)) 0 0 := by rw [e6, mh_zr_row (by decide)]; exact r2_5
  have r3_6 : h6 3 = fun _ => (0 : Int) := by rw [e6]; exact mh_zr_rs
  have fr6 : mh_fr [3, 2, 1] h h6 := mh_fr.zr fr5 e6
  refine mh_dup (pc := 26) F dX11_init_26 rfl ?_
  refine mh_iconst (pc := 27) F dX11_init_27 ?_
  refine mh_callIx (pc := 28) (As := [.int (Int32.ofInt (1))]) (st := [.ref 3, .int (Int32.ofInt (1)), .ref 1, .ref 1, .ref 0]) (n1 := 4) (cl1 := 3) (sl1 := 9) F (by omega) (q44_kind_3_2 (by omega) (by decide)) ⟨rfl, rfl, rfl⟩ wi_RX11_14 dX11_init_28 rfl rfl (Nat.le_of_ble_eq_true rfl) (by rw [hR.1, hR.2]; exact ⟨Nat.le_of_ble_eq_true rfl, Nat.le_of_ble_eq_true rfl⟩) (fun r7 h7 q7 => ?_)
  obtain ⟨rfl, fr7, hk7⟩ := q7
  have r0_8 : h7 0 = fun _ => (0 : Int) := (fr7 _ (by decide)).trans r0_6
  have r1_8 : h7 1 = mh_ur (fun _ => (0 : Int)) 0 (((2 : Nat) : Int) + 1) := (fr7 _ (by decide)).trans r1_6
  have r2_8 : h7 2 = mh_ur (fun _ => (0 : Int)) 0 0 := (fr7 _ (by decide)).trans r2_6
  have fr8 : mh_fr [3, 2, 1] h h7 := (mh_fr.tr fr6 fr7).mono (by simp)
  refine mh_aastore (pc := 31) F sh_1 sh_3 (by decide) rfl (by decide) (by decide) (by decide) (Or.inr kst_2) dX11_init_31 ?_
  refine mh_nmh (fun h9 e9 => ?_)
  have r0_9 : h9 0 = fun _ => (0 : Int) := by rw [e9, mh_up_row (by decide)]; exact r0_8
  have r1_9 : h9 1 = mh_ur (mh_ur (fun _ => (0 : Int)) 0 (((2 : Nat) : Int) + 1)) 1 (((3 : Nat) : Int) + 1) := by rw [e9, mh_up_rs, r1_8] <;> rfl
  have r2_9 : h9 2 = mh_ur (fun _ => (0 : Int)) 0 0 := by rw [e9, mh_up_row (by decide)]; exact r2_8
  have r3_9 : h9 3 = mh_ur (fun _ => (0 : Int)) 0 1 := by rw [e9, mh_up_row (by decide)]; exact (hk7.trans (by rw [r3_6]))
  have fr9 : mh_fr [3, 2, 1] h h9 := mh_fr.upi fr8 e9 (by simp)
  refine mh_dup (pc := 32) F dX11_init_32 rfl ?_
  refine mh_iconst (pc := 33) F dX11_init_33 ?_
  refine mh_new (ci := 4) (n1 := 5) (cl1 := 4) (sl1 := 10) (pc := 34) F sh_4 (by decide) tw_1_51 tw_1_52 tw_1_4 ⟨rfl, rfl, rfl⟩ (by rw [hR.1, hR.2]; exact ⟨Nat.le_of_ble_eq_true rfl, Nat.le_of_ble_eq_true rfl⟩) dX11_init_34 ?_
  refine mh_nmh (fun h10 e10 => ?_)
  have r0_10 : h10 0 = fun _ => (0 : Int) := by rw [e10, mh_zr_row (by decide)]; exact r0_9
  have r1_10 : h10 1 = mh_ur (mh_ur (fun _ => (0 : Int)) 0 (((2 : Nat) : Int) + 1)) 1 (((3 : Nat) : Int) + 1) := by rw [e10, mh_zr_row (by decide)]; exact r1_9
  have r2_10 : h10 2 = mh_ur (fun _ => (0 : Int)) 0 0 := by rw [e10, mh_zr_row (by decide)]; exact r2_9
  have r3_10 : h10 3 = mh_ur (fun _ => (0 : Int)) 0 1 := by rw [e10, mh_zr_row (by decide)]; exact r3_9
  have r4_10 : h10 4 = fun _ => (0 : Int) := by rw [e10]; exact mh_zr_rs
  have fr10 : mh_fr [4, 3, 2, 1] h h10 := mh_fr.zr fr9 e10
  refine mh_dup (pc := 37) F dX11_init_37 rfl ?_
  refine mh_iconst (pc := 38) F dX11_init_38 ?_
  refine mh_callIx (pc := 39) (As := [.int (Int32.ofInt (2))]) (st := [.ref 4, .int (Int32.ofInt (2)), .ref 1, .ref 1, .ref 0]) (n1 := 5) (cl1 := 4) (sl1 := 10) F (by omega) (q44_kind_4_4 (by omega) (by decide)) ⟨rfl, rfl, rfl⟩ wi_RX11_17 dX11_init_39 rfl rfl (Nat.le_of_ble_eq_true rfl) (by rw [hR.1, hR.2]; exact ⟨Nat.le_of_ble_eq_true rfl, Nat.le_of_ble_eq_true rfl⟩) (fun r11 h11 q11 => ?_)
  obtain ⟨rfl, fr11, hk11⟩ := q11
  have r0_12 : h11 0 = fun _ => (0 : Int) := (fr11 _ (by decide)).trans r0_10
  have r1_12 : h11 1 = mh_ur (mh_ur (fun _ => (0 : Int)) 0 (((2 : Nat) : Int) + 1)) 1 (((3 : Nat) : Int) + 1) := (fr11 _ (by decide)).trans r1_10
  have r2_12 : h11 2 = mh_ur (fun _ => (0 : Int)) 0 0 := (fr11 _ (by decide)).trans r2_10
  have r3_12 : h11 3 = mh_ur (fun _ => (0 : Int)) 0 1 := (fr11 _ (by decide)).trans r3_10
  have fr12 : mh_fr [4, 3, 2, 1] h h11 := (mh_fr.tr fr10 fr11).mono (by simp)
  refine mh_aastore (pc := 42) F sh_1 sh_4 (by decide) rfl (by decide) (by decide) (by decide) (Or.inr kst_4) dX11_init_42 ?_
  refine mh_nmh (fun h13 e13 => ?_)
  have r0_13 : h13 0 = fun _ => (0 : Int) := by rw [e13, mh_up_row (by decide)]; exact r0_12
  have r1_13 : h13 1 = mh_ur (mh_ur (mh_ur (fun _ => (0 : Int)) 0 (((2 : Nat) : Int) + 1)) 1 (((3 : Nat) : Int) + 1)) 2 (((4 : Nat) : Int) + 1) := by rw [e13, mh_up_rs, r1_12] <;> rfl
  have r2_13 : h13 2 = mh_ur (fun _ => (0 : Int)) 0 0 := by rw [e13, mh_up_row (by decide)]; exact r2_12
  have r3_13 : h13 3 = mh_ur (fun _ => (0 : Int)) 0 1 := by rw [e13, mh_up_row (by decide)]; exact r3_12
  have r4_13 : h13 4 = mh_ur (fun _ => (0 : Int)) 0 2 := by rw [e13, mh_up_row (by decide)]; exact (hk11.trans (by rw [r4_10]))
  have fr13 : mh_fr [4, 3, 2, 1] h h13 := mh_fr.upi fr12 e13 (by simp)
  refine mh_dup (pc := 43) F dX11_init_43 rfl ?_
  refine mh_iconst (pc := 44) F dX11_init_44 ?_
  refine mh_new (ci := 1) (n1 := 6) (cl1 := 5) (sl1 := 11) (pc := 45) F sh_5 (by decide) tw_1_59 tw_1_60 tw_1_5 ⟨rfl, rfl, rfl⟩ (by rw [hR.1, hR.2]; exact ⟨Nat.le_of_ble_eq_true rfl, Nat.le_of_ble_eq_true rfl⟩) dX11_init_45 ?_
  refine mh_nmh (fun h14 e14 => ?_)
  have r0_14 : h14 0 = fun _ => (0 : Int) := by rw [e14, mh_zr_row (by decide)]; exact r0_13
  have r1_14 : h14 1 = mh_ur (mh_ur (mh_ur (fun _ => (0 : Int)) 0 (((2 : Nat) : Int) + 1)) 1 (((3 : Nat) : Int) + 1)) 2 (((4 : Nat) : Int) + 1) := by rw [e14, mh_zr_row (by decide)]; exact r1_13
  have r2_14 : h14 2 = mh_ur (fun _ => (0 : Int)) 0 0 := by rw [e14, mh_zr_row (by decide)]; exact r2_13
  have r3_14 : h14 3 = mh_ur (fun _ => (0 : Int)) 0 1 := by rw [e14, mh_zr_row (by decide)]; exact r3_13
  have r4_14 : h14 4 = mh_ur (fun _ => (0 : Int)) 0 2 := by rw [e14, mh_zr_row (by decide)]; exact r4_13
  have r5_14 : h14 5 = fun _ => (0 : Int) := by rw [e14]; exact mh_zr_rs
  have fr14 : mh_fr [5, 4, 3, 2, 1] h h14 := mh_fr.zr fr13 e14
  refine mh_dup (pc := 48) F dX11_init_48 rfl ?_
  refine mh_iconst (pc := 49) F dX11_init_49 ?_
  refine mh_callIx (pc := 50) (As := [.int (Int32.ofInt (3))]) (st := [.ref 5, .int (Int32.ofInt (3)), .ref 1, .ref 1, .ref 0]) (n1 := 6) (cl1 := 5) (sl1 := 11) F (by omega) (q44_kind_5_1 (by omega) (by decide)) ⟨rfl, rfl, rfl⟩ wi_RX11_20 dX11_init_50 rfl rfl (Nat.le_of_ble_eq_true rfl) (by rw [hR.1, hR.2]; exact ⟨Nat.le_of_ble_eq_true rfl, Nat.le_of_ble_eq_true rfl⟩) (fun r15 h15 q15 => ?_)
  obtain ⟨rfl, fr15, hk15⟩ := q15
  have r0_16 : h15 0 = fun _ => (0 : Int) := (fr15 _ (by decide)).trans r0_14
  have r1_16 : h15 1 = mh_ur (mh_ur (mh_ur (fun _ => (0 : Int)) 0 (((2 : Nat) : Int) + 1)) 1 (((3 : Nat) : Int) + 1)) 2 (((4 : Nat) : Int) + 1) := (fr15 _ (by decide)).trans r1_14
  have r2_16 : h15 2 = mh_ur (fun _ => (0 : Int)) 0 0 := (fr15 _ (by decide)).trans r2_14
  have r3_16 : h15 3 = mh_ur (fun _ => (0 : Int)) 0 1 := (fr15 _ (by decide)).trans r3_14
  have r4_16 : h15 4 = mh_ur (fun _ => (0 : Int)) 0 2 := (fr15 _ (by decide)).trans r4_14
  have fr16 : mh_fr [5, 4, 3, 2, 1] h h15 := (mh_fr.tr fr14 fr15).mono (by simp)
  refine mh_aastore (pc := 53) F sh_1 sh_5 (by decide) rfl (by decide) (by decide) (by decide) (Or.inr kst_1) dX11_init_53 ?_
  refine mh_nmh (fun h17 e17 => ?_)
  have r0_17 : h17 0 = fun _ => (0 : Int) := by rw [e17, mh_up_row (by decide)]; exact r0_16
  have r1_17 : h17 1 = mh_ur (mh_ur (mh_ur (mh_ur (fun _ => (0 : Int)) 0 (((2 : Nat) : Int) + 1)) 1 (((3 : Nat) : Int) + 1)) 2 (((4 : Nat) : Int) + 1)) 3 (((5 : Nat) : Int) + 1) := by rw [e17, mh_up_rs, r1_16] <;> rfl
  have r2_17 : h17 2 = mh_ur (fun _ => (0 : Int)) 0 0 := by rw [e17, mh_up_row (by decide)]; exact r2_16
  have r3_17 : h17 3 = mh_ur (fun _ => (0 : Int)) 0 1 := by rw [e17, mh_up_row (by decide)]; exact r3_16
  have r4_17 : h17 4 = mh_ur (fun _ => (0 : Int)) 0 2 := by rw [e17, mh_up_row (by decide)]; exact r4_16
  have r5_17 : h17 5 = mh_ur (fun _ => (0 : Int)) 0 3 := by rw [e17, mh_up_row (by decide)]; exact (hk15.trans (by rw [r5_14]))
  have fr17 : mh_fr [5, 4, 3, 2, 1] h h17 := mh_fr.upi fr16 e17 (by simp)
  refine mh_dup (pc := 54) F dX11_init_54 rfl ?_
  refine mh_iconst (pc := 55) F dX11_init_55 ?_
  refine mh_new (ci := 7) (n1 := 7) (cl1 := 6) (sl1 := 12) (pc := 56) F sh_6 (by decide) tw_1_67 tw_1_68 tw_1_6 ⟨rfl, rfl, rfl⟩ (by rw [hR.1, hR.2]; exact ⟨Nat.le_of_ble_eq_true rfl, Nat.le_of_ble_eq_true rfl⟩) dX11_init_56 ?_
  refine mh_nmh (fun h18 e18 => ?_)
  have r0_18 : h18 0 = fun _ => (0 : Int) := by rw [e18, mh_zr_row (by decide)]; exact r0_17
  have r1_18 : h18 1 = mh_ur (mh_ur (mh_ur (mh_ur (fun _ => (0 : Int)) 0 (((2 : Nat) : Int) + 1)) 1 (((3 : Nat) : Int) + 1)) 2 (((4 : Nat) : Int) + 1)) 3 (((5 : Nat) : Int) + 1) := by rw [e18, mh_zr_row (by decide)]; exact r1_17
  have r2_18 : h18 2 = mh_ur (fun _ => (0 : Int)) 0 0 := by rw [e18, mh_zr_row (by decide)]; exact r2_17
  have r3_18 : h18 3 = mh_ur (fun _ => (0 : Int)) 0 1 := by rw [e18, mh_zr_row (by decide)]; exact r3_17
  have r4_18 : h18 4 = mh_ur (fun _ => (0 : Int)) 0 2 := by rw [e18, mh_zr_row (by decide)]; exact r4_17
  have r5_18 : h18 5 = mh_ur (fun _ => (0 : Int)) 0 3 := by rw [e18, mh_zr_row (by decide)]; exact r5_17
  have r6_18 : h18 6 = fun _ => (0 : Int) := by rw [e18]; exact mh_zr_rs
  have fr18 : mh_fr [6, 5, 4, 3, 2, 1] h h18 := mh_fr.zr fr17 e18
  refine mh_dup (pc := 59) F dX11_init_59 rfl ?_
  refine mh_iconst (pc := 60) F dX11_init_60 ?_
  refine mh_callIx (pc := 61) (As := [.int (Int32.ofInt (4))]) (st := [.ref 6, .int (Int32.ofInt (4)), .ref 1, .ref 1, .ref 0]) (n1 := 7) (cl1 := 6) (sl1 := 12) F (by omega) (q44_kind_6_7 (by omega) (by decide)) ⟨rfl, rfl, rfl⟩ wi_RX11_23 dX11_init_61 rfl rfl (Nat.le_of_ble_eq_true rfl) (by rw [hR.1, hR.2]; exact ⟨Nat.le_of_ble_eq_true rfl, Nat.le_of_ble_eq_true rfl⟩) (fun r19 h19 q19 => ?_)
  obtain ⟨rfl, fr19, hk19⟩ := q19
  have r0_20 : h19 0 = fun _ => (0 : Int) := (fr19 _ (by decide)).trans r0_18
  have r1_20 : h19 1 = mh_ur (mh_ur (mh_ur (mh_ur (fun _ => (0 : Int)) 0 (((2 : Nat) : Int) + 1)) 1 (((3 : Nat) : Int) + 1)) 2 (((4 : Nat) : Int) + 1)) 3 (((5 : Nat) : Int) + 1) := (fr19 _ (by decide)).trans r1_18
  have r2_20 : h19 2 = mh_ur (fun _ => (0 : Int)) 0 0 := (fr19 _ (by decide)).trans r2_18
  have r3_20 : h19 3 = mh_ur (fun _ => (0 : Int)) 0 1 := (fr19 _ (by decide)).trans r3_18
  have r4_20 : h19 4 = mh_ur (fun _ => (0 : Int)) 0 2 := (fr19 _ (by decide)).trans r4_18
  have r5_20 : h19 5 = mh_ur (fun _ => (0 : Int)) 0 3 := (fr19 _ (by decide)).trans r5_18
  have fr20 : mh_fr [6, 5, 4, 3, 2, 1] h h19 := (mh_fr.tr fr18 fr19).mono (by simp)
  refine mh_aastore (pc := 64) F sh_1 sh_6 (by decide) rfl (by decide) (by decide) (by decide) (Or.inr kst_7) dX11_init_64 ?_
  refine mh_nmh (fun h21 e21 => ?_)
  have r0_21 : h21 0 = fun _ => (0 : Int) := by rw [e21, mh_up_row (by decide)]; exact r0_20
  have r1_21 : h21 1 = mh_ur (mh_ur (mh_ur (mh_ur (mh_ur (fun _ => (0 : Int)) 0 (((2 : Nat) : Int) + 1)) 1 (((3 : Nat) : Int) + 1)) 2 (((4 : Nat) : Int) + 1)) 3 (((5 : Nat) : Int) + 1)) 4 (((6 : Nat) : Int) + 1) := by rw [e21, mh_up_rs, r1_20] <;> rfl
  have r2_21 : h21 2 = mh_ur (fun _ => (0 : Int)) 0 0 := by rw [e21, mh_up_row (by decide)]; exact r2_20
  have r3_21 : h21 3 = mh_ur (fun _ => (0 : Int)) 0 1 := by rw [e21, mh_up_row (by decide)]; exact r3_20
  have r4_21 : h21 4 = mh_ur (fun _ => (0 : Int)) 0 2 := by rw [e21, mh_up_row (by decide)]; exact r4_20
  have r5_21 : h21 5 = mh_ur (fun _ => (0 : Int)) 0 3 := by rw [e21, mh_up_row (by decide)]; exact r5_20
  have r6_21 : h21 6 = mh_ur (fun _ => (0 : Int)) 0 4 := by rw [e21, mh_up_row (by decide)]; exact (hk19.trans (by rw [r6_18]))
  have fr21 : mh_fr [6, 5, 4, 3, 2, 1] h h21 := mh_fr.upi fr20 e21 (by simp)
  refine mh_dup (pc := 65) F dX11_init_65 rfl ?_
  refine mh_iconst (pc := 66) F dX11_init_66 ?_
  refine mh_new (ci := 8) (n1 := 8) (cl1 := 7) (sl1 := 13) (pc := 67) F sh_7 (by decide) tw_1_75 tw_1_76 tw_1_7 ⟨rfl, rfl, rfl⟩ (by rw [hR.1, hR.2]; exact ⟨Nat.le_of_ble_eq_true rfl, Nat.le_of_ble_eq_true rfl⟩) dX11_init_67 ?_
  refine mh_nmh (fun h22 e22 => ?_)
  have r0_22 : h22 0 = fun _ => (0 : Int) := by rw [e22, mh_zr_row (by decide)]; exact r0_21
  have r1_22 : h22 1 = mh_ur (mh_ur (mh_ur (mh_ur (mh_ur (fun _ => (0 : Int)) 0 (((2 : Nat) : Int) + 1)) 1 (((3 : Nat) : Int) + 1)) 2 (((4 : Nat) : Int) + 1)) 3 (((5 : Nat) : Int) + 1)) 4 (((6 : Nat) : Int) + 1) := by rw [e22, mh_zr_row (by decide)]; exact r1_21
  have r2_22 : h22 2 = mh_ur (fun _ => (0 : Int)) 0 0 := by rw [e22, mh_zr_row (by decide)]; exact r2_21
  have r3_22 : h22 3 = mh_ur (fun _ => (0 : Int)) 0 1 := by rw [e22, mh_zr_row (by decide)]; exact r3_21
  have r4_22 : h22 4 = mh_ur (fun _ => (0 : Int)) 0 2 := by rw [e22, mh_zr_row (by decide)]; exact r4_21
  have r5_22 : h22 5 = mh_ur (fun _ => (0 : Int)) 0 3 := by rw [e22, mh_zr_row (by decide)]; exact r5_21
  have r6_22 : h22 6 = mh_ur (fun _ => (0 : Int)) 0 4 := by rw [e22, mh_zr_row (by decide)]; exact r6_21
  have r7_22 : h22 7 = fun _ => (0 : Int) := by rw [e22]; exact mh_zr_rs
  have fr22 : mh_fr [7, 6, 5, 4, 3, 2, 1] h h22 := mh_fr.zr fr21 e22
  refine mh_dup (pc := 70) F dX11_init_70 rfl ?_
  refine mh_iconst (pc := 71) F dX11_init_71 ?_
  refine mh_callIx (pc := 72) (As := [.int (Int32.ofInt (5))]) (st := [.ref 7, .int (Int32.ofInt (5)), .ref 1, .ref 1, .ref 0]) (n1 := 8) (cl1 := 7) (sl1 := 13) F (by omega) (q44_kind_7_8 (by omega) (by decide)) ⟨rfl, rfl, rfl⟩ wi_RX11_26 dX11_init_72 rfl rfl (Nat.le_of_ble_eq_true rfl) (by rw [hR.1, hR.2]; exact ⟨Nat.le_of_ble_eq_true rfl, Nat.le_of_ble_eq_true rfl⟩) (fun r23 h23 q23 => ?_)
  obtain ⟨rfl, fr23, hk23⟩ := q23
  have r0_24 : h23 0 = fun _ => (0 : Int) := (fr23 _ (by decide)).trans r0_22
  have r1_24 : h23 1 = mh_ur (mh_ur (mh_ur (mh_ur (mh_ur (fun _ => (0 : Int)) 0 (((2 : Nat) : Int) + 1)) 1 (((3 : Nat) : Int) + 1)) 2 (((4 : Nat) : Int) + 1)) 3 (((5 : Nat) : Int) + 1)) 4 (((6 : Nat) : Int) + 1) := (fr23 _ (by decide)).trans r1_22
  have r2_24 : h23 2 = mh_ur (fun _ => (0 : Int)) 0 0 := (fr23 _ (by decide)).trans r2_22
  have r3_24 : h23 3 = mh_ur (fun _ => (0 : Int)) 0 1 := (fr23 _ (by decide)).trans r3_22
  have r4_24 : h23 4 = mh_ur (fun _ => (0 : Int)) 0 2 := (fr23 _ (by decide)).trans r4_22
  have r5_24 : h23 5 = mh_ur (fun _ => (0 : Int)) 0 3 := (fr23 _ (by decide)).trans r5_22
  have r6_24 : h23 6 = mh_ur (fun _ => (0 : Int)) 0 4 := (fr23 _ (by decide)).trans r6_22
  have fr24 : mh_fr [7, 6, 5, 4, 3, 2, 1] h h23 := (mh_fr.tr fr22 fr23).mono (by simp)
  refine mh_aastore (pc := 75) F sh_1 sh_7 (by decide) rfl (by decide) (by decide) (by decide) (Or.inr kst_8) dX11_init_75 ?_
  refine mh_nmh (fun h25 e25 => ?_)
  have r0_25 : h25 0 = fun _ => (0 : Int) := by rw [e25, mh_up_row (by decide)]; exact r0_24
  have r1_25 : h25 1 = mh_ur (mh_ur (mh_ur (mh_ur (mh_ur (mh_ur (fun _ => (0 : Int)) 0 (((2 : Nat) : Int) + 1)) 1 (((3 : Nat) : Int) + 1)) 2 (((4 : Nat) : Int) + 1)) 3 (((5 : Nat) : Int) + 1)) 4 (((6 : Nat) : Int) + 1)) 5 (((7 : Nat) : Int) + 1) := by rw [e25, mh_up_rs, r1_24] <;> rfl
  have r2_25 : h25 2 = mh_ur (fun _ => (0 : Int)) 0 0 := by rw [e25, mh_up_row (by decide)]; exact r2_24
  have r3_25 : h25 3 = mh_ur (fun _ => (0 : Int)) 0 1 := by rw [e25, mh_up_row (by decide)]; exact r3_24
  have r4_25 : h25 4 = mh_ur (fun _ => (0 : Int)) 0 2 := by rw [e25, mh_up_row (by decide)]; exact r4_24
  have r5_25 : h25 5 = mh_ur (fun _ => (0 : Int)) 0 3 := by rw [e25, mh_up_row (by decide)]; exact r5_24
  have r6_25 : h25 6 = mh_ur (fun _ => (0 : Int)) 0 4 := by rw [e25, mh_up_row (by decide)]; exact r6_24
  have r7_25 : h25 7 = mh_ur (fun _ => (0 : Int)) 0 5 := by rw [e25, mh_up_row (by decide)]; exact (hk23.trans (by rw [r7_22]))
  have fr25 : mh_fr [7, 6, 5, 4, 3, 2, 1] h h25 := mh_fr.upi fr24 e25 (by simp)
  refine mh_dup (pc := 76) F dX11_init_76 rfl ?_
  refine mh_bipush (pc := 77) F dX11_init_77 rfl ?_
  refine mh_new (ci := 5) (n1 := 9) (cl1 := 8) (sl1 := 14) (pc := 79) F sh_8 (by decide) tw_1_83 tw_1_84 tw_1_8 ⟨rfl, rfl, rfl⟩ (by rw [hR.1, hR.2]; exact ⟨Nat.le_of_ble_eq_true rfl, Nat.le_of_ble_eq_true rfl⟩) dX11_init_79 ?_
  refine mh_nmh (fun h26 e26 => ?_)
  have r0_26 : h26 0 = fun _ => (0 : Int) := by rw [e26, mh_zr_row (by decide)]; exact r0_25
  have r1_26 : h26 1 = mh_ur (mh_ur (mh_ur (mh_ur (mh_ur (mh_ur (fun _ => (0 : Int)) 0 (((2 : Nat) : Int) + 1)) 1 (((3 : Nat) : Int) + 1)) 2 (((4 : Nat) : Int) + 1)) 3 (((5 : Nat) : Int) + 1)) 4 (((6 : Nat) : Int) + 1)) 5 (((7 : Nat) : Int) + 1) := by rw [e26, mh_zr_row (by decide)]; exact r1_25
  have r2_26 : h26 2 = mh_ur (fun _ => (0 : Int)) 0 0 := by rw [e26, mh_zr_row (by decide)]; exact r2_25
  have r3_26 : h26 3 = mh_ur (fun _ => (0 : Int)) 0 1 := by rw [e26, mh_zr_row (by decide)]; exact r3_25
  have r4_26 : h26 4 = mh_ur (fun _ => (0 : Int)) 0 2 := by rw [e26, mh_zr_row (by decide)]; exact r4_25
  have r5_26 : h26 5 = mh_ur (fun _ => (0 : Int)) 0 3 := by rw [e26, mh_zr_row (by decide)]; exact r5_25
  have r6_26 : h26 6 = mh_ur (fun _ => (0 : Int)) 0 4 := by rw [e26, mh_zr_row (by decide)]; exact r6_25
  have r7_26 : h26 7 = mh_ur (fun _ => (0 : Int)) 0 5 := by rw [e26, mh_zr_row (by decide)]; exact r7_25
  have r8_26 : h26 8 = fun _ => (0 : Int) := by rw [e26]; exact mh_zr_rs
  have fr26 : mh_fr [8, 7, 6, 5, 4, 3, 2, 1] h h26 := mh_fr.zr fr25 e26
  refine mh_dup (pc := 82) F dX11_init_82 rfl ?_
  refine mh_bipush (pc := 83) F dX11_init_83 rfl ?_
  refine mh_callIx (pc := 85) (As := [.int (Int32.ofInt (6))]) (st := [.ref 8, .int (Int32.ofInt (6)), .ref 1, .ref 1, .ref 0]) (n1 := 9) (cl1 := 8) (sl1 := 14) F (by omega) (q44_kind_8_5 (by omega) (by decide)) ⟨rfl, rfl, rfl⟩ wi_RX11_29 dX11_init_85 rfl rfl (Nat.le_of_ble_eq_true rfl) (by rw [hR.1, hR.2]; exact ⟨Nat.le_of_ble_eq_true rfl, Nat.le_of_ble_eq_true rfl⟩) (fun r27 h27 q27 => ?_)
  obtain ⟨rfl, fr27, hk27⟩ := q27
  have r0_28 : h27 0 = fun _ => (0 : Int) := (fr27 _ (by decide)).trans r0_26
  have r1_28 : h27 1 = mh_ur (mh_ur (mh_ur (mh_ur (mh_ur (mh_ur (fun _ => (0 : Int)) 0 (((2 : Nat) : Int) + 1)) 1 (((3 : Nat) : Int) + 1)) 2 (((4 : Nat) : Int) + 1)) 3 (((5 : Nat) : Int) + 1)) 4 (((6 : Nat) : Int) + 1)) 5 (((7 : Nat) : Int) + 1) := (fr27 _ (by decide)).trans r1_26
  have r2_28 : h27 2 = mh_ur (fun _ => (0 : Int)) 0 0 := (fr27 _ (by decide)).trans r2_26
  have r3_28 : h27 3 = mh_ur (fun _ => (0 : Int)) 0 1 := (fr27 _ (by decide)).trans r3_26
  have r4_28 : h27 4 = mh_ur (fun _ => (0 : Int)) 0 2 := (fr27 _ (by decide)).trans r4_26
  have r5_28 : h27 5 = mh_ur (fun _ => (0 : Int)) 0 3 := (fr27 _ (by decide)).trans r5_26
  have r6_28 : h27 6 = mh_ur (fun _ => (0 : Int)) 0 4 := (fr27 _ (by decide)).trans r6_26
  have r7_28 : h27 7 = mh_ur (fun _ => (0 : Int)) 0 5 := (fr27 _ (by decide)).trans r7_26
  have fr28 : mh_fr [8, 7, 6, 5, 4, 3, 2, 1] h h27 := (mh_fr.tr fr26 fr27).mono (by simp)
  refine mh_aastore (pc := 88) F sh_1 sh_8 (by decide) rfl (by decide) (by decide) (by decide) (Or.inr kst_5) dX11_init_88 ?_
  refine mh_nmh (fun h29 e29 => ?_)
  have r0_29 : h29 0 = fun _ => (0 : Int) := by rw [e29, mh_up_row (by decide)]; exact r0_28
  have r1_29 : h29 1 = mh_ur (mh_ur (mh_ur (mh_ur (mh_ur (mh_ur (mh_ur (fun _ => (0 : Int)) 0 (((2 : Nat) : Int) + 1)) 1 (((3 : Nat) : Int) + 1)) 2 (((4 : Nat) : Int) + 1)) 3 (((5 : Nat) : Int) + 1)) 4 (((6 : Nat) : Int) + 1)) 5 (((7 : Nat) : Int) + 1)) 6 (((8 : Nat) : Int) + 1) := by rw [e29, mh_up_rs, r1_28] <;> rfl
  have r2_29 : h29 2 = mh_ur (fun _ => (0 : Int)) 0 0 := by rw [e29, mh_up_row (by decide)]; exact r2_28
  have r3_29 : h29 3 = mh_ur (fun _ => (0 : Int)) 0 1 := by rw [e29, mh_up_row (by decide)]; exact r3_28
  have r4_29 : h29 4 = mh_ur (fun _ => (0 : Int)) 0 2 := by rw [e29, mh_up_row (by decide)]; exact r4_28
  have r5_29 : h29 5 = mh_ur (fun _ => (0 : Int)) 0 3 := by rw [e29, mh_up_row (by decide)]; exact r5_28
  have r6_29 : h29 6 = mh_ur (fun _ => (0 : Int)) 0 4 := by rw [e29, mh_up_row (by decide)]; exact r6_28
  have r7_29 : h29 7 = mh_ur (fun _ => (0 : Int)) 0 5 := by rw [e29, mh_up_row (by decide)]; exact r7_28
  have r8_29 : h29 8 = mh_ur (fun _ => (0 : Int)) 0 6 := by rw [e29, mh_up_row (by decide)]; exact (hk27.trans (by rw [r8_26]))
  have fr29 : mh_fr [8, 7, 6, 5, 4, 3, 2, 1] h h29 := mh_fr.upi fr28 e29 (by simp)
  refine mh_putFr (pc := 89) F hn0 sh_0 (by decide) qw_RX11_30_11 dX11_init_89 rfl ?_
  refine mh_nmh (fun h30 e30 => ?_)
  have r0_30 : h30 0 = mh_ur (fun _ => (0 : Int)) 3 (((1 : Nat) : Int) + 1) := by rw [e30, mh_up_rs, r0_29] <;> rfl
  have r1_30 : h30 1 = mh_ur (mh_ur (mh_ur (mh_ur (mh_ur (mh_ur (mh_ur (fun _ => (0 : Int)) 0 (((2 : Nat) : Int) + 1)) 1 (((3 : Nat) : Int) + 1)) 2 (((4 : Nat) : Int) + 1)) 3 (((5 : Nat) : Int) + 1)) 4 (((6 : Nat) : Int) + 1)) 5 (((7 : Nat) : Int) + 1)) 6 (((8 : Nat) : Int) + 1) := by rw [e30, mh_up_row (by decide)]; exact r1_29
  have r2_30 : h30 2 = mh_ur (fun _ => (0 : Int)) 0 0 := by rw [e30, mh_up_row (by decide)]; exact r2_29
  have r3_30 : h30 3 = mh_ur (fun _ => (0 : Int)) 0 1 := by rw [e30, mh_up_row (by decide)]; exact r3_29
  have r4_30 : h30 4 = mh_ur (fun _ => (0 : Int)) 0 2 := by rw [e30, mh_up_row (by decide)]; exact r4_29
  have r5_30 : h30 5 = mh_ur (fun _ => (0 : Int)) 0 3 := by rw [e30, mh_up_row (by decide)]; exact r5_29
  have r6_30 : h30 6 = mh_ur (fun _ => (0 : Int)) 0 4 := by rw [e30, mh_up_row (by decide)]; exact r6_29
  have r7_30 : h30 7 = mh_ur (fun _ => (0 : Int)) 0 5 := by rw [e30, mh_up_row (by decide)]; exact r7_29
  have r8_30 : h30 8 = mh_ur (fun _ => (0 : Int)) 0 6 := by rw [e30, mh_up_row (by decide)]; exact r8_29
  have fr30 : mh_fr [0, 8, 7, 6, 5, 4, 3, 2, 1] h h30 := mh_fr.up fr29 e30
  refine mh_aload0 (pc := 92) F dX11_init_92 ?_
  refine mh_bipush (pc := 93) F dX11_init_93 rfl ?_
  refine mh_anew (t := 4) (len := 6) (n1 := 10) (cl1 := 9) (sl1 := 20) (pc := 95) F sh_9 (by decide) rfl (by decide) rfl tw_1_91 F.kk.2.2.2.1 ⟨rfl, rfl, rfl⟩ (by rw [hR.1, hR.2]; exact ⟨Nat.le_of_ble_eq_true rfl, Nat.le_of_ble_eq_true rfl⟩) dX11_init_95 ?_
  refine mh_nmh (fun h31 e31 => ?_)
  have r0_31 : h31 0 = mh_ur (fun _ => (0 : Int)) 3 (((1 : Nat) : Int) + 1) := by rw [e31, mh_zr_row (by decide)]; exact r0_30
  have r1_31 : h31 1 = mh_ur (mh_ur (mh_ur (mh_ur (mh_ur (mh_ur (mh_ur (fun _ => (0 : Int)) 0 (((2 : Nat) : Int) + 1)) 1 (((3 : Nat) : Int) + 1)) 2 (((4 : Nat) : Int) + 1)) 3 (((5 : Nat) : Int) + 1)) 4 (((6 : Nat) : Int) + 1)) 5 (((7 : Nat) : Int) + 1)) 6 (((8 : Nat) : Int) + 1) := by rw [e31, mh_zr_row (by decide)]; exact r1_30
  have r2_31 : h31 2 = mh_ur (fun _ => (0 : Int)) 0 0 := by rw [e31, mh_zr_row (by decide)]; exact r2_30
  have r3_31 : h31 3 = mh_ur (fun _ => (0 : Int)) 0 1 := by rw [e31, mh_zr_row (by decide)]; exact r3_30
  have r4_31 : h31 4 = mh_ur (fun _ => (0 : Int)) 0 2 := by rw [e31, mh_zr_row (by decide)]; exact r4_30
  have r5_31 : h31 5 = mh_ur (fun _ => (0 : Int)) 0 3 := by rw [e31, mh_zr_row (by decide)]; exact r5_30
  have r6_31 : h31 6 = mh_ur (fun _ => (0 : Int)) 0 4 := by rw [e31, mh_zr_row (by decide)]; exact r6_30
  have r7_31 : h31 7 = mh_ur (fun _ => (0 : Int)) 0 5 := by rw [e31, mh_zr_row (by decide)]; exact r7_30
  have r8_31 : h31 8 = mh_ur (fun _ => (0 : Int)) 0 6 := by rw [e31, mh_zr_row (by decide)]; exact r8_30
  have r9_31 : h31 9 = fun _ => (0 : Int) := by rw [e31]; exact mh_zr_rs
  have fr31 : mh_fr [9, 0, 8, 7, 6, 5, 4, 3, 2, 1] h h31 := mh_fr.zr fr30 e31
  refine mh_putFr (pc := 98) F hn0 sh_0 (by decide) qw_RX11_38_11 dX11_init_98 rfl ?_
  refine mh_nmh (fun h32 e32 => ?_)
  have r0_32 : h32 0 = mh_ur (mh_ur (fun _ => (0 : Int)) 3 (((1 : Nat) : Int) + 1)) 4 (((9 : Nat) : Int) + 1) := by rw [e32, mh_up_rs, r0_31] <;> rfl
  have r1_32 : h32 1 = mh_ur (mh_ur (mh_ur (mh_ur (mh_ur (mh_ur (mh_ur (fun _ => (0 : Int)) 0 (((2 : Nat) : Int) + 1)) 1 (((3 : Nat) : Int) + 1)) 2 (((4 : Nat) : Int) + 1)) 3 (((5 : Nat) : Int) + 1)) 4 (((6 : Nat) : Int) + 1)) 5 (((7 : Nat) : Int) + 1)) 6 (((8 : Nat) : Int) + 1) := by rw [e32, mh_up_row (by decide)]; exact r1_31
  have r2_32 : h32 2 = mh_ur (fun _ => (0 : Int)) 0 0 := by rw [e32, mh_up_row (by decide)]; exact r2_31
  have r3_32 : h32 3 = mh_ur (fun _ => (0 : Int)) 0 1 := by rw [e32, mh_up_row (by decide)]; exact r3_31
  have r4_32 : h32 4 = mh_ur (fun _ => (0 : Int)) 0 2 := by rw [e32, mh_up_row (by decide)]; exact r4_31
  have r5_32 : h32 5 = mh_ur (fun _ => (0 : Int)) 0 3 := by rw [e32, mh_up_row (by decide)]; exact r5_31
  have r6_32 : h32 6 = mh_ur (fun _ => (0 : Int)) 0 4 := by rw [e32, mh_up_row (by decide)]; exact r6_31
  have r7_32 : h32 7 = mh_ur (fun _ => (0 : Int)) 0 5 := by rw [e32, mh_up_row (by decide)]; exact r7_31
  have r8_32 : h32 8 = mh_ur (fun _ => (0 : Int)) 0 6 := by rw [e32, mh_up_row (by decide)]; exact r8_31
  have r9_32 : h32 9 = fun _ => (0 : Int) := by rw [e32, mh_up_row (by decide)]; exact r9_31
  have fr32 : mh_fr [9, 0, 8, 7, 6, 5, 4, 3, 2, 1] h h32 := mh_fr.upi fr31 e32 (by simp)
  refine mh_aload0 (pc := 101) F dX11_init_101 ?_
  refine mh_new (ci := 6) (n1 := 11) (cl1 := 10) (sl1 := 31) (pc := 102) F sh_10 (by decide) tw_1_93 tw_1_94 tw_1_9 ⟨rfl, rfl, rfl⟩ (by rw [hR.1, hR.2]; exact ⟨Nat.le_of_ble_eq_true rfl, Nat.le_of_ble_eq_true rfl⟩) dX11_init_102 ?_
  refine mh_nmh (fun h33 e33 => ?_)
  have r0_33 : h33 0 = mh_ur (mh_ur (fun _ => (0 : Int)) 3 (((1 : Nat) : Int) + 1)) 4 (((9 : Nat) : Int) + 1) := by rw [e33, mh_zr_row (by decide)]; exact r0_32
  have r1_33 : h33 1 = mh_ur (mh_ur (mh_ur (mh_ur (mh_ur (mh_ur (mh_ur (fun _ => (0 : Int)) 0 (((2 : Nat) : Int) + 1)) 1 (((3 : Nat) : Int) + 1)) 2 (((4 : Nat) : Int) + 1)) 3 (((5 : Nat) : Int) + 1)) 4 (((6 : Nat) : Int) + 1)) 5 (((7 : Nat) : Int) + 1)) 6 (((8 : Nat) : Int) + 1) := by rw [e33, mh_zr_row (by decide)]; exact r1_32
  have r2_33 : h33 2 = mh_ur (fun _ => (0 : Int)) 0 0 := by rw [e33, mh_zr_row (by decide)]; exact r2_32
  have r3_33 : h33 3 = mh_ur (fun _ => (0 : Int)) 0 1 := by rw [e33, mh_zr_row (by decide)]; exact r3_32
  have r4_33 : h33 4 = mh_ur (fun _ => (0 : Int)) 0 2 := by rw [e33, mh_zr_row (by decide)]; exact r4_32
  have r5_33 : h33 5 = mh_ur (fun _ => (0 : Int)) 0 3 := by rw [e33, mh_zr_row (by decide)]; exact r5_32
  have r6_33 : h33 6 = mh_ur (fun _ => (0 : Int)) 0 4 := by rw [e33, mh_zr_row (by decide)]; exact r6_32
  have r7_33 : h33 7 = mh_ur (fun _ => (0 : Int)) 0 5 := by rw [e33, mh_zr_row (by decide)]; exact r7_32
  have r8_33 : h33 8 = mh_ur (fun _ => (0 : Int)) 0 6 := by rw [e33, mh_zr_row (by decide)]; exact r8_32
  have r9_33 : h33 9 = fun _ => (0 : Int) := by rw [e33, mh_zr_row (by decide)]; exact r9_32
  have r10_33 : h33 10 = fun _ => (0 : Int) := by rw [e33]; exact mh_zr_rs
  have fr33 : mh_fr [10, 9, 0, 8, 7, 6, 5, 4, 3, 2, 1] h h33 := mh_fr.zr fr32 e33
  refine mh_dup (pc := 105) F dX11_init_105 rfl ?_
  refine mh_callINx (pc := 106) (As := []) (st := [.ref 10, .ref 0]) (n1 := 16) (cl1 := 15) (sl1 := 7185) F (by omega) (q44_relays (by omega) r10_33) ⟨rfl, rfl, rfl⟩ wn_RX11_44 dX11_init_106 rfl rfl (Nat.le_of_ble_eq_true rfl) (by rw [hR.1, hR.2]; exact ⟨Nat.le_of_ble_eq_true rfl, Nat.le_of_ble_eq_true rfl⟩) (fun r34 h34 q34 => ?_)
  obtain ⟨rfl, fr34, hz34, -⟩ := q34
  have r0_35 : h34 0 = mh_ur (mh_ur (fun _ => (0 : Int)) 3 (((1 : Nat) : Int) + 1)) 4 (((9 : Nat) : Int) + 1) := (fr34 _ (by decide)).trans r0_33
  have r1_35 : h34 1 = mh_ur (mh_ur (mh_ur (mh_ur (mh_ur (mh_ur (mh_ur (fun _ => (0 : Int)) 0 (((2 : Nat) : Int) + 1)) 1 (((3 : Nat) : Int) + 1)) 2 (((4 : Nat) : Int) + 1)) 3 (((5 : Nat) : Int) + 1)) 4 (((6 : Nat) : Int) + 1)) 5 (((7 : Nat) : Int) + 1)) 6 (((8 : Nat) : Int) + 1) := (fr34 _ (by decide)).trans r1_33
  have r2_35 : h34 2 = mh_ur (fun _ => (0 : Int)) 0 0 := (fr34 _ (by decide)).trans r2_33
  have r3_35 : h34 3 = mh_ur (fun _ => (0 : Int)) 0 1 := (fr34 _ (by decide)).trans r3_33
  have r4_35 : h34 4 = mh_ur (fun _ => (0 : Int)) 0 2 := (fr34 _ (by decide)).trans r4_33
  have r5_35 : h34 5 = mh_ur (fun _ => (0 : Int)) 0 3 := (fr34 _ (by decide)).trans r5_33
  have r6_35 : h34 6 = mh_ur (fun _ => (0 : Int)) 0 4 := (fr34 _ (by decide)).trans r6_33
  have r7_35 : h34 7 = mh_ur (fun _ => (0 : Int)) 0 5 := (fr34 _ (by decide)).trans r7_33
  have r8_35 : h34 8 = mh_ur (fun _ => (0 : Int)) 0 6 := (fr34 _ (by decide)).trans r8_33
  have r9_35 : h34 9 = fun _ => (0 : Int) := (fr34 _ (by decide)).trans r9_33
  have fr35 : mh_fr [11, 12, 13, 14, 15, 10, 9, 0, 8, 7, 6, 5, 4, 3, 2, 1] h h34 := (mh_fr.tr fr33 fr34).mono (by simp)
  refine mh_putFr (pc := 109) F hn0 sh_0 (by decide) qw_RX11_45_11 dX11_init_109 rfl ?_
  refine mh_nmh (fun h36 e36 => ?_)
  have r0_36 : h36 0 = mh_ur (mh_ur (mh_ur (fun _ => (0 : Int)) 3 (((1 : Nat) : Int) + 1)) 4 (((9 : Nat) : Int) + 1)) 5 (((10 : Nat) : Int) + 1) := by rw [e36, mh_up_rs, r0_35] <;> rfl
  have r1_36 : h36 1 = mh_ur (mh_ur (mh_ur (mh_ur (mh_ur (mh_ur (mh_ur (fun _ => (0 : Int)) 0 (((2 : Nat) : Int) + 1)) 1 (((3 : Nat) : Int) + 1)) 2 (((4 : Nat) : Int) + 1)) 3 (((5 : Nat) : Int) + 1)) 4 (((6 : Nat) : Int) + 1)) 5 (((7 : Nat) : Int) + 1)) 6 (((8 : Nat) : Int) + 1) := by rw [e36, mh_up_row (by decide)]; exact r1_35
  have r2_36 : h36 2 = mh_ur (fun _ => (0 : Int)) 0 0 := by rw [e36, mh_up_row (by decide)]; exact r2_35
  have r3_36 : h36 3 = mh_ur (fun _ => (0 : Int)) 0 1 := by rw [e36, mh_up_row (by decide)]; exact r3_35
  have r4_36 : h36 4 = mh_ur (fun _ => (0 : Int)) 0 2 := by rw [e36, mh_up_row (by decide)]; exact r4_35
  have r5_36 : h36 5 = mh_ur (fun _ => (0 : Int)) 0 3 := by rw [e36, mh_up_row (by decide)]; exact r5_35
  have r6_36 : h36 6 = mh_ur (fun _ => (0 : Int)) 0 4 := by rw [e36, mh_up_row (by decide)]; exact r6_35
  have r7_36 : h36 7 = mh_ur (fun _ => (0 : Int)) 0 5 := by rw [e36, mh_up_row (by decide)]; exact r7_35
  have r8_36 : h36 8 = mh_ur (fun _ => (0 : Int)) 0 6 := by rw [e36, mh_up_row (by decide)]; exact r8_35
  have r9_36 : h36 9 = fun _ => (0 : Int) := by rw [e36, mh_up_row (by decide)]; exact r9_35
  have r10_36 : h36 10 = mh_ur (mh_ur (mh_ur (mh_ur (mh_ur (fun _ => (0 : Int)) 0 (((11 : Nat) : Int) + 1)) 1 (((12 : Nat) : Int) + 1)) 2 (((13 : Nat) : Int) + 1)) 3 (((14 : Nat) : Int) + 1)) 4 (((15 : Nat) : Int) + 1) := by rw [e36, mh_up_row (by decide)]; exact (hz34.trans (by rw [r10_33]))
  have fr36 : mh_fr [11, 12, 13, 14, 15, 10, 9, 0, 8, 7, 6, 5, 4, 3, 2, 1] h h36 := mh_fr.upi fr35 e36 (by simp)
  refine mh_aload0 (pc := 112) F dX11_init_112 ?_
  refine mh_bipush (pc := 113) F dX11_init_113 rfl ?_
  refine mh_newarr (t := 0) (len := 41) (n1 := 17) (cl1 := 16) (sl1 := 7226) (pc := 115) F sh_16 (by decide) (by decide) rfl rfl tw_1_134 ⟨rfl, rfl, rfl⟩ (by rw [hR.1, hR.2]; exact ⟨Nat.le_of_ble_eq_true rfl, Nat.le_of_ble_eq_true rfl⟩) dX11_init_115 ?_
  refine mh_nmh (fun h37 e37 => ?_)
  have r0_37 : h37 0 = mh_ur (mh_ur (mh_ur (fun _ => (0 : Int)) 3 (((1 : Nat) : Int) + 1)) 4 (((9 : Nat) : Int) + 1)) 5 (((10 : Nat) : Int) + 1) := by rw [e37, mh_zr_row (by decide)]; exact r0_36
  have r1_37 : h37 1 = mh_ur (mh_ur (mh_ur (mh_ur (mh_ur (mh_ur (mh_ur (fun _ => (0 : Int)) 0 (((2 : Nat) : Int) + 1)) 1 (((3 : Nat) : Int) + 1)) 2 (((4 : Nat) : Int) + 1)) 3 (((5 : Nat) : Int) + 1)) 4 (((6 : Nat) : Int) + 1)) 5 (((7 : Nat) : Int) + 1)) 6 (((8 : Nat) : Int) + 1) := by rw [e37, mh_zr_row (by decide)]; exact r1_36
  have r2_37 : h37 2 = mh_ur (fun _ => (0 : Int)) 0 0 := by rw [e37, mh_zr_row (by decide)]; exact r2_36
  have r3_37 : h37 3 = mh_ur (fun _ => (0 : Int)) 0 1 := by rw [e37, mh_zr_row (by decide)]; exact r3_36
  have r4_37 : h37 4 = mh_ur (fun _ => (0 : Int)) 0 2 := by rw [e37, mh_zr_row (by decide)]; exact r4_36
  have r5_37 : h37 5 = mh_ur (fun _ => (0 : Int)) 0 3 := by rw [e37, mh_zr_row (by decide)]; exact r5_36
  have r6_37 : h37 6 = mh_ur (fun _ => (0 : Int)) 0 4 := by rw [e37, mh_zr_row (by decide)]; exact r6_36
  have r7_37 : h37 7 = mh_ur (fun _ => (0 : Int)) 0 5 := by rw [e37, mh_zr_row (by decide)]; exact r7_36
  have r8_37 : h37 8 = mh_ur (fun _ => (0 : Int)) 0 6 := by rw [e37, mh_zr_row (by decide)]; exact r8_36
  have r9_37 : h37 9 = fun _ => (0 : Int) := by rw [e37, mh_zr_row (by decide)]; exact r9_36
  have r10_37 : h37 10 = mh_ur (mh_ur (mh_ur (mh_ur (mh_ur (fun _ => (0 : Int)) 0 (((11 : Nat) : Int) + 1)) 1 (((12 : Nat) : Int) + 1)) 2 (((13 : Nat) : Int) + 1)) 3 (((14 : Nat) : Int) + 1)) 4 (((15 : Nat) : Int) + 1) := by rw [e37, mh_zr_row (by decide)]; exact r10_36
  have r16_37 : h37 16 = fun _ => (0 : Int) := by rw [e37]; exact mh_zr_rs
  have fr37 : mh_fr [16, 11, 12, 13, 14, 15, 10, 9, 0, 8, 7, 6, 5, 4, 3, 2, 1] h h37 := mh_fr.zr fr36 e37
  refine mh_putFr (pc := 117) F hn0 sh_0 (by decide) qw_RX11_49_11 dX11_init_117 rfl ?_
  refine mh_nmh (fun h38 e38 => ?_)
  have r0_38 : h38 0 = mh_ur (mh_ur (mh_ur (mh_ur (fun _ => (0 : Int)) 3 (((1 : Nat) : Int) + 1)) 4 (((9 : Nat) : Int) + 1)) 5 (((10 : Nat) : Int) + 1)) 6 (((16 : Nat) : Int) + 1) := by rw [e38, mh_up_rs, r0_37] <;> rfl
  have r1_38 : h38 1 = mh_ur (mh_ur (mh_ur (mh_ur (mh_ur (mh_ur (mh_ur (fun _ => (0 : Int)) 0 (((2 : Nat) : Int) + 1)) 1 (((3 : Nat) : Int) + 1)) 2 (((4 : Nat) : Int) + 1)) 3 (((5 : Nat) : Int) + 1)) 4 (((6 : Nat) : Int) + 1)) 5 (((7 : Nat) : Int) + 1)) 6 (((8 : Nat) : Int) + 1) := by rw [e38, mh_up_row (by decide)]; exact r1_37
  have r2_38 : h38 2 = mh_ur (fun _ => (0 : Int)) 0 0 := by rw [e38, mh_up_row (by decide)]; exact r2_37
  have r3_38 : h38 3 = mh_ur (fun _ => (0 : Int)) 0 1 := by rw [e38, mh_up_row (by decide)]; exact r3_37
  have r4_38 : h38 4 = mh_ur (fun _ => (0 : Int)) 0 2 := by rw [e38, mh_up_row (by decide)]; exact r4_37
  have r5_38 : h38 5 = mh_ur (fun _ => (0 : Int)) 0 3 := by rw [e38, mh_up_row (by decide)]; exact r5_37
  have r6_38 : h38 6 = mh_ur (fun _ => (0 : Int)) 0 4 := by rw [e38, mh_up_row (by decide)]; exact r6_37
  have r7_38 : h38 7 = mh_ur (fun _ => (0 : Int)) 0 5 := by rw [e38, mh_up_row (by decide)]; exact r7_37
  have r8_38 : h38 8 = mh_ur (fun _ => (0 : Int)) 0 6 := by rw [e38, mh_up_row (by decide)]; exact r8_37
  have r9_38 : h38 9 = fun _ => (0 : Int) := by rw [e38, mh_up_row (by decide)]; exact r9_37
  have r10_38 : h38 10 = mh_ur (mh_ur (mh_ur (mh_ur (mh_ur (fun _ => (0 : Int)) 0 (((11 : Nat) : Int) + 1)) 1 (((12 : Nat) : Int) + 1)) 2 (((13 : Nat) : Int) + 1)) 3 (((14 : Nat) : Int) + 1)) 4 (((15 : Nat) : Int) + 1) := by rw [e38, mh_up_row (by decide)]; exact r10_37
  have r16_38 : h38 16 = fun _ => (0 : Int) := by rw [e38, mh_up_row (by decide)]; exact r16_37
  have fr38 : mh_fr [16, 11, 12, 13, 14, 15, 10, 9, 0, 8, 7, 6, 5, 4, 3, 2, 1] h h38 := mh_fr.upi fr37 e38 (by simp)
  refine mh_aload0 (pc := 120) F dX11_init_120 ?_
  refine mh_iconst (pc := 121) F dX11_init_121 ?_
  refine mh_bipush (pc := 122) F dX11_init_122 rfl ?_
  refine mh_multi (n1 := 22) (cl1 := 21) (sl1 := 7390) (pc := 124) F sh_17 (by decide +kernel) (by decide) tw_1_136 hAA ⟨rfl, rfl, rfl⟩ (by rw [hR.1, hR.2]; exact ⟨Nat.le_of_ble_eq_true rfl, Nat.le_of_ble_eq_true rfl⟩) dX11_init_124 ?_
  refine mh_nmh (fun h39 e39 => ?_)
  have r0_39 : h39 0 = mh_ur (mh_ur (mh_ur (mh_ur (fun _ => (0 : Int)) 3 (((1 : Nat) : Int) + 1)) 4 (((9 : Nat) : Int) + 1)) 5 (((10 : Nat) : Int) + 1)) 6 (((16 : Nat) : Int) + 1) := by rw [e39, mh_mz_row (by decide)]; exact r0_38
  have r1_39 : h39 1 = mh_ur (mh_ur (mh_ur (mh_ur (mh_ur (mh_ur (mh_ur (fun _ => (0 : Int)) 0 (((2 : Nat) : Int) + 1)) 1 (((3 : Nat) : Int) + 1)) 2 (((4 : Nat) : Int) + 1)) 3 (((5 : Nat) : Int) + 1)) 4 (((6 : Nat) : Int) + 1)) 5 (((7 : Nat) : Int) + 1)) 6 (((8 : Nat) : Int) + 1) := by rw [e39, mh_mz_row (by decide)]; exact r1_38
  have r2_39 : h39 2 = mh_ur (fun _ => (0 : Int)) 0 0 := by rw [e39, mh_mz_row (by decide)]; exact r2_38
  have r3_39 : h39 3 = mh_ur (fun _ => (0 : Int)) 0 1 := by rw [e39, mh_mz_row (by decide)]; exact r3_38
  have r4_39 : h39 4 = mh_ur (fun _ => (0 : Int)) 0 2 := by rw [e39, mh_mz_row (by decide)]; exact r4_38
  have r5_39 : h39 5 = mh_ur (fun _ => (0 : Int)) 0 3 := by rw [e39, mh_mz_row (by decide)]; exact r5_38
  have r6_39 : h39 6 = mh_ur (fun _ => (0 : Int)) 0 4 := by rw [e39, mh_mz_row (by decide)]; exact r6_38
  have r7_39 : h39 7 = mh_ur (fun _ => (0 : Int)) 0 5 := by rw [e39, mh_mz_row (by decide)]; exact r7_38
  have r8_39 : h39 8 = mh_ur (fun _ => (0 : Int)) 0 6 := by rw [e39, mh_mz_row (by decide)]; exact r8_38
  have r9_39 : h39 9 = fun _ => (0 : Int) := by rw [e39, mh_mz_row (by decide)]; exact r9_38
  have r10_39 : h39 10 = mh_ur (mh_ur (mh_ur (mh_ur (mh_ur (fun _ => (0 : Int)) 0 (((11 : Nat) : Int) + 1)) 1 (((12 : Nat) : Int) + 1)) 2 (((13 : Nat) : Int) + 1)) 3 (((14 : Nat) : Int) + 1)) 4 (((15 : Nat) : Int) + 1) := by rw [e39, mh_mz_row (by decide)]; exact r10_38
  have r16_39 : h39 16 = fun _ => (0 : Int) := by rw [e39, mh_mz_row (by decide)]; exact r16_38
  have r17_39 : h39 17 = fun j => if 0 ≤ j ∧ j < 4 then ((17 : Nat) : Int) + 1 + j + 1 else 0 := by rw [e39]; exact mh_mz_0
  have r18_39 : h39 18 = fun _ => (0 : Int) := by rw [e39]; exact mh_mz_i (by decide)
  have r19_39 : h39 19 = fun _ => (0 : Int) := by rw [e39]; exact mh_mz_i (by decide)
  have r20_39 : h39 20 = fun _ => (0 : Int) := by rw [e39]; exact mh_mz_i (by decide)
  have r21_39 : h39 21 = fun _ => (0 : Int) := by rw [e39]; exact mh_mz_i (by decide)
  have fr39 : mh_fr [17, 18, 19, 20, 21, 16, 11, 12, 13, 14, 15, 10, 9, 0, 8, 7, 6, 5, 4, 3, 2, 1] h h39 := mh_fr.mz fr38 e39
  refine mh_putFr (pc := 128) F hn0 sh_0 (by decide) qw_RX11_55_11 dX11_init_128 rfl ?_
  refine mh_nmh (fun h40 e40 => ?_)
  have r0_40 : h40 0 = mh_ur (mh_ur (mh_ur (mh_ur (mh_ur (fun _ => (0 : Int)) 3 (((1 : Nat) : Int) + 1)) 4 (((9 : Nat) : Int) + 1)) 5 (((10 : Nat) : Int) + 1)) 6 (((16 : Nat) : Int) + 1)) 7 (((17 : Nat) : Int) + 1) := by rw [e40, mh_up_rs, r0_39] <;> rfl
  have r1_40 : h40 1 = mh_ur (mh_ur (mh_ur (mh_ur (mh_ur (mh_ur (mh_ur (fun _ => (0 : Int)) 0 (((2 : Nat) : Int) + 1)) 1 (((3 : Nat) : Int) + 1)) 2 (((4 : Nat) : Int) + 1)) 3 (((5 : Nat) : Int) + 1)) 4 (((6 : Nat) : Int) + 1)) 5 (((7 : Nat) : Int) + 1)) 6 (((8 : Nat) : Int) + 1) := by rw [e40, mh_up_row (by decide)]; exact r1_39
  have r2_40 : h40 2 = mh_ur (fun _ => (0 : Int)) 0 0 := by rw [e40, mh_up_row (by decide)]; exact r2_39
  have r3_40 : h40 3 = mh_ur (fun _ => (0 : Int)) 0 1 := by rw [e40, mh_up_row (by decide)]; exact r3_39
  have r4_40 : h40 4 = mh_ur (fun _ => (0 : Int)) 0 2 := by rw [e40, mh_up_row (by decide)]; exact r4_39
  have r5_40 : h40 5 = mh_ur (fun _ => (0 : Int)) 0 3 := by rw [e40, mh_up_row (by decide)]; exact r5_39
  have r6_40 : h40 6 = mh_ur (fun _ => (0 : Int)) 0 4 := by rw [e40, mh_up_row (by decide)]; exact r6_39
  have r7_40 : h40 7 = mh_ur (fun _ => (0 : Int)) 0 5 := by rw [e40, mh_up_row (by decide)]; exact r7_39
  have r8_40 : h40 8 = mh_ur (fun _ => (0 : Int)) 0 6 := by rw [e40, mh_up_row (by decide)]; exact r8_39
  have r9_40 : h40 9 = fun _ => (0 : Int) := by rw [e40, mh_up_row (by decide)]; exact r9_39
  have r10_40 : h40 10 = mh_ur (mh_ur (mh_ur (mh_ur (mh_ur (fun _ => (0 : Int)) 0 (((11 : Nat) : Int) + 1)) 1 (((12 : Nat) : Int) + 1)) 2 (((13 : Nat) : Int) + 1)) 3 (((14 : Nat) : Int) + 1)) 4 (((15 : Nat) : Int) + 1) := by rw [e40, mh_up_row (by decide)]; exact r10_39
  have r16_40 : h40 16 = fun _ => (0 : Int) := by rw [e40, mh_up_row (by decide)]; exact r16_39
  have r17_40 : h40 17 = fun j => if 0 ≤ j ∧ j < 4 then ((17 : Nat) : Int) + 1 + j + 1 else 0 := by rw [e40, mh_up_row (by decide)]; exact r17_39
  have r18_40 : h40 18 = fun _ => (0 : Int) := by rw [e40, mh_up_row (by decide)]; exact r18_39
  have r19_40 : h40 19 = fun _ => (0 : Int) := by rw [e40, mh_up_row (by decide)]; exact r19_39
  have r20_40 : h40 20 = fun _ => (0 : Int) := by rw [e40, mh_up_row (by decide)]; exact r20_39
  have r21_40 : h40 21 = fun _ => (0 : Int) := by rw [e40, mh_up_row (by decide)]; exact r21_39
  have fr40 : mh_fr [17, 18, 19, 20, 21, 16, 11, 12, 13, 14, 15, 10, 9, 0, 8, 7, 6, 5, 4, 3, 2, 1] h h40 := mh_fr.upi fr39 e40 (by simp)
  refine mh_aload0 (pc := 131) F dX11_init_131 ?_
  refine mh_iconst (pc := 132) F dX11_init_132 ?_
  refine mh_newarr (t := 0) (len := 4) (n1 := 23) (cl1 := 22) (sl1 := 7394) (pc := 133) F sh_22 (by decide) (by decide) rfl rfl tw_1_134 ⟨rfl, rfl, rfl⟩ (by rw [hR.1, hR.2]; exact ⟨Nat.le_of_ble_eq_true rfl, Nat.le_of_ble_eq_true rfl⟩) dX11_init_133 ?_
  refine mh_nmh (fun h41 e41 => ?_)
  have r0_41 : h41 0 = mh_ur (mh_ur (mh_ur (mh_ur (mh_ur (fun _ => (0 : Int)) 3 (((1 : Nat) : Int) + 1)) 4 (((9 : Nat) : Int) + 1)) 5 (((10 : Nat) : Int) + 1)) 6 (((16 : Nat) : Int) + 1)) 7 (((17 : Nat) : Int) + 1) := by rw [e41, mh_zr_row (by decide)]; exact r0_40
  have r1_41 : h41 1 = mh_ur (mh_ur (mh_ur (mh_ur (mh_ur (mh_ur (mh_ur (fun _ => (0 : Int)) 0 (((2 : Nat) : Int) + 1)) 1 (((3 : Nat) : Int) + 1)) 2 (((4 : Nat) : Int) + 1)) 3 (((5 : Nat) : Int) + 1)) 4 (((6 : Nat) : Int) + 1)) 5 (((7 : Nat) : Int) + 1)) 6 (((8 : Nat) : Int) + 1) := by rw [e41, mh_zr_row (by decide)]; exact r1_40
  have r2_41 : h41 2 = mh_ur (fun _ => (0 : Int)) 0 0 := by rw [e41, mh_zr_row (by decide)]; exact r2_40
  have r3_41 : h41 3 = mh_ur (fun _ => (0 : Int)) 0 1 := by rw [e41, mh_zr_row (by decide)]; exact r3_40
  have r4_41 : h41 4 = mh_ur (fun _ => (0 : Int)) 0 2 := by rw [e41, mh_zr_row (by decide)]; exact r4_40
  have r5_41 : h41 5 = mh_ur (fun _ => (0 : Int)) 0 3 := by rw [e41, mh_zr_row (by decide)]; exact r5_40
  have r6_41 : h41 6 = mh_ur (fun _ => (0 : Int)) 0 4 := by rw [e41, mh_zr_row (by decide)]; exact r6_40
  have r7_41 : h41 7 = mh_ur (fun _ => (0 : Int)) 0 5 := by rw [e41, mh_zr_row (by decide)]; exact r7_40
  have r8_41 : h41 8 = mh_ur (fun _ => (0 : Int)) 0 6 := by rw [e41, mh_zr_row (by decide)]; exact r8_40
  have r9_41 : h41 9 = fun _ => (0 : Int) := by rw [e41, mh_zr_row (by decide)]; exact r9_40
  have r10_41 : h41 10 = mh_ur (mh_ur (mh_ur (mh_ur (mh_ur (fun _ => (0 : Int)) 0 (((11 : Nat) : Int) + 1)) 1 (((12 : Nat) : Int) + 1)) 2 (((13 : Nat) : Int) + 1)) 3 (((14 : Nat) : Int) + 1)) 4 (((15 : Nat) : Int) + 1) := by rw [e41, mh_zr_row (by decide)]; exact r10_40
  have r16_41 : h41 16 = fun _ => (0 : Int) := by rw [e41, mh_zr_row (by decide)]; exact r16_40
  have r17_41 : h41 17 = fun j => if 0 ≤ j ∧ j < 4 then ((17 : Nat) : Int) + 1 + j + 1 else 0 := by rw [e41, mh_zr_row (by decide)]; exact r17_40
  have r18_41 : h41 18 = fun _ => (0 : Int) := by rw [e41, mh_zr_row (by decide)]; exact r18_40
  have r19_41 : h41 19 = fun _ => (0 : Int) := by rw [e41, mh_zr_row (by decide)]; exact r19_40
  have r20_41 : h41 20 = fun _ => (0 : Int) := by rw [e41, mh_zr_row (by decide)]; exact r20_40
  have r21_41 : h41 21 = fun _ => (0 : Int) := by rw [e41, mh_zr_row (by decide)]; exact r21_40
  have r22_41 : h41 22 = fun _ => (0 : Int) := by rw [e41]; exact mh_zr_rs
  have fr41 : mh_fr [22, 17, 18, 19, 20, 21, 16, 11, 12, 13, 14, 15, 10, 9, 0, 8, 7, 6, 5, 4, 3, 2, 1] h h41 := mh_fr.zr fr40 e41
  refine mh_putFr (pc := 135) F hn0 sh_0 (by decide) qw_RX11_58_11 dX11_init_135 rfl ?_
  refine mh_nmh (fun h42 e42 => ?_)
  have r0_42 : h42 0 = mh_ur (mh_ur (mh_ur (mh_ur (mh_ur (mh_ur (fun _ => (0 : Int)) 3 (((1 : Nat) : Int) + 1)) 4 (((9 : Nat) : Int) + 1)) 5 (((10 : Nat) : Int) + 1)) 6 (((16 : Nat) : Int) + 1)) 7 (((17 : Nat) : Int) + 1)) 8 (((22 : Nat) : Int) + 1) := by rw [e42, mh_up_rs, r0_41] <;> rfl
  have r1_42 : h42 1 = mh_ur (mh_ur (mh_ur (mh_ur (mh_ur (mh_ur (mh_ur (fun _ => (0 : Int)) 0 (((2 : Nat) : Int) + 1)) 1 (((3 : Nat) : Int) + 1)) 2 (((4 : Nat) : Int) + 1)) 3 (((5 : Nat) : Int) + 1)) 4 (((6 : Nat) : Int) + 1)) 5 (((7 : Nat) : Int) + 1)) 6 (((8 : Nat) : Int) + 1) := by rw [e42, mh_up_row (by decide)]; exact r1_41
  have r2_42 : h42 2 = mh_ur (fun _ => (0 : Int)) 0 0 := by rw [e42, mh_up_row (by decide)]; exact r2_41
  have r3_42 : h42 3 = mh_ur (fun _ => (0 : Int)) 0 1 := by rw [e42, mh_up_row (by decide)]; exact r3_41
  have r4_42 : h42 4 = mh_ur (fun _ => (0 : Int)) 0 2 := by rw [e42, mh_up_row (by decide)]; exact r4_41
  have r5_42 : h42 5 = mh_ur (fun _ => (0 : Int)) 0 3 := by rw [e42, mh_up_row (by decide)]; exact r5_41
  have r6_42 : h42 6 = mh_ur (fun _ => (0 : Int)) 0 4 := by rw [e42, mh_up_row (by decide)]; exact r6_41
  have r7_42 : h42 7 = mh_ur (fun _ => (0 : Int)) 0 5 := by rw [e42, mh_up_row (by decide)]; exact r7_41
  have r8_42 : h42 8 = mh_ur (fun _ => (0 : Int)) 0 6 := by rw [e42, mh_up_row (by decide)]; exact r8_41
  have r9_42 : h42 9 = fun _ => (0 : Int) := by rw [e42, mh_up_row (by decide)]; exact r9_41
  have r10_42 : h42 10 = mh_ur (mh_ur (mh_ur (mh_ur (mh_ur (fun _ => (0 : Int)) 0 (((11 : Nat) : Int) + 1)) 1 (((12 : Nat) : Int) + 1)) 2 (((13 : Nat) : Int) + 1)) 3 (((14 : Nat) : Int) + 1)) 4 (((15 : Nat) : Int) + 1) := by rw [e42, mh_up_row (by decide)]; exact r10_41
  have r16_42 : h42 16 = fun _ => (0 : Int) := by rw [e42, mh_up_row (by decide)]; exact r16_41
  have r17_42 : h42 17 = fun j => if 0 ≤ j ∧ j < 4 then ((17 : Nat) : Int) + 1 + j + 1 else 0 := by rw [e42, mh_up_row (by decide)]; exact r17_41
  have r18_42 : h42 18 = fun _ => (0 : Int) := by rw [e42, mh_up_row (by decide)]; exact r18_41
  have r19_42 : h42 19 = fun _ => (0 : Int) := by rw [e42, mh_up_row (by decide)]; exact r19_41
  have r20_42 : h42 20 = fun _ => (0 : Int) := by rw [e42, mh_up_row (by decide)]; exact r20_41
  have r21_42 : h42 21 = fun _ => (0 : Int) := by rw [e42, mh_up_row (by decide)]; exact r21_41
  have r22_42 : h42 22 = fun _ => (0 : Int) := by rw [e42, mh_up_row (by decide)]; exact r22_41
  have fr42 : mh_fr [22, 17, 18, 19, 20, 21, 16, 11, 12, 13, 14, 15, 10, 9, 0, 8, 7, 6, 5, 4, 3, 2, 1] h h42 := mh_fr.upi fr41 e42 (by simp)
  refine mh_aload0 (pc := 138) F dX11_init_138 ?_
  refine mh_iconst (pc := 139) F dX11_init_139 ?_
  refine mh_newarr (t := 0) (len := 4) (n1 := 24) (cl1 := 23) (sl1 := 7398) (pc := 140) F sh_23 (by decide) (by decide) rfl rfl tw_1_134 ⟨rfl, rfl, rfl⟩ (by rw [hR.1, hR.2]; exact ⟨Nat.le_of_ble_eq_true rfl, Nat.le_of_ble_eq_true rfl⟩) dX11_init_140 ?_
  refine mh_nmh (fun h43 e43 => ?_)
  have r0_43 : h43 0 = mh_ur (mh_ur (mh_ur (mh_ur (mh_ur (mh_ur (fun _ => (0 : Int)) 3 (((1 : Nat) : Int) + 1)) 4 (((9 : Nat) : Int) + 1)) 5 (((10 : Nat) : Int) + 1)) 6 (((16 : Nat) : Int) + 1)) 7 (((17 : Nat) : Int) + 1)) 8 (((22 : Nat) : Int) + 1) := by rw [e43, mh_zr_row (by decide)]; exact r0_42
  have r1_43 : h43 1 = mh_ur (mh_ur (mh_ur (mh_ur (mh_ur (mh_ur (mh_ur (fun _ => (0 : Int)) 0 (((2 : Nat) : Int) + 1)) 1 (((3 : Nat) : Int) + 1)) 2 (((4 : Nat) : Int) + 1)) 3 (((5 : Nat) : Int) + 1)) 4 (((6 : Nat) : Int) + 1)) 5 (((7 : Nat) : Int) + 1)) 6 (((8 : Nat) : Int) + 1) := by rw [e43, mh_zr_row (by decide)]; exact r1_42
  have r2_43 : h43 2 = mh_ur (fun _ => (0 : Int)) 0 0 := by rw [e43, mh_zr_row (by decide)]; exact r2_42
  have r3_43 : h43 3 = mh_ur (fun _ => (0 : Int)) 0 1 := by rw [e43, mh_zr_row (by decide)]; exact r3_42
  have r4_43 : h43 4 = mh_ur (fun _ => (0 : Int)) 0 2 := by rw [e43, mh_zr_row (by decide)]; exact r4_42
  have r5_43 : h43 5 = mh_ur (fun _ => (0 : Int)) 0 3 := by rw [e43, mh_zr_row (by decide)]; exact r5_42
  have r6_43 : h43 6 = mh_ur (fun _ => (0 : Int)) 0 4 := by rw [e43, mh_zr_row (by decide)]; exact r6_42
  have r7_43 : h43 7 = mh_ur (fun _ => (0 : Int)) 0 5 := by rw [e43, mh_zr_row (by decide)]; exact r7_42
  have r8_43 : h43 8 = mh_ur (fun _ => (0 : Int)) 0 6 := by rw [e43, mh_zr_row (by decide)]; exact r8_42
  have r9_43 : h43 9 = fun _ => (0 : Int) := by rw [e43, mh_zr_row (by decide)]; exact r9_42
  have r10_43 : h43 10 = mh_ur (mh_ur (mh_ur (mh_ur (mh_ur (fun _ => (0 : Int)) 0 (((11 : Nat) : Int) + 1)) 1 (((12 : Nat) : Int) + 1)) 2 (((13 : Nat) : Int) + 1)) 3 (((14 : Nat) : Int) + 1)) 4 (((15 : Nat) : Int) + 1) := by rw [e43, mh_zr_row (by decide)]; exact r10_42
  have r16_43 : h43 16 = fun _ => (0 : Int) := by rw [e43, mh_zr_row (by decide)]; exact r16_42
  have r17_43 : h43 17 = fun j => if 0 ≤ j ∧ j < 4 then ((17 : Nat) : Int) + 1 + j + 1 else 0 := by rw [e43, mh_zr_row (by decide)]; exact r17_42
  have r18_43 : h43 18 = fun _ => (0 : Int) := by rw [e43, mh_zr_row (by decide)]; exact r18_42
  have r19_43 : h43 19 = fun _ => (0 : Int) := by rw [e43, mh_zr_row (by decide)]; exact r19_42
  have r20_43 : h43 20 = fun _ => (0 : Int) := by rw [e43, mh_zr_row (by decide)]; exact r20_42
  have r21_43 : h43 21 = fun _ => (0 : Int) := by rw [e43, mh_zr_row (by decide)]; exact r21_42
  have r22_43 : h43 22 = fun _ => (0 : Int) := by rw [e43, mh_zr_row (by decide)]; exact r22_42
  have r23_43 : h43 23 = fun _ => (0 : Int) := by rw [e43]; exact mh_zr_rs
  have fr43 : mh_fr [23, 22, 17, 18, 19, 20, 21, 16, 11, 12, 13, 14, 15, 10, 9, 0, 8, 7, 6, 5, 4, 3, 2, 1] h h43 := mh_fr.zr fr42 e43
  refine mh_putFr (pc := 142) F hn0 sh_0 (by decide) qw_RX11_61_11 dX11_init_142 rfl ?_
  refine mh_nmh (fun h44 e44 => ?_)
  have r0_44 : h44 0 = mh_ur (mh_ur (mh_ur (mh_ur (mh_ur (mh_ur (mh_ur (fun _ => (0 : Int)) 3 (((1 : Nat) : Int) + 1)) 4 (((9 : Nat) : Int) + 1)) 5 (((10 : Nat) : Int) + 1)) 6 (((16 : Nat) : Int) + 1)) 7 (((17 : Nat) : Int) + 1)) 8 (((22 : Nat) : Int) + 1)) 9 (((23 : Nat) : Int) + 1) := by rw [e44, mh_up_rs, r0_43] <;> rfl
  have r1_44 : h44 1 = mh_ur (mh_ur (mh_ur (mh_ur (mh_ur (mh_ur (mh_ur (fun _ => (0 : Int)) 0 (((2 : Nat) : Int) + 1)) 1 (((3 : Nat) : Int) + 1)) 2 (((4 : Nat) : Int) + 1)) 3 (((5 : Nat) : Int) + 1)) 4 (((6 : Nat) : Int) + 1)) 5 (((7 : Nat) : Int) + 1)) 6 (((8 : Nat) : Int) + 1) := by rw [e44, mh_up_row (by decide)]; exact r1_43
  have r2_44 : h44 2 = mh_ur (fun _ => (0 : Int)) 0 0 := by rw [e44, mh_up_row (by decide)]; exact r2_43
  have r3_44 : h44 3 = mh_ur (fun _ => (0 : Int)) 0 1 := by rw [e44, mh_up_row (by decide)]; exact r3_43
  have r4_44 : h44 4 = mh_ur (fun _ => (0 : Int)) 0 2 := by rw [e44, mh_up_row (by decide)]; exact r4_43
  have r5_44 : h44 5 = mh_ur (fun _ => (0 : Int)) 0 3 := by rw [e44, mh_up_row (by decide)]; exact r5_43
  have r6_44 : h44 6 = mh_ur (fun _ => (0 : Int)) 0 4 := by rw [e44, mh_up_row (by decide)]; exact r6_43
  have r7_44 : h44 7 = mh_ur (fun _ => (0 : Int)) 0 5 := by rw [e44, mh_up_row (by decide)]; exact r7_43
  have r8_44 : h44 8 = mh_ur (fun _ => (0 : Int)) 0 6 := by rw [e44, mh_up_row (by decide)]; exact r8_43
  have r9_44 : h44 9 = fun _ => (0 : Int) := by rw [e44, mh_up_row (by decide)]; exact r9_43
  have r10_44 : h44 10 = mh_ur (mh_ur (mh_ur (mh_ur (mh_ur (fun _ => (0 : Int)) 0 (((11 : Nat) : Int) + 1)) 1 (((12 : Nat) : Int) + 1)) 2 (((13 : Nat) : Int) + 1)) 3 (((14 : Nat) : Int) + 1)) 4 (((15 : Nat) : Int) + 1) := by rw [e44, mh_up_row (by decide)]; exact r10_43
  have r16_44 : h44 16 = fun _ => (0 : Int) := by rw [e44, mh_up_row (by decide)]; exact r16_43
  have r17_44 : h44 17 = fun j => if 0 ≤ j ∧ j < 4 then ((17 : Nat) : Int) + 1 + j + 1 else 0 := by rw [e44, mh_up_row (by decide)]; exact r17_43
  have r18_44 : h44 18 = fun _ => (0 : Int) := by rw [e44, mh_up_row (by decide)]; exact r18_43
  have r19_44 : h44 19 = fun _ => (0 : Int) := by rw [e44, mh_up_row (by decide)]; exact r19_43
  have r20_44 : h44 20 = fun _ => (0 : Int) := by rw [e44, mh_up_row (by decide)]; exact r20_43
  have r21_44 : h44 21 = fun _ => (0 : Int) := by rw [e44, mh_up_row (by decide)]; exact r21_43
  have r22_44 : h44 22 = fun _ => (0 : Int) := by rw [e44, mh_up_row (by decide)]; exact r22_43
  have r23_44 : h44 23 = fun _ => (0 : Int) := by rw [e44, mh_up_row (by decide)]; exact r23_43
  have fr44 : mh_fr [23, 22, 17, 18, 19, 20, 21, 16, 11, 12, 13, 14, 15, 10, 9, 0, 8, 7, 6, 5, 4, 3, 2, 1] h h44 := mh_fr.upi fr43 e44 (by simp)
  refine mh_aload0 (pc := 145) F dX11_init_145 ?_
  refine mh_bipush (pc := 146) F dX11_init_146 rfl ?_
  refine mh_newarr (t := 0) (len := 6) (n1 := 25) (cl1 := 24) (sl1 := 7404) (pc := 148) F sh_24 (by decide) (by decide) rfl rfl tw_1_134 ⟨rfl, rfl, rfl⟩ (by rw [hR.1, hR.2]; exact ⟨Nat.le_of_ble_eq_true rfl, Nat.le_of_ble_eq_true rfl⟩) dX11_init_148 ?_
  refine mh_nmh (fun h45 e45 => ?_)
  have r0_45 : h45 0 = mh_ur (mh_ur (mh_ur (mh_ur (mh_ur (mh_ur (mh_ur (fun _ => (0 : Int)) 3 (((1 : Nat) : Int) + 1)) 4 (((9 : Nat) : Int) + 1)) 5 (((10 : Nat) : Int) + 1)) 6 (((16 : Nat) : Int) + 1)) 7 (((17 : Nat) : Int) + 1)) 8 (((22 : Nat) : Int) + 1)) 9 (((23 : Nat) : Int) + 1) := by rw [e45, mh_zr_row (by decide)]; exact r0_44
  have r1_45 : h45 1 = mh_ur (mh_ur (mh_ur (mh_ur (mh_ur (mh_ur (mh_ur (fun _ => (0 : Int)) 0 (((2 : Nat) : Int) + 1)) 1 (((3 : Nat) : Int) + 1)) 2 (((4 : Nat) : Int) + 1)) 3 (((5 : Nat) : Int) + 1)) 4 (((6 : Nat) : Int) + 1)) 5 (((7 : Nat) : Int) + 1)) 6 (((8 : Nat) : Int) + 1) := by rw [e45, mh_zr_row (by decide)]; exact r1_44
  have r2_45 : h45 2 = mh_ur (fun _ => (0 : Int)) 0 0 := by rw [e45, mh_zr_row (by decide)]; exact r2_44
  have r3_45 : h45 3 = mh_ur (fun _ => (0 : Int)) 0 1 := by rw [e45, mh_zr_row (by decide)]; exact r3_44
  have r4_45 : h45 4 = mh_ur (fun _ => (0 : Int)) 0 2 := by rw [e45, mh_zr_row (by decide)]; exact r4_44
  have r5_45 : h45 5 = mh_ur (fun _ => (0 : Int)) 0 3 := by rw [e45, mh_zr_row (by decide)]; exact r5_44
  have r6_45 : h45 6 = mh_ur (fun _ => (0 : Int)) 0 4 := by rw [e45, mh_zr_row (by decide)]; exact r6_44
  have r7_45 : h45 7 = mh_ur (fun _ => (0 : Int)) 0 5 := by rw [e45, mh_zr_row (by decide)]; exact r7_44
  have r8_45 : h45 8 = mh_ur (fun _ => (0 : Int)) 0 6 := by rw [e45, mh_zr_row (by decide)]; exact r8_44
  have r9_45 : h45 9 = fun _ => (0 : Int) := by rw [e45, mh_zr_row (by decide)]; exact r9_44
  have r10_45 : h45 10 = mh_ur (mh_ur (mh_ur (mh_ur (mh_ur (fun _ => (0 : Int)) 0 (((11 : Nat) : Int) + 1)) 1 (((12 : Nat) : Int) + 1)) 2 (((13 : Nat) : Int) + 1)) 3 (((14 : Nat) : Int) + 1)) 4 (((15 : Nat) : Int) + 1) := by rw [e45, mh_zr_row (by decide)]; exact r10_44
  have r16_45 : h45 16 = fun _ => (0 : Int) := by rw [e45, mh_zr_row (by decide)]; exact r16_44
  have r17_45 : h45 17 = fun j => if 0 ≤ j ∧ j < 4 then ((17 : Nat) : Int) + 1 + j + 1 else 0 := by rw [e45, mh_zr_row (by decide)]; exact r17_44
  have r18_45 : h45 18 = fun _ => (0 : Int) := by rw [e45, mh_zr_row (by decide)]; exact r18_44
  have r19_45 : h45 19 = fun _ => (0 : Int) := by rw [e45, mh_zr_row (by decide)]; exact r19_44
  have r20_45 : h45 20 = fun _ => (0 : Int) := by rw [e45, mh_zr_row (by decide)]; exact r20_44
  have r21_45 : h45 21 = fun _ => (0 : Int) := by rw [e45, mh_zr_row (by decide)]; exact r21_44
  have r22_45 : h45 22 = fun _ => (0 : Int) := by rw [e45, mh_zr_row (by decide)]; exact r22_44
  have r23_45 : h45 23 = fun _ => (0 : Int) := by rw [e45, mh_zr_row (by decide)]; exact r23_44
  have r24_45 : h45 24 = fun _ => (0 : Int) := by rw [e45]; exact mh_zr_rs
  have fr45 : mh_fr [24, 23, 22, 17, 18, 19, 20, 21, 16, 11, 12, 13, 14, 15, 10, 9, 0, 8, 7, 6, 5, 4, 3, 2, 1] h h45 := mh_fr.zr fr44 e45
  refine mh_putFr (pc := 150) F hn0 sh_0 (by decide) qw_RX11_64_11 dX11_init_150 rfl ?_
  refine mh_nmh (fun h46 e46 => ?_)
  have r0_46 : h46 0 = mh_ur (mh_ur (mh_ur (mh_ur (mh_ur (mh_ur (mh_ur (mh_ur (fun _ => (0 : Int)) 3 (((1 : Nat) : Int) + 1)) 4 (((9 : Nat) : Int) + 1)) 5 (((10 : Nat) : Int) + 1)) 6 (((16 : Nat) : Int) + 1)) 7 (((17 : Nat) : Int) + 1)) 8 (((22 : Nat) : Int) + 1)) 9 (((23 : Nat) : Int) + 1)) 10 (((24 : Nat) : Int) + 1) := by rw [e46, mh_up_rs, r0_45] <;> rfl
  have r1_46 : h46 1 = mh_ur (mh_ur (mh_ur (mh_ur (mh_ur (mh_ur (mh_ur (fun _ => (0 : Int)) 0 (((2 : Nat) : Int) + 1)) 1 (((3 : Nat) : Int) + 1)) 2 (((4 : Nat) : Int) + 1)) 3 (((5 : Nat) : Int) + 1)) 4 (((6 : Nat) : Int) + 1)) 5 (((7 : Nat) : Int) + 1)) 6 (((8 : Nat) : Int) + 1) := by rw [e46, mh_up_row (by decide)]; exact r1_45
  have r2_46 : h46 2 = mh_ur (fun _ => (0 : Int)) 0 0 := by rw [e46, mh_up_row (by decide)]; exact r2_45
  have r3_46 : h46 3 = mh_ur (fun _ => (0 : Int)) 0 1 := by rw [e46, mh_up_row (by decide)]; exact r3_45
  have r4_46 : h46 4 = mh_ur (fun _ => (0 : Int)) 0 2 := by rw [e46, mh_up_row (by decide)]; exact r4_45
  have r5_46 : h46 5 = mh_ur (fun _ => (0 : Int)) 0 3 := by rw [e46, mh_up_row (by decide)]; exact r5_45
  have r6_46 : h46 6 = mh_ur (fun _ => (0 : Int)) 0 4 := by rw [e46, mh_up_row (by decide)]; exact r6_45
  have r7_46 : h46 7 = mh_ur (fun _ => (0 : Int)) 0 5 := by rw [e46, mh_up_row (by decide)]; exact r7_45
  have r8_46 : h46 8 = mh_ur (fun _ => (0 : Int)) 0 6 := by rw [e46, mh_up_row (by decide)]; exact r8_45
  have r9_46 : h46 9 = fun _ => (0 : Int) := by rw [e46, mh_up_row (by decide)]; exact r9_45
  have r10_46 : h46 10 = mh_ur (mh_ur (mh_ur (mh_ur (mh_ur (fun _ => (0 : Int)) 0 (((11 : Nat) : Int) + 1)) 1 (((12 : Nat) : Int) + 1)) 2 (((13 : Nat) : Int) + 1)) 3 (((14 : Nat) : Int) + 1)) 4 (((15 : Nat) : Int) + 1) := by rw [e46, mh_up_row (by decide)]; exact r10_45
  have r16_46 : h46 16 = fun _ => (0 : Int) := by rw [e46, mh_up_row (by decide)]; exact r16_45
  have r17_46 : h46 17 = fun j => if 0 ≤ j ∧ j < 4 then ((17 : Nat) : Int) + 1 + j + 1 else 0 := by rw [e46, mh_up_row (by decide)]; exact r17_45
  have r18_46 : h46 18 = fun _ => (0 : Int) := by rw [e46, mh_up_row (by decide)]; exact r18_45
  have r19_46 : h46 19 = fun _ => (0 : Int) := by rw [e46, mh_up_row (by decide)]; exact r19_45
  have r20_46 : h46 20 = fun _ => (0 : Int) := by rw [e46, mh_up_row (by decide)]; exact r20_45
  have r21_46 : h46 21 = fun _ => (0 : Int) := by rw [e46, mh_up_row (by decide)]; exact r21_45
  have r22_46 : h46 22 = fun _ => (0 : Int) := by rw [e46, mh_up_row (by decide)]; exact r22_45
  have r23_46 : h46 23 = fun _ => (0 : Int) := by rw [e46, mh_up_row (by decide)]; exact r23_45
  have r24_46 : h46 24 = fun _ => (0 : Int) := by rw [e46, mh_up_row (by decide)]; exact r24_45
  have fr46 : mh_fr [24, 23, 22, 17, 18, 19, 20, 21, 16, 11, 12, 13, 14, 15, 10, 9, 0, 8, 7, 6, 5, 4, 3, 2, 1] h h46 := mh_fr.upi fr45 e46 (by simp)
  refine mh_aload0 (pc := 153) F dX11_init_153 ?_
  refine mh_new (ci := 10) (n1 := 26) (cl1 := 25) (sl1 := 7420) (pc := 154) F sh_25 (by decide) tw_1_138 tw_1_139 tw_1_10 ⟨rfl, rfl, rfl⟩ (by rw [hR.1, hR.2]; exact ⟨Nat.le_of_ble_eq_true rfl, Nat.le_of_ble_eq_true rfl⟩) dX11_init_154 ?_
  refine mh_nmh (fun h47 e47 => ?_)
  have r0_47 : h47 0 = mh_ur (mh_ur (mh_ur (mh_ur (mh_ur (mh_ur (mh_ur (mh_ur (fun _ => (0 : Int)) 3 (((1 : Nat) : Int) + 1)) 4 (((9 : Nat) : Int) + 1)) 5 (((10 : Nat) : Int) + 1)) 6 (((16 : Nat) : Int) + 1)) 7 (((17 : Nat) : Int) + 1)) 8 (((22 : Nat) : Int) + 1)) 9 (((23 : Nat) : Int) + 1)) 10 (((24 : Nat) : Int) + 1) := by rw [e47, mh_zr_row (by decide)]; exact r0_46
  have r1_47 : h47 1 = mh_ur (mh_ur (mh_ur (mh_ur (mh_ur (mh_ur (mh_ur (fun _ => (0 : Int)) 0 (((2 : Nat) : Int) + 1)) 1 (((3 : Nat) : Int) + 1)) 2 (((4 : Nat) : Int) + 1)) 3 (((5 : Nat) : Int) + 1)) 4 (((6 : Nat) : Int) + 1)) 5 (((7 : Nat) : Int) + 1)) 6 (((8 : Nat) : Int) + 1) := by rw [e47, mh_zr_row (by decide)]; exact r1_46
  have r2_47 : h47 2 = mh_ur (fun _ => (0 : Int)) 0 0 := by rw [e47, mh_zr_row (by decide)]; exact r2_46
  have r3_47 : h47 3 = mh_ur (fun _ => (0 : Int)) 0 1 := by rw [e47, mh_zr_row (by decide)]; exact r3_46
  have r4_47 : h47 4 = mh_ur (fun _ => (0 : Int)) 0 2 := by rw [e47, mh_zr_row (by decide)]; exact r4_46
  have r5_47 : h47 5 = mh_ur (fun _ => (0 : Int)) 0 3 := by rw [e47, mh_zr_row (by decide)]; exact r5_46
  have r6_47 : h47 6 = mh_ur (fun _ => (0 : Int)) 0 4 := by rw [e47, mh_zr_row (by decide)]; exact r6_46
  have r7_47 : h47 7 = mh_ur (fun _ => (0 : Int)) 0 5 := by rw [e47, mh_zr_row (by decide)]; exact r7_46
  have r8_47 : h47 8 = mh_ur (fun _ => (0 : Int)) 0 6 := by rw [e47, mh_zr_row (by decide)]; exact r8_46
  have r9_47 : h47 9 = fun _ => (0 : Int) := by rw [e47, mh_zr_row (by decide)]; exact r9_46
  have r10_47 : h47 10 = mh_ur (mh_ur (mh_ur (mh_ur (mh_ur (fun _ => (0 : Int)) 0 (((11 : Nat) : Int) + 1)) 1 (((12 : Nat) : Int) + 1)) 2 (((13 : Nat) : Int) + 1)) 3 (((14 : Nat) : Int) + 1)) 4 (((15 : Nat) : Int) + 1) := by rw [e47, mh_zr_row (by decide)]; exact r10_46
  have r16_47 : h47 16 = fun _ => (0 : Int) := by rw [e47, mh_zr_row (by decide)]; exact r16_46
  have r17_47 : h47 17 = fun j => if 0 ≤ j ∧ j < 4 then ((17 : Nat) : Int) + 1 + j + 1 else 0 := by rw [e47, mh_zr_row (by decide)]; exact r17_46
  have r18_47 : h47 18 = fun _ => (0 : Int) := by rw [e47, mh_zr_row (by decide)]; exact r18_46
  have r19_47 : h47 19 = fun _ => (0 : Int) := by rw [e47, mh_zr_row (by decide)]; exact r19_46
  have r20_47 : h47 20 = fun _ => (0 : Int) := by rw [e47, mh_zr_row (by decide)]; exact r20_46
  have r21_47 : h47 21 = fun _ => (0 : Int) := by rw [e47, mh_zr_row (by decide)]; exact r21_46
  have r22_47 : h47 22 = fun _ => (0 : Int) := by rw [e47, mh_zr_row (by decide)]; exact r22_46
  have r23_47 : h47 23 = fun _ => (0 : Int) := by rw [e47, mh_zr_row (by decide)]; exact r23_46
  have r24_47 : h47 24 = fun _ => (0 : Int) := by rw [e47, mh_zr_row (by decide)]; exact r24_46
  have r25_47 : h47 25 = fun _ => (0 : Int) := by rw [e47]; exact mh_zr_rs
  have fr47 : mh_fr [25, 24, 23, 22, 17, 18, 19, 20, 21, 16, 11, 12, 13, 14, 15, 10, 9, 0, 8, 7, 6, 5, 4, 3, 2, 1] h h47 := mh_fr.zr fr46 e47
  refine mh_dup (pc := 157) F dX11_init_157 rfl ?_
  refine mh_aload0 (pc := 158) F dX11_init_158 ?_
  refine mh_getr (b := 1) (pc := 159) F sh_0 (by decide) fw_RX11_30_11 dX11_init_159 rfl (by rw [r0_47]; simp [mh_ur]) ?_
  refine mh_iconst (pc := 162) F dX11_init_162 ?_
  refine mh_aaload (b := 2) (pc := 163) F sh_1 (by decide) (by decide) (by omega) dX11_init_163 (by rw [r1_47]; simp [mh_ur]) ?_
  refine mh_callIx (pc := 164) (As := [.ref 2]) (st := [.ref 25, .ref 0]) (n1 := 50) (cl1 := 49) (sl1 := 7931) F (by omega) (q46_world_25 (by omega) r25_47) ⟨rfl, rfl, rfl⟩ wi_RX11_69 dX11_init_164 rfl rfl (Nat.le_of_ble_eq_true rfl) (by rw [hR.1, hR.2]; exact ⟨Nat.le_of_ble_eq_true rfl, Nat.le_of_ble_eq_true rfl⟩) (fun r48 h48 q48 => ?_)
  obtain ⟨rfl, fr48, hw25⟩ := q48
  have r0_49 : h48 0 = mh_ur (mh_ur (mh_ur (mh_ur (mh_ur (mh_ur (mh_ur (mh_ur (fun _ => (0 : Int)) 3 (((1 : Nat) : Int) + 1)) 4 (((9 : Nat) : Int) + 1)) 5 (((10 : Nat) : Int) + 1)) 6 (((16 : Nat) : Int) + 1)) 7 (((17 : Nat) : Int) + 1)) 8 (((22 : Nat) : Int) + 1)) 9 (((23 : Nat) : Int) + 1)) 10 (((24 : Nat) : Int) + 1) := (fr48 _ (by decide)).trans r0_47
  have r1_49 : h48 1 = mh_ur (mh_ur (mh_ur (mh_ur (mh_ur (mh_ur (mh_ur (fun _ => (0 : Int)) 0 (((2 : Nat) : Int) + 1)) 1 (((3 : Nat) : Int) + 1)) 2 (((4 : Nat) : Int) + 1)) 3 (((5 : Nat) : Int) + 1)) 4 (((6 : Nat) : Int) + 1)) 5 (((7 : Nat) : Int) + 1)) 6 (((8 : Nat) : Int) + 1) := (fr48 _ (by decide)).trans r1_47
  have r2_49 : h48 2 = mh_ur (fun _ => (0 : Int)) 0 0 := (fr48 _ (by decide)).trans r2_47
  have r3_49 : h48 3 = mh_ur (fun _ => (0 : Int)) 0 1 := (fr48 _ (by decide)).trans r3_47
  have r4_49 : h48 4 = mh_ur (fun _ => (0 : Int)) 0 2 := (fr48 _ (by decide)).trans r4_47
  have r5_49 : h48 5 = mh_ur (fun _ => (0 : Int)) 0 3 := (fr48 _ (by decide)).trans r5_47
  have r6_49 : h48 6 = mh_ur (fun _ => (0 : Int)) 0 4 := (fr48 _ (by decide)).trans r6_47
  have r7_49 : h48 7 = mh_ur (fun _ => (0 : Int)) 0 5 := (fr48 _ (by decide)).trans r7_47
  have r8_49 : h48 8 = mh_ur (fun _ => (0 : Int)) 0 6 := (fr48 _ (by decide)).trans r8_47
  have r9_49 : h48 9 = fun _ => (0 : Int) := (fr48 _ (by decide)).trans r9_47
  have r10_49 : h48 10 = mh_ur (mh_ur (mh_ur (mh_ur (mh_ur (fun _ => (0 : Int)) 0 (((11 : Nat) : Int) + 1)) 1 (((12 : Nat) : Int) + 1)) 2 (((13 : Nat) : Int) + 1)) 3 (((14 : Nat) : Int) + 1)) 4 (((15 : Nat) : Int) + 1) := (fr48 _ (by decide)).trans r10_47
  have r16_49 : h48 16 = fun _ => (0 : Int) := (fr48 _ (by decide)).trans r16_47
  have r17_49 : h48 17 = fun j => if 0 ≤ j ∧ j < 4 then ((17 : Nat) : Int) + 1 + j + 1 else 0 := (fr48 _ (by decide)).trans r17_47
  have r18_49 : h48 18 = fun _ => (0 : Int) := (fr48 _ (by decide)).trans r18_47
  have r19_49 : h48 19 = fun _ => (0 : Int) := (fr48 _ (by decide)).trans r19_47
  have r20_49 : h48 20 = fun _ => (0 : Int) := (fr48 _ (by decide)).trans r20_47
  have r21_49 : h48 21 = fun _ => (0 : Int) := (fr48 _ (by decide)).trans r21_47
  have r22_49 : h48 22 = fun _ => (0 : Int) := (fr48 _ (by decide)).trans r22_47
  have r23_49 : h48 23 = fun _ => (0 : Int) := (fr48 _ (by decide)).trans r23_47
  have r24_49 : h48 24 = fun _ => (0 : Int) := (fr48 _ (by decide)).trans r24_47
  have fr49 : mh_fr [26, 27, 28, 29, 30, 31, 32, 33, 34, 35, 36, 37, 38, 39, 40, 41, 42, 43, 44, 45, 46, 47, 48, 49, 25, 24, 23, 22, 17, 18, 19, 20, 21, 16, 11, 12, 13, 14, 15, 10, 9, 0, 8, 7, 6, 5, 4, 3, 2, 1] h h48 := (mh_fr.tr fr47 fr48).mono (by simp)
  refine mh_putFr (pc := 167) F hn0 sh_0 (by decide) qw_RX11_72_11 dX11_init_167 rfl ?_
  refine mh_nmh (fun h50 e50 => ?_)
  have r0_50 : h50 0 = mh_ur (mh_ur (mh_ur (mh_ur (mh_ur (mh_ur (mh_ur (mh_ur (mh_ur (fun _ => (0 : Int)) 3 (((1 : Nat) : Int) + 1)) 4 (((9 : Nat) : Int) + 1)) 5 (((10 : Nat) : Int) + 1)) 6 (((16 : Nat) : Int) + 1)) 7 (((17 : Nat) : Int) + 1)) 8 (((22 : Nat) : Int) + 1)) 9 (((23 : Nat) : Int) + 1)) 10 (((24 : Nat) : Int) + 1)) 0 (((25 : Nat) : Int) + 1) := by rw [e50, mh_up_rs, r0_49] <;> rfl
  have r1_50 : h50 1 = mh_ur (mh_ur (mh_ur (mh_ur (mh_ur (mh_ur (mh_ur (fun _ => (0 : Int)) 0 (((2 : Nat) : Int) + 1)) 1 (((3 : Nat) : Int) + 1)) 2 (((4 : Nat) : Int) + 1)) 3 (((5 : Nat) : Int) + 1)) 4 (((6 : Nat) : Int) + 1)) 5 (((7 : Nat) : Int) + 1)) 6 (((8 : Nat) : Int) + 1) := by rw [e50, mh_up_row (by decide)]; exact r1_49
  have r2_50 : h50 2 = mh_ur (fun _ => (0 : Int)) 0 0 := by rw [e50, mh_up_row (by decide)]; exact r2_49
  have r3_50 : h50 3 = mh_ur (fun _ => (0 : Int)) 0 1 := by rw [e50, mh_up_row (by decide)]; exact r3_49
  have r4_50 : h50 4 = mh_ur (fun _ => (0 : Int)) 0 2 := by rw [e50, mh_up_row (by decide)]; exact r4_49
  have r5_50 : h50 5 = mh_ur (fun _ => (0 : Int)) 0 3 := by rw [e50, mh_up_row (by decide)]; exact r5_49
  have r6_50 : h50 6 = mh_ur (fun _ => (0 : Int)) 0 4 := by rw [e50, mh_up_row (by decide)]; exact r6_49
  have r7_50 : h50 7 = mh_ur (fun _ => (0 : Int)) 0 5 := by rw [e50, mh_up_row (by decide)]; exact r7_49
  have r8_50 : h50 8 = mh_ur (fun _ => (0 : Int)) 0 6 := by rw [e50, mh_up_row (by decide)]; exact r8_49
  have r9_50 : h50 9 = fun _ => (0 : Int) := by rw [e50, mh_up_row (by decide)]; exact r9_49
  have r10_50 : h50 10 = mh_ur (mh_ur (mh_ur (mh_ur (mh_ur (fun _ => (0 : Int)) 0 (((11 : Nat) : Int) + 1)) 1 (((12 : Nat) : Int) + 1)) 2 (((13 : Nat) : Int) + 1)) 3 (((14 : Nat) : Int) + 1)) 4 (((15 : Nat) : Int) + 1) := by rw [e50, mh_up_row (by decide)]; exact r10_49
  have r16_50 : h50 16 = fun _ => (0 : Int) := by rw [e50, mh_up_row (by decide)]; exact r16_49
  have r17_50 : h50 17 = fun j => if 0 ≤ j ∧ j < 4 then ((17 : Nat) : Int) + 1 + j + 1 else 0 := by rw [e50, mh_up_row (by decide)]; exact r17_49
  have r18_50 : h50 18 = fun _ => (0 : Int) := by rw [e50, mh_up_row (by decide)]; exact r18_49
  have r19_50 : h50 19 = fun _ => (0 : Int) := by rw [e50, mh_up_row (by decide)]; exact r19_49
  have r20_50 : h50 20 = fun _ => (0 : Int) := by rw [e50, mh_up_row (by decide)]; exact r20_49
  have r21_50 : h50 21 = fun _ => (0 : Int) := by rw [e50, mh_up_row (by decide)]; exact r21_49
  have r22_50 : h50 22 = fun _ => (0 : Int) := by rw [e50, mh_up_row (by decide)]; exact r22_49
  have r23_50 : h50 23 = fun _ => (0 : Int) := by rw [e50, mh_up_row (by decide)]; exact r23_49
  have r24_50 : h50 24 = fun _ => (0 : Int) := by rw [e50, mh_up_row (by decide)]; exact r24_49
  have hw25 : sc_w0 h50 25 := hw25.fr (fun a a0 a1 => by rw [e50, mh_up_row (by omega)])
  have fr50 : mh_fr [26, 27, 28, 29, 30, 31, 32, 33, 34, 35, 36, 37, 38, 39, 40, 41, 42, 43, 44, 45, 46, 47, 48, 49, 25, 24, 23, 22, 17, 18, 19, 20, 21, 16, 11, 12, 13, 14, 15, 10, 9, 0, 8, 7, 6, 5, 4, 3, 2, 1] h h50 := mh_fr.upi fr49 e50 (by simp)
  refine mh_aload0 (pc := 170) F dX11_init_170 ?_
  refine mh_new (ci := 10) (n1 := 51) (cl1 := 50) (sl1 := 7947) (pc := 171) F sh_50 (by decide) tw_1_138 tw_1_139 tw_1_10 ⟨rfl, rfl, rfl⟩ (by rw [hR.1, hR.2]; exact ⟨Nat.le_of_ble_eq_true rfl, Nat.le_of_ble_eq_true rfl⟩) dX11_init_171 ?_
  refine mh_nmh (fun h51 e51 => ?_)
  have r0_51 : h51 0 = mh_ur (mh_ur (mh_ur (mh_ur (mh_ur (mh_ur (mh_ur (mh_ur (mh_ur (fun _ => (0 : Int)) 3 (((1 : Nat) : Int) + 1)) 4 (((9 : Nat) : Int) + 1)) 5 (((10 : Nat) : Int) + 1)) 6 (((16 : Nat) : Int) + 1)) 7 (((17 : Nat) : Int) + 1)) 8 (((22 : Nat) : Int) + 1)) 9 (((23 : Nat) : Int) + 1)) 10 (((24 : Nat) : Int) + 1)) 0 (((25 : Nat) : Int) + 1) := by rw [e51, mh_zr_row (by decide)]; exact r0_50
  have r1_51 : h51 1 = mh_ur (mh_ur (mh_ur (mh_ur (mh_ur (mh_ur (mh_ur (fun _ => (0 : Int)) 0 (((2 : Nat) : Int) + 1)) 1 (((3 : Nat) : Int) + 1)) 2 (((4 : Nat) : Int) + 1)) 3 (((5 : Nat) : Int) + 1)) 4 (((6 : Nat) : Int) + 1)) 5 (((7 : Nat) : Int) + 1)) 6 (((8 : Nat) : Int) + 1) := by rw [e51, mh_zr_row (by decide)]; exact r1_50
  have r2_51 : h51 2 = mh_ur (fun _ => (0 : Int)) 0 0 := by rw [e51, mh_zr_row (by decide)]; exact r2_50
  have r3_51 : h51 3 = mh_ur (fun _ => (0 : Int)) 0 1 := by rw [e51, mh_zr_row (by decide)]; exact r3_50
  have r4_51 : h51 4 = mh_ur (fun _ => (0 : Int)) 0 2 := by rw [e51, mh_zr_row (by decide)]; exact r4_50
  have r5_51 : h51 5 = mh_ur (fun _ => (0 : Int)) 0 3 := by rw [e51, mh_zr_row (by decide)]; exact r5_50
  have r6_51 : h51 6 = mh_ur (fun _ => (0 : Int)) 0 4 := by rw [e51, mh_zr_row (by decide)]; exact r6_50
  have r7_51 : h51 7 = mh_ur (fun _ => (0 : Int)) 0 5 := by rw [e51, mh_zr_row (by decide)]; exact r7_50
  have r8_51 : h51 8 = mh_ur (fun _ => (0 : Int)) 0 6 := by rw [e51, mh_zr_row (by decide)]; exact r8_50
  have r9_51 : h51 9 = fun _ => (0 : Int) := by rw [e51, mh_zr_row (by decide)]; exact r9_50
  have r10_51 : h51 10 = mh_ur (mh_ur (mh_ur (mh_ur (mh_ur (fun _ => (0 : Int)) 0 (((11 : Nat) : Int) + 1)) 1 (((12 : Nat) : Int) + 1)) 2 (((13 : Nat) : Int) + 1)) 3 (((14 : Nat) : Int) + 1)) 4 (((15 : Nat) : Int) + 1) := by rw [e51, mh_zr_row (by decide)]; exact r10_50
  have r16_51 : h51 16 = fun _ => (0 : Int) := by rw [e51, mh_zr_row (by decide)]; exact r16_50
  have r17_51 : h51 17 = fun j => if 0 ≤ j ∧ j < 4 then ((17 : Nat) : Int) + 1 + j + 1 else 0 := by rw [e51, mh_zr_row (by decide)]; exact r17_50
  have r18_51 : h51 18 = fun _ => (0 : Int) := by rw [e51, mh_zr_row (by decide)]; exact r18_50
  have r19_51 : h51 19 = fun _ => (0 : Int) := by rw [e51, mh_zr_row (by decide)]; exact r19_50
  have r20_51 : h51 20 = fun _ => (0 : Int) := by rw [e51, mh_zr_row (by decide)]; exact r20_50
  have r21_51 : h51 21 = fun _ => (0 : Int) := by rw [e51, mh_zr_row (by decide)]; exact r21_50
  have r22_51 : h51 22 = fun _ => (0 : Int) := by rw [e51, mh_zr_row (by decide)]; exact r22_50
  have r23_51 : h51 23 = fun _ => (0 : Int) := by rw [e51, mh_zr_row (by decide)]; exact r23_50
  have r24_51 : h51 24 = fun _ => (0 : Int) := by rw [e51, mh_zr_row (by decide)]; exact r24_50
  have r50_51 : h51 50 = fun _ => (0 : Int) := by rw [e51]; exact mh_zr_rs
  have fr51 : mh_fr [50, 26, 27, 28, 29, 30, 31, 32, 33, 34, 35, 36, 37, 38, 39, 40, 41, 42, 43, 44, 45, 46, 47, 48, 49, 25, 24, 23, 22, 17, 18, 19, 20, 21, 16, 11, 12, 13, 14, 15, 10, 9, 0, 8, 7, 6, 5, 4, 3, 2, 1] h h51 := mh_fr.zr fr50 e51
  have hw25 : sc_w0 h51 25 := hw25.fr (fun a a0 a1 => by rw [e51, mh_zr_row (by omega)])
  refine mh_dup (pc := 174) F dX11_init_174 rfl ?_
  refine mh_aload0 (pc := 175) F dX11_init_175 ?_
  refine mh_getr (b := 1) (pc := 176) F sh_0 (by decide) fw_RX11_30_11 dX11_init_176 rfl (by rw [r0_51]; simp [mh_ur]) ?_
  refine mh_iconst (pc := 179) F dX11_init_179 ?_
  refine mh_aaload (b := 2) (pc := 180) F sh_1 (by decide) (by decide) (by omega) dX11_init_180 (by rw [r1_51]; simp [mh_ur]) ?_
  refine mh_callIx (pc := 181) (As := [.ref 2]) (st := [.ref 50, .ref 0]) (n1 := 75) (cl1 := 74) (sl1 := 8458) F (by omega) (q46_world_50 (by omega) r50_51) ⟨rfl, rfl, rfl⟩ wi_RX11_69 dX11_init_181 rfl rfl (Nat.le_of_ble_eq_true rfl) (by rw [hR.1, hR.2]; exact ⟨Nat.le_of_ble_eq_true rfl, Nat.le_of_ble_eq_true rfl⟩) (fun r52 h52 q52 => ?_)
  obtain ⟨rfl, fr52, hw50⟩ := q52
  have r0_53 : h52 0 = mh_ur (mh_ur (mh_ur (mh_ur (mh_ur (mh_ur (mh_ur (mh_ur (mh_ur (fun _ => (0 : Int)) 3 (((1 : Nat) : Int) + 1)) 4 (((9 : Nat) : Int) + 1)) 5 (((10 : Nat) : Int) + 1)) 6 (((16 : Nat) : Int) + 1)) 7 (((17 : Nat) : Int) + 1)) 8 (((22 : Nat) : Int) + 1)) 9 (((23 : Nat) : Int) + 1)) 10 (((24 : Nat) : Int) + 1)) 0 (((25 : Nat) : Int) + 1) := (fr52 _ (by decide)).trans r0_51
  have r1_53 : h52 1 = mh_ur (mh_ur (mh_ur (mh_ur (mh_ur (mh_ur (mh_ur (fun _ => (0 : Int)) 0 (((2 : Nat) : Int) + 1)) 1 (((3 : Nat) : Int) + 1)) 2 (((4 : Nat) : Int) + 1)) 3 (((5 : Nat) : Int) + 1)) 4 (((6 : Nat) : Int) + 1)) 5 (((7 : Nat) : Int) + 1)) 6 (((8 : Nat) : Int) + 1) := (fr52 _ (by decide)).trans r1_51
  have r2_53 : h52 2 = mh_ur (fun _ => (0 : Int)) 0 0 := (fr52 _ (by decide)).trans r2_51
  have r3_53 : h52 3 = mh_ur (fun _ => (0 : Int)) 0 1 := (fr52 _ (by decide)).trans r3_51
  have r4_53 : h52 4 = mh_ur (fun _ => (0 : Int)) 0 2 := (fr52 _ (by decide)).trans r4_51
  have r5_53 : h52 5 = mh_ur (fun _ => (0 : Int)) 0 3 := (fr52 _ (by decide)).trans r5_51
  have r6_53 : h52 6 = mh_ur (fun _ => (0 : Int)) 0 4 := (fr52 _ (by decide)).trans r6_51
  have r7_53 : h52 7 = mh_ur (fun _ => (0 : Int)) 0 5 := (fr52 _ (by decide)).trans r7_51
  have r8_53 : h52 8 = mh_ur (fun _ => (0 : Int)) 0 6 := (fr52 _ (by decide)).trans r8_51
  have r9_53 : h52 9 = fun _ => (0 : Int) := (fr52 _ (by decide)).trans r9_51
  have r10_53 : h52 10 = mh_ur (mh_ur (mh_ur (mh_ur (mh_ur (fun _ => (0 : Int)) 0 (((11 : Nat) : Int) + 1)) 1 (((12 : Nat) : Int) + 1)) 2 (((13 : Nat) : Int) + 1)) 3 (((14 : Nat) : Int) + 1)) 4 (((15 : Nat) : Int) + 1) := (fr52 _ (by decide)).trans r10_51
  have r16_53 : h52 16 = fun _ => (0 : Int) := (fr52 _ (by decide)).trans r16_51
  have r17_53 : h52 17 = fun j => if 0 ≤ j ∧ j < 4 then ((17 : Nat) : Int) + 1 + j + 1 else 0 := (fr52 _ (by decide)).trans r17_51
  have r18_53 : h52 18 = fun _ => (0 : Int) := (fr52 _ (by decide)).trans r18_51
  have r19_53 : h52 19 = fun _ => (0 : Int) := (fr52 _ (by decide)).trans r19_51
  have r20_53 : h52 20 = fun _ => (0 : Int) := (fr52 _ (by decide)).trans r20_51
  have r21_53 : h52 21 = fun _ => (0 : Int) := (fr52 _ (by decide)).trans r21_51
  have r22_53 : h52 22 = fun _ => (0 : Int) := (fr52 _ (by decide)).trans r22_51
  have r23_53 : h52 23 = fun _ => (0 : Int) := (fr52 _ (by decide)).trans r23_51
  have r24_53 : h52 24 = fun _ => (0 : Int) := (fr52 _ (by decide)).trans r24_51
  have hw25 : sc_w0 h52 25 := hw25.fr (fun a a0 a1 => fr52 a (by simp; omega))
  have fr53 : mh_fr [51, 52, 53, 54, 55, 56, 57, 58, 59, 60, 61, 62, 63, 64, 65, 66, 67, 68, 69, 70, 71, 72, 73, 74, 50, 26, 27, 28, 29, 30, 31, 32, 33, 34, 35, 36, 37, 38, 39, 40, 41, 42, 43, 44, 45, 46, 47, 48, 49, 25, 24, 23, 22, 17, 18, 19, 20, 21, 16, 11, 12, 13, 14, 15, 10, 9, 0, 8, 7, 6, 5, 4, 3, 2, 1] h h52 := (mh_fr.tr fr51 fr52).mono (by simp)
  refine mh_putFr (pc := 184) F hn0 sh_0 (by decide) qw_RX11_76_11 dX11_init_184 rfl ?_
  refine mh_nmh (fun h54 e54 => ?_)
  have r0_54 : h54 0 = mh_ur (mh_ur (mh_ur (mh_ur (mh_ur (mh_ur (mh_ur (mh_ur (mh_ur (mh_ur (fun _ => (0 : Int)) 3 (((1 : Nat) : Int) + 1)) 4 (((9 : Nat) : Int) + 1)) 5 (((10 : Nat) : Int) + 1)) 6 (((16 : Nat) : Int) + 1)) 7 (((17 : Nat) : Int) + 1)) 8 (((22 : Nat) : Int) + 1)) 9 (((23 : Nat) : Int) + 1)) 10 (((24 : Nat) : Int) + 1)) 0 (((25 : Nat) : Int) + 1)) 1 (((50 : Nat) : Int) + 1) := by rw [e54, mh_up_rs, r0_53] <;> rfl
  have r1_54 : h54 1 = mh_ur (mh_ur (mh_ur (mh_ur (mh_ur (mh_ur (mh_ur (fun _ => (0 : Int)) 0 (((2 : Nat) : Int) + 1)) 1 (((3 : Nat) : Int) + 1)) 2 (((4 : Nat) : Int) + 1)) 3 (((5 : Nat) : Int) + 1)) 4 (((6 : Nat) : Int) + 1)) 5 (((7 : Nat) : Int) + 1)) 6 (((8 : Nat) : Int) + 1) := by rw [e54, mh_up_row (by decide)]; exact r1_53
  have r2_54 : h54 2 = mh_ur (fun _ => (0 : Int)) 0 0 := by rw [e54, mh_up_row (by decide)]; exact r2_53
  have r3_54 : h54 3 = mh_ur (fun _ => (0 : Int)) 0 1 := by rw [e54, mh_up_row (by decide)]; exact r3_53
  have r4_54 : h54 4 = mh_ur (fun _ => (0 : Int)) 0 2 := by rw [e54, mh_up_row (by decide)]; exact r4_53
  have r5_54 : h54 5 = mh_ur (fun _ => (0 : Int)) 0 3 := by rw [e54, mh_up_row (by decide)]; exact r5_53
  have r6_54 : h54 6 = mh_ur (fun _ => (0 : Int)) 0 4 := by rw [e54, mh_up_row (by decide)]; exact r6_53
  have r7_54 : h54 7 = mh_ur (fun _ => (0 : Int)) 0 5 := by rw [e54, mh_up_row (by decide)]; exact r7_53
  have r8_54 : h54 8 = mh_ur (fun _ => (0 : Int)) 0 6 := by rw [e54, mh_up_row (by decide)]; exact r8_53
  have r9_54 : h54 9 = fun _ => (0 : Int) := by rw [e54, mh_up_row (by decide)]; exact r9_53
  have r10_54 : h54 10 = mh_ur (mh_ur (mh_ur (mh_ur (mh_ur (fun _ => (0 : Int)) 0 (((11 : Nat) : Int) + 1)) 1 (((12 : Nat) : Int) + 1)) 2 (((13 : Nat) : Int) + 1)) 3 (((14 : Nat) : Int) + 1)) 4 (((15 : Nat) : Int) + 1) := by rw [e54, mh_up_row (by decide)]; exact r10_53
  have r16_54 : h54 16 = fun _ => (0 : Int) := by rw [e54, mh_up_row (by decide)]; exact r16_53
  have r17_54 : h54 17 = fun j => if 0 ≤ j ∧ j < 4 then ((17 : Nat) : Int) + 1 + j + 1 else 0 := by rw [e54, mh_up_row (by decide)]; exact r17_53
  have r18_54 : h54 18 = fun _ => (0 : Int) := by rw [e54, mh_up_row (by decide)]; exact r18_53
  have r19_54 : h54 19 = fun _ => (0 : Int) := by rw [e54, mh_up_row (by decide)]; exact r19_53
  have r20_54 : h54 20 = fun _ => (0 : Int) := by rw [e54, mh_up_row (by decide)]; exact r20_53
  have r21_54 : h54 21 = fun _ => (0 : Int) := by rw [e54, mh_up_row (by decide)]; exact r21_53
  have r22_54 : h54 22 = fun _ => (0 : Int) := by rw [e54, mh_up_row (by decide)]; exact r22_53
  have r23_54 : h54 23 = fun _ => (0 : Int) := by rw [e54, mh_up_row (by decide)]; exact r23_53
  have r24_54 : h54 24 = fun _ => (0 : Int) := by rw [e54, mh_up_row (by decide)]; exact r24_53
  have hw25 : sc_w0 h54 25 := hw25.fr (fun a a0 a1 => by rw [e54, mh_up_row (by omega)])
  have hw50 : sc_w0 h54 50 := hw50.fr (fun a a0 a1 => by rw [e54, mh_up_row (by omega)])
  have fr54 : mh_fr [51, 52, 53, 54, 55, 56, 57, 58, 59, 60, 61, 62, 63, 64, 65, 66, 67, 68, 69, 70, 71, 72, 73, 74, 50, 26, 27, 28, 29, 30, 31, 32, 33, 34, 35, 36, 37, 38, 39, 40, 41, 42, 43, 44, 45, 46, 47, 48, 49, 25, 24, 23, 22, 17, 18, 19, 20, 21, 16, 11, 12, 13, 14, 15, 10, 9, 0, 8, 7, 6, 5, 4, 3, 2, 1] h h54 := mh_fr.upi fr53 e54 (by simp)
  refine mh_iconst (pc := 187) F dX11_init_187 ?_
  refine mh_istore1 (pc := 188) F dX11_init_188 rfl (by decide) ?_
  refine mh_iload1 (pc := 189) F dX11_init_189 ?_
  refine mh_bipush (pc := 190) F dX11_init_190 rfl ?_
  refine mh_icmp_ge (pc := 192) (tgt := 221) F dX11_init_192 rfl (by omega) (by omega) (fun c_192 => ?_) (fun c_192 => ?_)
  · exact absurd c_192 (by decide)
  · refine mh_aload0 (pc := 195) F dX11_init_195 ?_
    refine mh_getr (b := 9) (pc := 196) F sh_0 (by decide) fw_RX11_38_11 dX11_init_196 rfl (by rw [r0_54]; simp [mh_ur]) ?_
    refine mh_iload1 (pc := 199) F dX11_init_199 ?_
    refine mh_new (ci := 0) (n1 := 76) (cl1 := 75) (sl1 := 8468) (pc := 200) F sh_75 (by decide) tw_1_91 tw_2_114 tw_1_20 ⟨rfl, rfl, rfl⟩ (by rw [hR.1, hR.2]; exact ⟨Nat.le_of_ble_eq_true rfl, Nat.le_of_ble_eq_true rfl⟩) dX11_init_200 ?_
    refine mh_nmh (fun h55 e55 => ?_)
    have r0_55 : h55 0 = mh_ur (mh_ur (mh_ur (mh_ur (mh_ur (mh_ur (mh_ur (mh_ur (mh_ur (mh_ur (fun _ => (0 : Int)) 3 (((1 : Nat) : Int) + 1)) 4 (((9 : Nat) : Int) + 1)) 5 (((10 : Nat) : Int) + 1)) 6 (((16 : Nat) : Int) + 1)) 7 (((17 : Nat) : Int) + 1)) 8 (((22 : Nat) : Int) + 1)) 9 (((23 : Nat) : Int) + 1)) 10 (((24 : Nat) : Int) + 1)) 0 (((25 : Nat) : Int) + 1)) 1 (((50 : Nat) : Int) + 1) := by rw [e55, mh_zr_row (by decide)]; exact r0_54
    have r1_55 : h55 1 = mh_ur (mh_ur (mh_ur (mh_ur (mh_ur (mh_ur (mh_ur (fun _ => (0 : Int)) 0 (((2 : Nat) : Int) + 1)) 1 (((3 : Nat) : Int) + 1)) 2 (((4 : Nat) : Int) + 1)) 3 (((5 : Nat) : Int) + 1)) 4 (((6 : Nat) : Int) + 1)) 5 (((7 : Nat) : Int) + 1)) 6 (((8 : Nat) : Int) + 1) := by rw [e55, mh_zr_row (by decide)]; exact r1_54
    have r2_55 : h55 2 = mh_ur (fun _ => (0 : Int)) 0 0 := by rw [e55, mh_zr_row (by decide)]; exact r2_54
    have r3_55 : h55 3 = mh_ur (fun _ => (0 : Int)) 0 1 := by rw [e55, mh_zr_row (by decide)]; exact r3_54
    have r4_55 : h55 4 = mh_ur (fun _ => (0 : Int)) 0 2 := by rw [e55, mh_zr_row (by decide)]; exact r4_54
    have r5_55 : h55 5 = mh_ur (fun _ => (0 : Int)) 0 3 := by rw [e55, mh_zr_row (by decide)]; exact r5_54
    have r6_55 : h55 6 = mh_ur (fun _ => (0 : Int)) 0 4 := by rw [e55, mh_zr_row (by decide)]; exact r6_54
    have r7_55 : h55 7 = mh_ur (fun _ => (0 : Int)) 0 5 := by rw [e55, mh_zr_row (by decide)]; exact r7_54
    have r8_55 : h55 8 = mh_ur (fun _ => (0 : Int)) 0 6 := by rw [e55, mh_zr_row (by decide)]; exact r8_54
    have r9_55 : h55 9 = fun _ => (0 : Int) := by rw [e55, mh_zr_row (by decide)]; exact r9_54
    have r10_55 : h55 10 = mh_ur (mh_ur (mh_ur (mh_ur (mh_ur (fun _ => (0 : Int)) 0 (((11 : Nat) : Int) + 1)) 1 (((12 : Nat) : Int) + 1)) 2 (((13 : Nat) : Int) + 1)) 3 (((14 : Nat) : Int) + 1)) 4 (((15 : Nat) : Int) + 1) := by rw [e55, mh_zr_row (by decide)]; exact r10_54
    have r16_55 : h55 16 = fun _ => (0 : Int) := by rw [e55, mh_zr_row (by decide)]; exact r16_54
    have r17_55 : h55 17 = fun j => if 0 ≤ j ∧ j < 4 then ((17 : Nat) : Int) + 1 + j + 1 else 0 := by rw [e55, mh_zr_row (by decide)]; exact r17_54
    have r18_55 : h55 18 = fun _ => (0 : Int) := by rw [e55, mh_zr_row (by decide)]; exact r18_54
    have r19_55 : h55 19 = fun _ => (0 : Int) := by rw [e55, mh_zr_row (by decide)]; exact r19_54
    have r20_55 : h55 20 = fun _ => (0 : Int) := by rw [e55, mh_zr_row (by decide)]; exact r20_54
    have r21_55 : h55 21 = fun _ => (0 : Int) := by rw [e55, mh_zr_row (by decide)]; exact r21_54
    have r22_55 : h55 22 = fun _ => (0 : Int) := by rw [e55, mh_zr_row (by decide)]; exact r22_54
    have r23_55 : h55 23 = fun _ => (0 : Int) := by rw [e55, mh_zr_row (by decide)]; exact r23_54
    have r24_55 : h55 24 = fun _ => (0 : Int) := by rw [e55, mh_zr_row (by decide)]; exact r24_54
    have r75_55 : h55 75 = fun _ => (0 : Int) := by rw [e55]; exact mh_zr_rs
    have fr55 : mh_fr [75, 51, 52, 53, 54, 55, 56, 57, 58, 59, 60, 61, 62, 63, 64, 65, 66, 67, 68, 69, 70, 71, 72, 73, 74, 50, 26, 27, 28, 29, 30, 31, 32, 33, 34, 35, 36, 37, 38, 39, 40, 41, 42, 43, 44, 45, 46, 47, 48, 49, 25, 24, 23, 22, 17, 18, 19, 20, 21, 16, 11, 12, 13, 14, 15, 10, 9, 0, 8, 7, 6, 5, 4, 3, 2, 1] h h55 := mh_fr.zr fr54 e55
    have hw25 : sc_w0 h55 25 := hw25.fr (fun a a0 a1 => by rw [e55, mh_zr_row (by omega)])
    have hw50 : sc_w0 h55 50 := hw50.fr (fun a a0 a1 => by rw [e55, mh_zr_row (by omega)])
    refine mh_dup (pc := 203) F dX11_init_203 rfl ?_
    refine mh_iload1 (pc := 204) F dX11_init_204 ?_
    refine mh_aload0 (pc := 205) F dX11_init_205 ?_
    refine mh_getr (b := 1) (pc := 206) F sh_0 (by decide) fw_RX11_30_11 dX11_init_206 rfl (by rw [r0_55]; simp [mh_ur]) ?_
    refine mh_iconst (pc := 209) F dX11_init_209 ?_
    refine mh_aaload (b := 2) (pc := 210) F sh_1 (by decide) (by decide) (by omega) dX11_init_210 (by rw [r1_55]; simp [mh_ur]) ?_
    refine mh_callIx (pc := 211) (As := [.int (Int32.ofInt (0)), .ref 2]) (st := [.ref 75, .int (Int32.ofInt (0)), .ref 9]) (n1 := 76) (cl1 := 75) (sl1 := 8468) F (by omega) (q44_churn (by omega) sh_75 (by decide)) ⟨rfl, rfl, rfl⟩ wi_RX11_79 dX11_init_211 rfl rfl (Nat.le_of_ble_eq_true rfl) (by rw [hR.1, hR.2]; exact ⟨Nat.le_of_ble_eq_true rfl, Nat.le_of_ble_eq_true rfl⟩) (fun r56 h56 q56 => ?_)
    obtain ⟨rfl, fr56, hc56⟩ := q56
    have r0_57 : h56 0 = mh_ur (mh_ur (mh_ur (mh_ur (mh_ur (mh_ur (mh_ur (mh_ur (mh_ur (mh_ur (fun _ => (0 : Int)) 3 (((1 : Nat) : Int) + 1)) 4 (((9 : Nat) : Int) + 1)) 5 (((10 : Nat) : Int) + 1)) 6 (((16 : Nat) : Int) + 1)) 7 (((17 : Nat) : Int) + 1)) 8 (((22 : Nat) : Int) + 1)) 9 (((23 : Nat) : Int) + 1)) 10 (((24 : Nat) : Int) + 1)) 0 (((25 : Nat) : Int) + 1)) 1 (((50 : Nat) : Int) + 1) := (fr56 _ (by decide)).trans r0_55
    have r1_57 : h56 1 = mh_ur (mh_ur (mh_ur (mh_ur (mh_ur (mh_ur (mh_ur (fun _ => (0 : Int)) 0 (((2 : Nat) : Int) + 1)) 1 (((3 : Nat) : Int) + 1)) 2 (((4 : Nat) : Int) + 1)) 3 (((5 : Nat) : Int) + 1)) 4 (((6 : Nat) : Int) + 1)) 5 (((7 : Nat) : Int) + 1)) 6 (((8 : Nat) : Int) + 1) := (fr56 _ (by decide)).trans r1_55
    have r2_57 : h56 2 = mh_ur (fun _ => (0 : Int)) 0 0 := (fr56 _ (by decide)).trans r2_55
    have r3_57 : h56 3 = mh_ur (fun _ => (0 : Int)) 0 1 := (fr56 _ (by decide)).trans r3_55
    have r4_57 : h56 4 = mh_ur (fun _ => (0 : Int)) 0 2 := (fr56 _ (by decide)).trans r4_55
    have r5_57 : h56 5 = mh_ur (fun _ => (0 : Int)) 0 3 := (fr56 _ (by decide)).trans r5_55
    have r6_57 : h56 6 = mh_ur (fun _ => (0 : Int)) 0 4 := (fr56 _ (by decide)).trans r6_55
    have r7_57 : h56 7 = mh_ur (fun _ => (0 : Int)) 0 5 := (fr56 _ (by decide)).trans r7_55
    have r8_57 : h56 8 = mh_ur (fun _ => (0 : Int)) 0 6 := (fr56 _ (by decide)).trans r8_55
    have r9_57 : h56 9 = fun _ => (0 : Int) := (fr56 _ (by decide)).trans r9_55
    have r10_57 : h56 10 = mh_ur (mh_ur (mh_ur (mh_ur (mh_ur (fun _ => (0 : Int)) 0 (((11 : Nat) : Int) + 1)) 1 (((12 : Nat) : Int) + 1)) 2 (((13 : Nat) : Int) + 1)) 3 (((14 : Nat) : Int) + 1)) 4 (((15 : Nat) : Int) + 1) := (fr56 _ (by decide)).trans r10_55
    have r16_57 : h56 16 = fun _ => (0 : Int) := (fr56 _ (by decide)).trans r16_55
    have r17_57 : h56 17 = fun j => if 0 ≤ j ∧ j < 4 then ((17 : Nat) : Int) + 1 + j + 1 else 0 := (fr56 _ (by decide)).trans r17_55
    have r18_57 : h56 18 = fun _ => (0 : Int) := (fr56 _ (by decide)).trans r18_55
    have r19_57 : h56 19 = fun _ => (0 : Int) := (fr56 _ (by decide)).trans r19_55
    have r20_57 : h56 20 = fun _ => (0 : Int) := (fr56 _ (by decide)).trans r20_55
    have r21_57 : h56 21 = fun _ => (0 : Int) := (fr56 _ (by decide)).trans r21_55
    have r22_57 : h56 22 = fun _ => (0 : Int) := (fr56 _ (by decide)).trans r22_55
    have r23_57 : h56 23 = fun _ => (0 : Int) := (fr56 _ (by decide)).trans r23_55
    have r24_57 : h56 24 = fun _ => (0 : Int) := (fr56 _ (by decide)).trans r24_55
    have hw25 : sc_w0 h56 25 := hw25.fr (fun a a0 a1 => fr56 a (by simp; omega))
    have hw50 : sc_w0 h56 50 := hw50.fr (fun a a0 a1 => fr56 a (by simp; omega))
    have fr57 : mh_fr [75, 51, 52, 53, 54, 55, 56, 57, 58, 59, 60, 61, 62, 63, 64, 65, 66, 67, 68, 69, 70, 71, 72, 73, 74, 50, 26, 27, 28, 29, 30, 31, 32, 33, 34, 35, 36, 37, 38, 39, 40, 41, 42, 43, 44, 45, 46, 47, 48, 49, 25, 24, 23, 22, 17, 18, 19, 20, 21, 16, 11, 12, 13, 14, 15, 10, 9, 0, 8, 7, 6, 5, 4, 3, 2, 1] h h56 := (mh_fr.tr fr55 fr56).mono (by simp)
    refine mh_aastore (pc := 214) F sh_9 sh_75 (by decide) rfl (by decide) (by decide) (by decide) (Or.inl rfl) dX11_init_214 ?_
    refine mh_nmh (fun h58 e58 => ?_)
    have r0_58 : h58 0 = mh_ur (mh_ur (mh_ur (mh_ur (mh_ur (mh_ur (mh_ur (mh_ur (mh_ur (mh_ur (fun _ => (0 : Int)) 3 (((1 : Nat) : Int) + 1)) 4 (((9 : Nat) : Int) + 1)) 5 (((10 : Nat) : Int) + 1)) 6 (((16 : Nat) : Int) + 1)) 7 (((17 : Nat) : Int) + 1)) 8 (((22 : Nat) : Int) + 1)) 9 (((23 : Nat) : Int) + 1)) 10 (((24 : Nat) : Int) + 1)) 0 (((25 : Nat) : Int) + 1)) 1 (((50 : Nat) : Int) + 1) := by rw [e58, mh_up_row (by decide)]; exact r0_57
    have r1_58 : h58 1 = mh_ur (mh_ur (mh_ur (mh_ur (mh_ur (mh_ur (mh_ur (fun _ => (0 : Int)) 0 (((2 : Nat) : Int) + 1)) 1 (((3 : Nat) : Int) + 1)) 2 (((4 : Nat) : Int) + 1)) 3 (((5 : Nat) : Int) + 1)) 4 (((6 : Nat) : Int) + 1)) 5 (((7 : Nat) : Int) + 1)) 6 (((8 : Nat) : Int) + 1) := by rw [e58, mh_up_row (by decide)]; exact r1_57
    have r2_58 : h58 2 = mh_ur (fun _ => (0 : Int)) 0 0 := by rw [e58, mh_up_row (by decide)]; exact r2_57
    have r3_58 : h58 3 = mh_ur (fun _ => (0 : Int)) 0 1 := by rw [e58, mh_up_row (by decide)]; exact r3_57
    have r4_58 : h58 4 = mh_ur (fun _ => (0 : Int)) 0 2 := by rw [e58, mh_up_row (by decide)]; exact r4_57
    have r5_58 : h58 5 = mh_ur (fun _ => (0 : Int)) 0 3 := by rw [e58, mh_up_row (by decide)]; exact r5_57
    have r6_58 : h58 6 = mh_ur (fun _ => (0 : Int)) 0 4 := by rw [e58, mh_up_row (by decide)]; exact r6_57
    have r7_58 : h58 7 = mh_ur (fun _ => (0 : Int)) 0 5 := by rw [e58, mh_up_row (by decide)]; exact r7_57
    have r8_58 : h58 8 = mh_ur (fun _ => (0 : Int)) 0 6 := by rw [e58, mh_up_row (by decide)]; exact r8_57
    have r9_58 : h58 9 = mh_ur (fun _ => (0 : Int)) 0 (((75 : Nat) : Int) + 1) := by rw [e58, mh_up_rs, r9_57] <;> rfl
    have r10_58 : h58 10 = mh_ur (mh_ur (mh_ur (mh_ur (mh_ur (fun _ => (0 : Int)) 0 (((11 : Nat) : Int) + 1)) 1 (((12 : Nat) : Int) + 1)) 2 (((13 : Nat) : Int) + 1)) 3 (((14 : Nat) : Int) + 1)) 4 (((15 : Nat) : Int) + 1) := by rw [e58, mh_up_row (by decide)]; exact r10_57
    have r16_58 : h58 16 = fun _ => (0 : Int) := by rw [e58, mh_up_row (by decide)]; exact r16_57
    have r17_58 : h58 17 = fun j => if 0 ≤ j ∧ j < 4 then ((17 : Nat) : Int) + 1 + j + 1 else 0 := by rw [e58, mh_up_row (by decide)]; exact r17_57
    have r18_58 : h58 18 = fun _ => (0 : Int) := by rw [e58, mh_up_row (by decide)]; exact r18_57
    have r19_58 : h58 19 = fun _ => (0 : Int) := by rw [e58, mh_up_row (by decide)]; exact r19_57
    have r20_58 : h58 20 = fun _ => (0 : Int) := by rw [e58, mh_up_row (by decide)]; exact r20_57
    have r21_58 : h58 21 = fun _ => (0 : Int) := by rw [e58, mh_up_row (by decide)]; exact r21_57
    have r22_58 : h58 22 = fun _ => (0 : Int) := by rw [e58, mh_up_row (by decide)]; exact r22_57
    have r23_58 : h58 23 = fun _ => (0 : Int) := by rw [e58, mh_up_row (by decide)]; exact r23_57
    have r24_58 : h58 24 = fun _ => (0 : Int) := by rw [e58, mh_up_row (by decide)]; exact r24_57
    have r75_58 : h58 75 = sc_c0 0 := by rw [e58, mh_up_row (by decide)]; exact (hc56.trans (by rw [r75_55]; rfl))
    have hw25 : sc_w0 h58 25 := hw25.fr (fun a a0 a1 => by rw [e58, mh_up_row (by omega)])
    have hw50 : sc_w0 h58 50 := hw50.fr (fun a a0 a1 => by rw [e58, mh_up_row (by omega)])
    have fr58 : mh_fr [75, 51, 52, 53, 54, 55, 56, 57, 58, 59, 60, 61, 62, 63, 64, 65, 66, 67, 68, 69, 70, 71, 72, 73, 74, 50, 26, 27, 28, 29, 30, 31, 32, 33, 34, 35, 36, 37, 38, 39, 40, 41, 42, 43, 44, 45, 46, 47, 48, 49, 25, 24, 23, 22, 17, 18, 19, 20, 21, 16, 11, 12, 13, 14, 15, 10, 9, 0, 8, 7, 6, 5, 4, 3, 2, 1] h h58 := mh_fr.upi fr57 e58 (by simp)
    refine mh_iinc1 (pc := 215) F dX11_init_215 rfl (by decide) ?_
    refine mh_goto (pc := 218) (tgt := 189) F dX11_init_218 rfl ?_
    refine mh_iload1 (pc := 189) F dX11_init_189 ?_
    refine mh_bipush (pc := 190) F dX11_init_190 rfl ?_
    refine mh_icmp_ge (pc := 192) (tgt := 221) F dX11_init_192 rfl (by omega) (by omega) (fun c_192 => ?_) (fun c_192 => ?_)
    · exact absurd c_192 (by decide)
    · refine mh_aload0 (pc := 195) F dX11_init_195 ?_
      refine mh_getr (b := 9) (pc := 196) F sh_0 (by decide) fw_RX11_38_11 dX11_init_196 rfl (by rw [r0_58]; simp [mh_ur]) ?_
      refine mh_iload1 (pc := 199) F dX11_init_199 ?_
      refine mh_new (ci := 0) (n1 := 77) (cl1 := 76) (sl1 := 8478) (pc := 200) F sh_76 (by decide) tw_1_91 tw_2_114 tw_1_20 ⟨rfl, rfl, rfl⟩ (by rw [hR.1, hR.2]; exact ⟨Nat.le_of_ble_eq_true rfl, Nat.le_of_ble_eq_true rfl⟩) dX11_init_200 ?_
      refine mh_nmh (fun h59 e59 => ?_)
      have r0_59 : h59 0 = mh_ur (mh_ur (mh_ur (mh_ur (mh_ur (mh_ur (mh_ur (mh_ur (mh_ur (mh_ur (fun _ => (0 : Int)) 3 (((1 : Nat) : Int) + 1)) 4 (((9 : Nat) : Int) + 1)) 5 (((10 : Nat) : Int) + 1)) 6 (((16 : Nat) : Int) + 1)) 7 (((17 : Nat) : Int) + 1)) 8 (((22 : Nat) : Int) + 1)) 9 (((23 : Nat) : Int) + 1)) 10 (((24 : Nat) : Int) + 1)) 0 (((25 : Nat) : Int) + 1)) 1 (((50 : Nat) : Int) + 1) := by rw [e59, mh_zr_row (by decide)]; exact r0_58
      have r1_59 : h59 1 = mh_ur (mh_ur (mh_ur (mh_ur (mh_ur (mh_ur (mh_ur (fun _ => (0 : Int)) 0 (((2 : Nat) : Int) + 1)) 1 (((3 : Nat) : Int) + 1)) 2 (((4 : Nat) : Int) + 1)) 3 (((5 : Nat) : Int) + 1)) 4 (((6 : Nat) : Int) + 1)) 5 (((7 : Nat) : Int) + 1)) 6 (((8 : Nat) : Int) + 1) := by rw [e59, mh_zr_row (by decide)]; exact r1_58
      have r2_59 : h59 2 = mh_ur (fun _ => (0 : Int)) 0 0 := by rw [e59, mh_zr_row (by decide)]; exact r2_58
      have r3_59 : h59 3 = mh_ur (fun _ => (0 : Int)) 0 1 := by rw [e59, mh_zr_row (by decide)]; exact r3_58
      have r4_59 : h59 4 = mh_ur (fun _ => (0 : Int)) 0 2 := by rw [e59, mh_zr_row (by decide)]; exact r4_58
      have r5_59 : h59 5 = mh_ur (fun _ => (0 : Int)) 0 3 := by rw [e59, mh_zr_row (by decide)]; exact r5_58
      have r6_59 : h59 6 = mh_ur (fun _ => (0 : Int)) 0 4 := by rw [e59, mh_zr_row (by decide)]; exact r6_58
      have r7_59 : h59 7 = mh_ur (fun _ => (0 : Int)) 0 5 := by rw [e59, mh_zr_row (by decide)]; exact r7_58
      have r8_59 : h59 8 = mh_ur (fun _ => (0 : Int)) 0 6 := by rw [e59, mh_zr_row (by decide)]; exact r8_58
      have r9_59 : h59 9 = mh_ur (fun _ => (0 : Int)) 0 (((75 : Nat) : Int) + 1) := by rw [e59, mh_zr_row (by decide)]; exact r9_58
      have r10_59 : h59 10 = mh_ur (mh_ur (mh_ur (mh_ur (mh_ur (fun _ => (0 : Int)) 0 (((11 : Nat) : Int) + 1)) 1 (((12 : Nat) : Int) + 1)) 2 (((13 : Nat) : Int) + 1)) 3 (((14 : Nat) : Int) + 1)) 4 (((15 : Nat) : Int) + 1) := by rw [e59, mh_zr_row (by decide)]; exact r10_58
      have r16_59 : h59 16 = fun _ => (0 : Int) := by rw [e59, mh_zr_row (by decide)]; exact r16_58
      have r17_59 : h59 17 = fun j => if 0 ≤ j ∧ j < 4 then ((17 : Nat) : Int) + 1 + j + 1 else 0 := by rw [e59, mh_zr_row (by decide)]; exact r17_58
      have r18_59 : h59 18 = fun _ => (0 : Int) := by rw [e59, mh_zr_row (by decide)]; exact r18_58
      have r19_59 : h59 19 = fun _ => (0 : Int) := by rw [e59, mh_zr_row (by decide)]; exact r19_58
      have r20_59 : h59 20 = fun _ => (0 : Int) := by rw [e59, mh_zr_row (by decide)]; exact r20_58
      have r21_59 : h59 21 = fun _ => (0 : Int) := by rw [e59, mh_zr_row (by decide)]; exact r21_58
      have r22_59 : h59 22 = fun _ => (0 : Int) := by rw [e59, mh_zr_row (by decide)]; exact r22_58
      have r23_59 : h59 23 = fun _ => (0 : Int) := by rw [e59, mh_zr_row (by decide)]; exact r23_58
      have r24_59 : h59 24 = fun _ => (0 : Int) := by rw [e59, mh_zr_row (by decide)]; exact r24_58
      have r75_59 : h59 75 = sc_c0 0 := by rw [e59, mh_zr_row (by decide)]; exact r75_58
      have r76_59 : h59 76 = fun _ => (0 : Int) := by rw [e59]; exact mh_zr_rs
      have fr59 : mh_fr [76, 75, 51, 52, 53, 54, 55, 56, 57, 58, 59, 60, 61, 62, 63, 64, 65, 66, 67, 68, 69, 70, 71, 72, 73, 74, 50, 26, 27, 28, 29, 30, 31, 32, 33, 34, 35, 36, 37, 38, 39, 40, 41, 42, 43, 44, 45, 46, 47, 48, 49, 25, 24, 23, 22, 17, 18, 19, 20, 21, 16, 11, 12, 13, 14, 15, 10, 9, 0, 8, 7, 6, 5, 4, 3, 2, 1] h h59 := mh_fr.zr fr58 e59
      have hw25 : sc_w0 h59 25 := hw25.fr (fun a a0 a1 => by rw [e59, mh_zr_row (by omega)])
      have hw50 : sc_w0 h59 50 := hw50.fr (fun a a0 a1 => by rw [e59, mh_zr_row (by omega)])
      refine mh_dup (pc := 203) F dX11_init_203 rfl ?_
      refine mh_iload1 (pc := 204) F dX11_init_204 ?_
      refine mh_aload0 (pc := 205) F dX11_init_205 ?_
      refine mh_getr (b := 1) (pc := 206) F sh_0 (by decide) fw_RX11_30_11 dX11_init_206 rfl (by rw [r0_59]; simp [mh_ur]) ?_
      refine mh_iconst (pc := 209) F dX11_init_209 ?_
      refine mh_aaload (b := 2) (pc := 210) F sh_1 (by decide) (by decide) (by omega) dX11_init_210 (by rw [r1_59]; simp [mh_ur]) ?_
      refine mh_callIx (pc := 211) (As := [.int (Int32.ofInt (1)), .ref 2]) (st := [.ref 76, .int (Int32.ofInt (1)), .ref 9]) (n1 := 77) (cl1 := 76) (sl1 := 8478) F (by omega) (q44_churn (by omega) sh_76 (by decide)) ⟨rfl, rfl, rfl⟩ wi_RX11_79 dX11_init_211 rfl rfl (Nat.le_of_ble_eq_true rfl) (by rw [hR.1, hR.2]; exact ⟨Nat.le_of_ble_eq_true rfl, Nat.le_of_ble_eq_true rfl⟩) (fun r60 h60 q60 => ?_)
      obtain ⟨rfl, fr60, hc60⟩ := q60
      have r0_61 : h60 0 = mh_ur (mh_ur (mh_ur (mh_ur (mh_ur (mh_ur (mh_ur (mh_ur (mh_ur (mh_ur (fun _ => (0 : Int)) 3 (((1 : Nat) : Int) + 1)) 4 (((9 : Nat) : Int) + 1)) 5 (((10 : Nat) : Int) + 1)) 6 (((16 : Nat) : Int) + 1)) 7 (((17 : Nat) : Int) + 1)) 8 (((22 : Nat) : Int) + 1)) 9 (((23 : Nat) : Int) + 1)) 10 (((24 : Nat) : Int) + 1)) 0 (((25 : Nat) : Int) + 1)) 1 (((50 : Nat) : Int) + 1) := (fr60 _ (by decide)).trans r0_59
      have r1_61 : h60 1 = mh_ur (mh_ur (mh_ur (mh_ur (mh_ur (mh_ur (mh_ur (fun _ => (0 : Int)) 0 (((2 : Nat) : Int) + 1)) 1 (((3 : Nat) : Int) + 1)) 2 (((4 : Nat) : Int) + 1)) 3 (((5 : Nat) : Int) + 1)) 4 (((6 : Nat) : Int) + 1)) 5 (((7 : Nat) : Int) + 1)) 6 (((8 : Nat) : Int) + 1) := (fr60 _ (by decide)).trans r1_59
      have r2_61 : h60 2 = mh_ur (fun _ => (0 : Int)) 0 0 := (fr60 _ (by decide)).trans r2_59
      have r3_61 : h60 3 = mh_ur (fun _ => (0 : Int)) 0 1 := (fr60 _ (by decide)).trans r3_59
      have r4_61 : h60 4 = mh_ur (fun _ => (0 : Int)) 0 2 := (fr60 _ (by decide)).trans r4_59
      have r5_61 : h60 5 = mh_ur (fun _ => (0 : Int)) 0 3 := (fr60 _ (by decide)).trans r5_59
      have r6_61 : h60 6 = mh_ur (fun _ => (0 : Int)) 0 4 := (fr60 _ (by decide)).trans r6_59
      have r7_61 : h60 7 = mh_ur (fun _ => (0 : Int)) 0 5 := (fr60 _ (by decide)).trans r7_59
      have r8_61 : h60 8 = mh_ur (fun _ => (0 : Int)) 0 6 := (fr60 _ (by decide)).trans r8_59
      have r9_61 : h60 9 = mh_ur (fun _ => (0 : Int)) 0 (((75 : Nat) : Int) + 1) := (fr60 _ (by decide)).trans r9_59
      have r10_61 : h60 10 = mh_ur (mh_ur (mh_ur (mh_ur (mh_ur (fun _ => (0 : Int)) 0 (((11 : Nat) : Int) + 1)) 1 (((12 : Nat) : Int) + 1)) 2 (((13 : Nat) : Int) + 1)) 3 (((14 : Nat) : Int) + 1)) 4 (((15 : Nat) : Int) + 1) := (fr60 _ (by decide)).trans r10_59
      have r16_61 : h60 16 = fun _ => (0 : Int) := (fr60 _ (by decide)).trans r16_59
      have r17_61 : h60 17 = fun j => if 0 ≤ j ∧ j < 4 then ((17 : Nat) : Int) + 1 + j + 1 else 0 := (fr60 _ (by decide)).trans r17_59
      have r18_61 : h60 18 = fun _ => (0 : Int) := (fr60 _ (by decide)).trans r18_59
      have r19_61 : h60 19 = fun _ => (0 : Int) := (fr60 _ (by decide)).trans r19_59
      have r20_61 : h60 20 = fun _ => (0 : Int) := (fr60 _ (by decide)).trans r20_59
      have r21_61 : h60 21 = fun _ => (0 : Int) := (fr60 _ (by decide)).trans r21_59
      have r22_61 : h60 22 = fun _ => (0 : Int) := (fr60 _ (by decide)).trans r22_59
      have r23_61 : h60 23 = fun _ => (0 : Int) := (fr60 _ (by decide)).trans r23_59
      have r24_61 : h60 24 = fun _ => (0 : Int) := (fr60 _ (by decide)).trans r24_59
      have r75_61 : h60 75 = sc_c0 0 := (fr60 _ (by decide)).trans r75_59
      have hw25 : sc_w0 h60 25 := hw25.fr (fun a a0 a1 => fr60 a (by simp; omega))
      have hw50 : sc_w0 h60 50 := hw50.fr (fun a a0 a1 => fr60 a (by simp; omega))
      have fr61 : mh_fr [76, 75, 51, 52, 53, 54, 55, 56, 57, 58, 59, 60, 61, 62, 63, 64, 65, 66, 67, 68, 69, 70, 71, 72, 73, 74, 50, 26, 27, 28, 29, 30, 31, 32, 33, 34, 35, 36, 37, 38, 39, 40, 41, 42, 43, 44, 45, 46, 47, 48, 49, 25, 24, 23, 22, 17, 18, 19, 20, 21, 16, 11, 12, 13, 14, 15, 10, 9, 0, 8, 7, 6, 5, 4, 3, 2, 1] h h60 := (mh_fr.tr fr59 fr60).mono (by simp)
      refine mh_aastore (pc := 214) F sh_9 sh_76 (by decide) rfl (by decide) (by decide) (by decide) (Or.inl rfl) dX11_init_214 ?_
      refine mh_nmh (fun h62 e62 => ?_)
      have r0_62 : h62 0 = mh_ur (mh_ur (mh_ur (mh_ur (mh_ur (mh_ur (mh_ur (mh_ur (mh_ur (mh_ur (fun _ => (0 : Int)) 3 (((1 : Nat) : Int) + 1)) 4 (((9 : Nat) : Int) + 1)) 5 (((10 : Nat) : Int) + 1)) 6 (((16 : Nat) : Int) + 1)) 7 (((17 : Nat) : Int) + 1)) 8 (((22 : Nat) : Int) + 1)) 9 (((23 : Nat) : Int) + 1)) 10 (((24 : Nat) : Int) + 1)) 0 (((25 : Nat) : Int) + 1)) 1 (((50 : Nat) : Int) + 1) := by rw [e62, mh_up_row (by decide)]; exact r0_61
      have r1_62 : h62 1 = mh_ur (mh_ur (mh_ur (mh_ur (mh_ur (mh_ur (mh_ur (fun _ => (0 : Int)) 0 (((2 : Nat) : Int) + 1)) 1 (((3 : Nat) : Int) + 1)) 2 (((4 : Nat) : Int) + 1)) 3 (((5 : Nat) : Int) + 1)) 4 (((6 : Nat) : Int) + 1)) 5 (((7 : Nat) : Int) + 1)) 6 (((8 : Nat) : Int) + 1) := by rw [e62, mh_up_row (by decide)]; exact r1_61
      have r2_62 : h62 2 = mh_ur (fun _ => (0 : Int)) 0 0 := by rw [e62, mh_up_row (by decide)]; exact r2_61
      have r3_62 : h62 3 = mh_ur (fun _ => (0 : Int)) 0 1 := by rw [e62, mh_up_row (by decide)]; exact r3_61
      have r4_62 : h62 4 = mh_ur (fun _ => (0 : Int)) 0 2 := by rw [e62, mh_up_row (by decide)]; exact r4_61
      have r5_62 : h62 5 = mh_ur (fun _ => (0 : Int)) 0 3 := by rw [e62, mh_up_row (by decide)]; exact r5_61
      have r6_62 : h62 6 = mh_ur (fun _ => (0 : Int)) 0 4 := by rw [e62, mh_up_row (by decide)]; exact r6_61
      have r7_62 : h62 7 = mh_ur (fun _ => (0 : Int)) 0 5 := by rw [e62, mh_up_row (by decide)]; exact r7_61
      have r8_62 : h62 8 = mh_ur (fun _ => (0 : Int)) 0 6 := by rw [e62, mh_up_row (by decide)]; exact r8_61
      have r9_62 : h62 9 = mh_ur (mh_ur (fun _ => (0 : Int)) 0 (((75 : Nat) : Int) + 1)) 1 (((76 : Nat) : Int) + 1) := by rw [e62, mh_up_rs, r9_61] <;> rfl
      have r10_62 : h62 10 = mh_ur (mh_ur (mh_ur (mh_ur (mh_ur (fun _ => (0 : Int)) 0 (((11 : Nat) : Int) + 1)) 1 (((12 : Nat) : Int) + 1)) 2 (((13 : Nat) : Int) + 1)) 3 (((14 : Nat) : Int) + 1)) 4 (((15 : Nat) : Int) + 1) := by rw [e62, mh_up_row (by decide)]; exact r10_61
      have r16_62 : h62 16 = fun _ => (0 : Int) := by rw [e62, mh_up_row (by decide)]; exact r16_61
      have r17_62 : h62 17 = fun j => if 0 ≤ j ∧ j < 4 then ((17 : Nat) : Int) + 1 + j + 1 else 0 := by rw [e62, mh_up_row (by decide)]; exact r17_61
      have r18_62 : h62 18 = fun _ => (0 : Int) := by rw [e62, mh_up_row (by decide)]; exact r18_61
      have r19_62 : h62 19 = fun _ => (0 : Int) := by rw [e62, mh_up_row (by decide)]; exact r19_61
      have r20_62 : h62 20 = fun _ => (0 : Int) := by rw [e62, mh_up_row (by decide)]; exact r20_61
      have r21_62 : h62 21 = fun _ => (0 : Int) := by rw [e62, mh_up_row (by decide)]; exact r21_61
      have r22_62 : h62 22 = fun _ => (0 : Int) := by rw [e62, mh_up_row (by decide)]; exact r22_61
      have r23_62 : h62 23 = fun _ => (0 : Int) := by rw [e62, mh_up_row (by decide)]; exact r23_61
      have r24_62 : h62 24 = fun _ => (0 : Int) := by rw [e62, mh_up_row (by decide)]; exact r24_61
      have r75_62 : h62 75 = sc_c0 0 := by rw [e62, mh_up_row (by decide)]; exact r75_61
      have r76_62 : h62 76 = sc_c0 1 := by rw [e62, mh_up_row (by decide)]; exact (hc60.trans (by rw [r76_59]; rfl))
      have hw25 : sc_w0 h62 25 := hw25.fr (fun a a0 a1 => by rw [e62, mh_up_row (by omega)])
      have hw50 : sc_w0 h62 50 := hw50.fr (fun a a0 a1 => by rw [e62, mh_up_row (by omega)])
      have fr62 : mh_fr [76, 75, 51, 52, 53, 54, 55, 56, 57, 58, 59, 60, 61, 62, 63, 64, 65, 66, 67, 68, 69, 70, 71, 72, 73, 74, 50, 26, 27, 28, 29, 30, 31, 32, 33, 34, 35, 36, 37, 38, 39, 40, 41, 42, 43, 44, 45, 46, 47, 48, 49, 25, 24, 23, 22, 17, 18, 19, 20, 21, 16, 11, 12, 13, 14, 15, 10, 9, 0, 8, 7, 6, 5, 4, 3, 2, 1] h h62 := mh_fr.upi fr61 e62 (by simp)
      refine mh_iinc1 (pc := 215) F dX11_init_215 rfl (by decide) ?_
      refine mh_goto (pc := 218) (tgt := 189) F dX11_init_218 rfl ?_
      refine mh_iload1 (pc := 189) F dX11_init_189 ?_
      refine mh_bipush (pc := 190) F dX11_init_190 rfl ?_
      refine mh_icmp_ge (pc := 192) (tgt := 221) F dX11_init_192 rfl (by omega) (by omega) (fun c_192 => ?_) (fun c_192 => ?_)
      · exact absurd c_192 (by decide)
      · refine mh_aload0 (pc := 195) F dX11_init_195 ?_
        refine mh_getr (b := 9) (pc := 196) F sh_0 (by decide) fw_RX11_38_11 dX11_init_196 rfl (by rw [r0_62]; simp [mh_ur]) ?_
        refine mh_iload1 (pc := 199) F dX11_init_199 ?_
        refine mh_new (ci := 0) (n1 := 78) (cl1 := 77) (sl1 := 8488) (pc := 200) F sh_77 (by decide) tw_1_91 tw_2_114 tw_1_20 ⟨rfl, rfl, rfl⟩ (by rw [hR.1, hR.2]; exact ⟨Nat.le_of_ble_eq_true rfl, Nat.le_of_ble_eq_true rfl⟩) dX11_init_200 ?_
        refine mh_nmh (fun h63 e63 => ?_)
        have r0_63 : h63 0 = mh_ur (mh_ur (mh_ur (mh_ur (mh_ur (mh_ur (mh_ur (mh_ur (mh_ur (mh_ur (fun _ => (0 : Int)) 3 (((1 : Nat) : Int) + 1)) 4 (((9 : Nat) : Int) + 1)) 5 (((10 : Nat) : Int) + 1)) 6 (((16 : Nat) : Int) + 1)) 7 (((17 : Nat) : Int) + 1)) 8 (((22 : Nat) : Int) + 1)) 9 (((23 : Nat) : Int) + 1)) 10 (((24 : Nat) : Int) + 1)) 0 (((25 : Nat) : Int) + 1)) 1 (((50 : Nat) : Int) + 1) := by rw [e63, mh_zr_row (by decide)]; exact r0_62
        have r1_63 : h63 1 = mh_ur (mh_ur (mh_ur (mh_ur (mh_ur (mh_ur (mh_ur (fun _ => (0 : Int)) 0 (((2 : Nat) : Int) + 1)) 1 (((3 : Nat) : Int) + 1)) 2 (((4 : Nat) : Int) + 1)) 3 (((5 : Nat) : Int) + 1)) 4 (((6 : Nat) : Int) + 1)) 5 (((7 : Nat) : Int) + 1)) 6 (((8 : Nat) : Int) + 1) := by rw [e63, mh_zr_row (by decide)]; exact r1_62
        have r2_63 : h63 2 = mh_ur (fun _ => (0 : Int)) 0 0 := by rw [e63, mh_zr_row (by decide)]; exact r2_62
        have r3_63 : h63 3 = mh_ur (fun _ => (0 : Int)) 0 1 := by rw [e63, mh_zr_row (by decide)]; exact r3_62
        have r4_63 : h63 4 = mh_ur (fun _ => (0 : Int)) 0 2 := by rw [e63, mh_zr_row (by decide)]; exact r4_62
        have r5_63 : h63 5 = mh_ur (fun _ => (0 : Int)) 0 3 := by rw [e63, mh_zr_row (by decide)]; exact r5_62
        have r6_63 : h63 6 = mh_ur (fun _ => (0 : Int)) 0 4 := by rw [e63, mh_zr_row (by decide)]; exact r6_62
        have r7_63 : h63 7 = mh_ur (fun _ => (0 : Int)) 0 5 := by rw [e63, mh_zr_row (by decide)]; exact r7_62
        have r8_63 : h63 8 = mh_ur (fun _ => (0 : Int)) 0 6 := by rw [e63, mh_zr_row (by decide)]; exact r8_62
        have r9_63 : h63 9 = mh_ur (mh_ur (fun _ => (0 : Int)) 0 (((75 : Nat) : Int) + 1)) 1 (((76 : Nat) : Int) + 1) := by rw [e63, mh_zr_row (by decide)]; exact r9_62
        have r10_63 : h63 10 = mh_ur (mh_ur (mh_ur (mh_ur (mh_ur (fun _ => (0 : Int)) 0 (((11 : Nat) : Int) + 1)) 1 (((12 : Nat) : Int) + 1)) 2 (((13 : Nat) : Int) + 1)) 3 (((14 : Nat) : Int) + 1)) 4 (((15 : Nat) : Int) + 1) := by rw [e63, mh_zr_row (by decide)]; exact r10_62
        have r16_63 : h63 16 = fun _ => (0 : Int) := by rw [e63, mh_zr_row (by decide)]; exact r16_62
        have r17_63 : h63 17 = fun j => if 0 ≤ j ∧ j < 4 then ((17 : Nat) : Int) + 1 + j + 1 else 0 := by rw [e63, mh_zr_row (by decide)]; exact r17_62
        have r18_63 : h63 18 = fun _ => (0 : Int) := by rw [e63, mh_zr_row (by decide)]; exact r18_62
        have r19_63 : h63 19 = fun _ => (0 : Int) := by rw [e63, mh_zr_row (by decide)]; exact r19_62
        have r20_63 : h63 20 = fun _ => (0 : Int) := by rw [e63, mh_zr_row (by decide)]; exact r20_62
        have r21_63 : h63 21 = fun _ => (0 : Int) := by rw [e63, mh_zr_row (by decide)]; exact r21_62
        have r22_63 : h63 22 = fun _ => (0 : Int) := by rw [e63, mh_zr_row (by decide)]; exact r22_62
        have r23_63 : h63 23 = fun _ => (0 : Int) := by rw [e63, mh_zr_row (by decide)]; exact r23_62
        have r24_63 : h63 24 = fun _ => (0 : Int) := by rw [e63, mh_zr_row (by decide)]; exact r24_62
        have r75_63 : h63 75 = sc_c0 0 := by rw [e63, mh_zr_row (by decide)]; exact r75_62
        have r76_63 : h63 76 = sc_c0 1 := by rw [e63, mh_zr_row (by decide)]; exact r76_62
        have r77_63 : h63 77 = fun _ => (0 : Int) := by rw [e63]; exact mh_zr_rs
        have fr63 : mh_fr [77, 76, 75, 51, 52, 53, 54, 55, 56, 57, 58, 59, 60, 61, 62, 63, 64, 65, 66, 67, 68, 69, 70, 71, 72, 73, 74, 50, 26, 27, 28, 29, 30, 31, 32, 33, 34, 35, 36, 37, 38, 39, 40, 41, 42, 43, 44, 45, 46, 47, 48, 49, 25, 24, 23, 22, 17, 18, 19, 20, 21, 16, 11, 12, 13, 14, 15, 10, 9, 0, 8, 7, 6, 5, 4, 3, 2, 1] h h63 := mh_fr.zr fr62 e63
        have hw25 : sc_w0 h63 25 := hw25.fr (fun a a0 a1 => by rw [e63, mh_zr_row (by omega)])
        have hw50 : sc_w0 h63 50 := hw50.fr (fun a a0 a1 => by rw [e63, mh_zr_row (by omega)])
        refine mh_dup (pc := 203) F dX11_init_203 rfl ?_
        refine mh_iload1 (pc := 204) F dX11_init_204 ?_
        refine mh_aload0 (pc := 205) F dX11_init_205 ?_
        refine mh_getr (b := 1) (pc := 206) F sh_0 (by decide) fw_RX11_30_11 dX11_init_206 rfl (by rw [r0_63]; simp [mh_ur]) ?_
        refine mh_iconst (pc := 209) F dX11_init_209 ?_
        refine mh_aaload (b := 2) (pc := 210) F sh_1 (by decide) (by decide) (by omega) dX11_init_210 (by rw [r1_63]; simp [mh_ur]) ?_
        refine mh_callIx (pc := 211) (As := [.int (Int32.ofInt (2)), .ref 2]) (st := [.ref 77, .int (Int32.ofInt (2)), .ref 9]) (n1 := 78) (cl1 := 77) (sl1 := 8488) F (by omega) (q44_churn (by omega) sh_77 (by decide)) ⟨rfl, rfl, rfl⟩ wi_RX11_79 dX11_init_211 rfl rfl (Nat.le_of_ble_eq_true rfl) (by rw [hR.1, hR.2]; exact ⟨Nat.le_of_ble_eq_true rfl, Nat.le_of_ble_eq_true rfl⟩) (fun r64 h64 q64 => ?_)
        obtain ⟨rfl, fr64, hc64⟩ := q64
        have r0_65 : h64 0 = mh_ur (mh_ur (mh_ur (mh_ur (mh_ur (mh_ur (mh_ur (mh_ur (mh_ur (mh_ur (fun _ => (0 : Int)) 3 (((1 : Nat) : Int) + 1)) 4 (((9 : Nat) : Int) + 1)) 5 (((10 : Nat) : Int) + 1)) 6 (((16 : Nat) : Int) + 1)) 7 (((17 : Nat) : Int) + 1)) 8 (((22 : Nat) : Int) + 1)) 9 (((23 : Nat) : Int) + 1)) 10 (((24 : Nat) : Int) + 1)) 0 (((25 : Nat) : Int) + 1)) 1 (((50 : Nat) : Int) + 1) := (fr64 _ (by decide)).trans r0_63
        have r1_65 : h64 1 = mh_ur (mh_ur (mh_ur (mh_ur (mh_ur (mh_ur (mh_ur (fun _ => (0 : Int)) 0 (((2 : Nat) : Int) + 1)) 1 (((3 : Nat) : Int) + 1)) 2 (((4 : Nat) : Int) + 1)) 3 (((5 : Nat) : Int) + 1)) 4 (((6 : Nat) : Int) + 1)) 5 (((7 : Nat) : Int) + 1)) 6 (((8 : Nat) : Int) + 1) := (fr64 _ (by decide)).trans r1_63
        have r2_65 : h64 2 = mh_ur (fun _ => (0 : Int)) 0 0 := (fr64 _ (by decide)).trans r2_63
        have r3_65 : h64 3 = mh_ur (fun _ => (0 : Int)) 0 1 := (fr64 _ (by decide)).trans r3_63
        have r4_65 : h64 4 = mh_ur (fun _ => (0 : Int)) 0 2 := (fr64 _ (by decide)).trans r4_63
        have r5_65 : h64 5 = mh_ur (fun _ => (0 : Int)) 0 3 := (fr64 _ (by decide)).trans r5_63
        have r6_65 : h64 6 = mh_ur (fun _ => (0 : Int)) 0 4 := (fr64 _ (by decide)).trans r6_63
        have r7_65 : h64 7 = mh_ur (fun _ => (0 : Int)) 0 5 := (fr64 _ (by decide)).trans r7_63
        have r8_65 : h64 8 = mh_ur (fun _ => (0 : Int)) 0 6 := (fr64 _ (by decide)).trans r8_63
        have r9_65 : h64 9 = mh_ur (mh_ur (fun _ => (0 : Int)) 0 (((75 : Nat) : Int) + 1)) 1 (((76 : Nat) : Int) + 1) := (fr64 _ (by decide)).trans r9_63
        have r10_65 : h64 10 = mh_ur (mh_ur (mh_ur (mh_ur (mh_ur (fun _ => (0 : Int)) 0 (((11 : Nat) : Int) + 1)) 1 (((12 : Nat) : Int) + 1)) 2 (((13 : Nat) : Int) + 1)) 3 (((14 : Nat) : Int) + 1)) 4 (((15 : Nat) : Int) + 1) := (fr64 _ (by decide)).trans r10_63
        have r16_65 : h64 16 = fun _ => (0 : Int) := (fr64 _ (by decide)).trans r16_63
        have r17_65 : h64 17 = fun j => if 0 ≤ j ∧ j < 4 then ((17 : Nat) : Int) + 1 + j + 1 else 0 := (fr64 _ (by decide)).trans r17_63
        have r18_65 : h64 18 = fun _ => (0 : Int) := (fr64 _ (by decide)).trans r18_63
        have r19_65 : h64 19 = fun _ => (0 : Int) := (fr64 _ (by decide)).trans r19_63
        have r20_65 : h64 20 = fun _ => (0 : Int) := (fr64 _ (by decide)).trans r20_63
        have r21_65 : h64 21 = fun _ => (0 : Int) := (fr64 _ (by decide)).trans r21_63
        have r22_65 : h64 22 = fun _ => (0 : Int) := (fr64 _ (by decide)).trans r22_63
        have r23_65 : h64 23 = fun _ => (0 : Int) := (fr64 _ (by decide)).trans r23_63
        have r24_65 : h64 24 = fun _ => (0 : Int) := (fr64 _ (by decide)).trans r24_63
        have r75_65 : h64 75 = sc_c0 0 := (fr64 _ (by decide)).trans r75_63
        have r76_65 : h64 76 = sc_c0 1 := (fr64 _ (by decide)).trans r76_63
        have hw25 : sc_w0 h64 25 := hw25.fr (fun a a0 a1 => fr64 a (by simp; omega))
        have hw50 : sc_w0 h64 50 := hw50.fr (fun a a0 a1 => fr64 a (by simp; omega))
        have fr65 : mh_fr [77, 76, 75, 51, 52, 53, 54, 55, 56, 57, 58, 59, 60, 61, 62, 63, 64, 65, 66, 67, 68, 69, 70, 71, 72, 73, 74, 50, 26, 27, 28, 29, 30, 31, 32, 33, 34, 35, 36, 37, 38, 39, 40, 41, 42, 43, 44, 45, 46, 47, 48, 49, 25, 24, 23, 22, 17, 18, 19, 20, 21, 16, 11, 12, 13, 14, 15, 10, 9, 0, 8, 7, 6, 5, 4, 3, 2, 1] h h64 := (mh_fr.tr fr63 fr64).mono (by simp)
        refine mh_aastore (pc := 214) F sh_9 sh_77 (by decide) rfl (by decide) (by decide) (by decide) (Or.inl rfl) dX11_init_214 ?_
        refine mh_nmh (fun h66 e66 => ?_)
        have r0_66 : h66 0 = mh_ur (mh_ur (mh_ur (mh_ur (mh_ur (mh_ur (mh_ur (mh_ur (mh_ur (mh_ur (fun _ => (0 : Int)) 3 (((1 : Nat) : Int) + 1)) 4 (((9 : Nat) : Int) + 1)) 5 (((10 : Nat) : Int) + 1)) 6 (((16 : Nat) : Int) + 1)) 7 (((17 : Nat) : Int) + 1)) 8 (((22 : Nat) : Int) + 1)) 9 (((23 : Nat) : Int) + 1)) 10 (((24 : Nat) : Int) + 1)) 0 (((25 : Nat) : Int) + 1)) 1 (((50 : Nat) : Int) + 1) := by rw [e66, mh_up_row (by decide)]; exact r0_65
        have r1_66 : h66 1 = mh_ur (mh_ur (mh_ur (mh_ur (mh_ur (mh_ur (mh_ur (fun _ => (0 : Int)) 0 (((2 : Nat) : Int) + 1)) 1 (((3 : Nat) : Int) + 1)) 2 (((4 : Nat) : Int) + 1)) 3 (((5 : Nat) : Int) + 1)) 4 (((6 : Nat) : Int) + 1)) 5 (((7 : Nat) : Int) + 1)) 6 (((8 : Nat) : Int) + 1) := by rw [e66, mh_up_row (by decide)]; exact r1_65
        have r2_66 : h66 2 = mh_ur (fun _ => (0 : Int)) 0 0 := by rw [e66, mh_up_row (by decide)]; exact r2_65
        have r3_66 : h66 3 = mh_ur (fun _ => (0 : Int)) 0 1 := by rw [e66, mh_up_row (by decide)]; exact r3_65
        have r4_66 : h66 4 = mh_ur (fun _ => (0 : Int)) 0 2 := by rw [e66, mh_up_row (by decide)]; exact r4_65
        have r5_66 : h66 5 = mh_ur (fun _ => (0 : Int)) 0 3 := by rw [e66, mh_up_row (by decide)]; exact r5_65
        have r6_66 : h66 6 = mh_ur (fun _ => (0 : Int)) 0 4 := by rw [e66, mh_up_row (by decide)]; exact r6_65
        have r7_66 : h66 7 = mh_ur (fun _ => (0 : Int)) 0 5 := by rw [e66, mh_up_row (by decide)]; exact r7_65
        have r8_66 : h66 8 = mh_ur (fun _ => (0 : Int)) 0 6 := by rw [e66, mh_up_row (by decide)]; exact r8_65
        have r9_66 : h66 9 = mh_ur (mh_ur (mh_ur (fun _ => (0 : Int)) 0 (((75 : Nat) : Int) + 1)) 1 (((76 : Nat) : Int) + 1)) 2 (((77 : Nat) : Int) + 1) := by rw [e66, mh_up_rs, r9_65] <;> rfl
        have r10_66 : h66 10 = mh_ur (mh_ur (mh_ur (mh_ur (mh_ur (fun _ => (0 : Int)) 0 (((11 : Nat) : Int) + 1)) 1 (((12 : Nat) : Int) + 1)) 2 (((13 : Nat) : Int) + 1)) 3 (((14 : Nat) : Int) + 1)) 4 (((15 : Nat) : Int) + 1) := by rw [e66, mh_up_row (by decide)]; exact r10_65
        have r16_66 : h66 16 = fun _ => (0 : Int) := by rw [e66, mh_up_row (by decide)]; exact r16_65
        have r17_66 : h66 17 = fun j => if 0 ≤ j ∧ j < 4 then ((17 : Nat) : Int) + 1 + j + 1 else 0 := by rw [e66, mh_up_row (by decide)]; exact r17_65
        have r18_66 : h66 18 = fun _ => (0 : Int) := by rw [e66, mh_up_row (by decide)]; exact r18_65
        have r19_66 : h66 19 = fun _ => (0 : Int) := by rw [e66, mh_up_row (by decide)]; exact r19_65
        have r20_66 : h66 20 = fun _ => (0 : Int) := by rw [e66, mh_up_row (by decide)]; exact r20_65
        have r21_66 : h66 21 = fun _ => (0 : Int) := by rw [e66, mh_up_row (by decide)]; exact r21_65
        have r22_66 : h66 22 = fun _ => (0 : Int) := by rw [e66, mh_up_row (by decide)]; exact r22_65
        have r23_66 : h66 23 = fun _ => (0 : Int) := by rw [e66, mh_up_row (by decide)]; exact r23_65
        have r24_66 : h66 24 = fun _ => (0 : Int) := by rw [e66, mh_up_row (by decide)]; exact r24_65
        have r75_66 : h66 75 = sc_c0 0 := by rw [e66, mh_up_row (by decide)]; exact r75_65
        have r76_66 : h66 76 = sc_c0 1 := by rw [e66, mh_up_row (by decide)]; exact r76_65
        have r77_66 : h66 77 = sc_c0 2 := by rw [e66, mh_up_row (by decide)]; exact (hc64.trans (by rw [r77_63]; rfl))
        have hw25 : sc_w0 h66 25 := hw25.fr (fun a a0 a1 => by rw [e66, mh_up_row (by omega)])
        have hw50 : sc_w0 h66 50 := hw50.fr (fun a a0 a1 => by rw [e66, mh_up_row (by omega)])
        have fr66 : mh_fr [77, 76, 75, 51, 52, 53, 54, 55, 56, 57, 58, 59, 60, 61, 62, 63, 64, 65, 66, 67, 68, 69, 70, 71, 72, 73, 74, 50, 26, 27, 28, 29, 30, 31, 32, 33, 34, 35, 36, 37, 38, 39, 40, 41, 42, 43, 44, 45, 46, 47, 48, 49, 25, 24, 23, 22, 17, 18, 19, 20, 21, 16, 11, 12, 13, 14, 15, 10, 9, 0, 8, 7, 6, 5, 4, 3, 2, 1] h h66 := mh_fr.upi fr65 e66 (by simp)
        refine mh_iinc1 (pc := 215) F dX11_init_215 rfl (by decide) ?_
        refine mh_goto (pc := 218) (tgt := 189) F dX11_init_218 rfl ?_
        refine mh_iload1 (pc := 189) F dX11_init_189 ?_
        refine mh_bipush (pc := 190) F dX11_init_190 rfl ?_
        refine mh_icmp_ge (pc := 192) (tgt := 221) F dX11_init_192 rfl (by omega) (by omega) (fun c_192 => ?_) (fun c_192 => ?_)
        · exact absurd c_192 (by decide)
        · refine mh_aload0 (pc := 195) F dX11_init_195 ?_
          refine mh_getr (b := 9) (pc := 196) F sh_0 (by decide) fw_RX11_38_11 dX11_init_196 rfl (by rw [r0_66]; simp [mh_ur]) ?_
          refine mh_iload1 (pc := 199) F dX11_init_199 ?_
          refine mh_new (ci := 0) (n1 := 79) (cl1 := 78) (sl1 := 8498) (pc := 200) F sh_78 (by decide) tw_1_91 tw_2_114 tw_1_20 ⟨rfl, rfl, rfl⟩ (by rw [hR.1, hR.2]; exact ⟨Nat.le_of_ble_eq_true rfl, Nat.le_of_ble_eq_true rfl⟩) dX11_init_200 ?_
          refine mh_nmh (fun h67 e67 => ?_)
          have r0_67 : h67 0 = mh_ur (mh_ur (mh_ur (mh_ur (mh_ur (mh_ur (mh_ur (mh_ur (mh_ur (mh_ur (fun _ => (0 : Int)) 3 (((1 : Nat) : Int) + 1)) 4 (((9 : Nat) : Int) + 1)) 5 (((10 : Nat) : Int) + 1)) 6 (((16 : Nat) : Int) + 1)) 7 (((17 : Nat) : Int) + 1)) 8 (((22 : Nat) : Int) + 1)) 9 (((23 : Nat) : Int) + 1)) 10 (((24 : Nat) : Int) + 1)) 0 (((25 : Nat) : Int) + 1)) 1 (((50 : Nat) : Int) + 1) := by rw [e67, mh_zr_row (by decide)]; exact r0_66
          have r1_67 : h67 1 = mh_ur (mh_ur (mh_ur (mh_ur (mh_ur (mh_ur (mh_ur (fun _ => (0 : Int)) 0 (((2 : Nat) : Int) + 1)) 1 (((3 : Nat) : Int) + 1)) 2 (((4 : Nat) : Int) + 1)) 3 (((5 : Nat) : Int) + 1)) 4 (((6 : Nat) : Int) + 1)) 5 (((7 : Nat) : Int) + 1)) 6 (((8 : Nat) : Int) + 1) := by rw [e67, mh_zr_row (by decide)]; exact r1_66
          have r2_67 : h67 2 = mh_ur (fun _ => (0 : Int)) 0 0 := by rw [e67, mh_zr_row (by decide)]; exact r2_66
          have r3_67 : h67 3 = mh_ur (fun _ => (0 : Int)) 0 1 := by rw [e67, mh_zr_row (by decide)]; exact r3_66
          have r4_67 : h67 4 = mh_ur (fun _ => (0 : Int)) 0 2 := by rw [e67, mh_zr_row (by decide)]; exact r4_66
          have r5_67 : h67 5 = mh_ur (fun _ => (0 : Int)) 0 3 := by rw [e67, mh_zr_row (by decide)]; exact r5_66
          have r6_67 : h67 6 = mh_ur (fun _ => (0 : Int)) 0 4 := by rw [e67, mh_zr_row (by decide)]; exact r6_66
          have r7_67 : h67 7 = mh_ur (fun _ => (0 : Int)) 0 5 := by rw [e67, mh_zr_row (by decide)]; exact r7_66
          have r8_67 : h67 8 = mh_ur (fun _ => (0 : Int)) 0 6 := by rw [e67, mh_zr_row (by decide)]; exact r8_66
          have r9_67 : h67 9 = mh_ur (mh_ur (mh_ur (fun _ => (0 : Int)) 0 (((75 : Nat) : Int) + 1)) 1 (((76 : Nat) : Int) + 1)) 2 (((77 : Nat) : Int) + 1) := by rw [e67, mh_zr_row (by decide)]; exact r9_66
          have r10_67 : h67 10 = mh_ur (mh_ur (mh_ur (mh_ur (mh_ur (fun _ => (0 : Int)) 0 (((11 : Nat) : Int) + 1)) 1 (((12 : Nat) : Int) + 1)) 2 (((13 : Nat) : Int) + 1)) 3 (((14 : Nat) : Int) + 1)) 4 (((15 : Nat) : Int) + 1) := by rw [e67, mh_zr_row (by decide)]; exact r10_66
          have r16_67 : h67 16 = fun _ => (0 : Int) := by rw [e67, mh_zr_row (by decide)]; exact r16_66
          have r17_67 : h67 17 = fun j => if 0 ≤ j ∧ j < 4 then ((17 : Nat) : Int) + 1 + j + 1 else 0 := by rw [e67, mh_zr_row (by decide)]; exact r17_66
          have r18_67 : h67 18 = fun _ => (0 : Int) := by rw [e67, mh_zr_row (by decide)]; exact r18_66
          have r19_67 : h67 19 = fun _ => (0 : Int) := by rw [e67, mh_zr_row (by decide)]; exact r19_66
          have r20_67 : h67 20 = fun _ => (0 : Int) := by rw [e67, mh_zr_row (by decide)]; exact r20_66
          have r21_67 : h67 21 = fun _ => (0 : Int) := by rw [e67, mh_zr_row (by decide)]; exact r21_66
          have r22_67 : h67 22 = fun _ => (0 : Int) := by rw [e67, mh_zr_row (by decide)]; exact r22_66
          have r23_67 : h67 23 = fun _ => (0 : Int) := by rw [e67, mh_zr_row (by decide)]; exact r23_66
          have r24_67 : h67 24 = fun _ => (0 : Int) := by rw [e67, mh_zr_row (by decide)]; exact r24_66
          have r75_67 : h67 75 = sc_c0 0 := by rw [e67, mh_zr_row (by decide)]; exact r75_66
          have r76_67 : h67 76 = sc_c0 1 := by rw [e67, mh_zr_row (by decide)]; exact r76_66
          have r77_67 : h67 77 = sc_c0 2 := by rw [e67, mh_zr_row (by decide)]; exact r77_66
          have r78_67 : h67 78 = fun _ => (0 : Int) := by rw [e67]; exact mh_zr_rs
          have fr67 : mh_fr [78, 77, 76, 75, 51, 52, 53, 54, 55, 56, 57, 58, 59, 60, 61, 62, 63, 64, 65, 66, 67, 68, 69, 70, 71, 72, 73, 74, 50, 26, 27, 28, 29, 30, 31, 32, 33, 34, 35, 36, 37, 38, 39, 40, 41, 42, 43, 44, 45, 46, 47, 48, 49, 25, 24, 23, 22, 17, 18, 19, 20, 21, 16, 11, 12, 13, 14, 15, 10, 9, 0, 8, 7, 6, 5, 4, 3, 2, 1] h h67 := mh_fr.zr fr66 e67
          have hw25 : sc_w0 h67 25 := hw25.fr (fun a a0 a1 => by rw [e67, mh_zr_row (by omega)])
          have hw50 : sc_w0 h67 50 := hw50.fr (fun a a0 a1 => by rw [e67, mh_zr_row (by omega)])
          refine mh_dup (pc := 203) F dX11_init_203 rfl ?_
          refine mh_iload1 (pc := 204) F dX11_init_204 ?_
          refine mh_aload0 (pc := 205) F dX11_init_205 ?_
          refine mh_getr (b := 1) (pc := 206) F sh_0 (by decide) fw_RX11_30_11 dX11_init_206 rfl (by rw [r0_67]; simp [mh_ur]) ?_
          refine mh_iconst (pc := 209) F dX11_init_209 ?_
          refine mh_aaload (b := 2) (pc := 210) F sh_1 (by decide) (by decide) (by omega) dX11_init_210 (by rw [r1_67]; simp [mh_ur]) ?_
          refine mh_callIx (pc := 211) (As := [.int (Int32.ofInt (3)), .ref 2]) (st := [.ref 78, .int (Int32.ofInt (3)), .ref 9]) (n1 := 79) (cl1 := 78) (sl1 := 8498) F (by omega) (q44_churn (by omega) sh_78 (by decide)) ⟨rfl, rfl, rfl⟩ wi_RX11_79 dX11_init_211 rfl rfl (Nat.le_of_ble_eq_true rfl) (by rw [hR.1, hR.2]; exact ⟨Nat.le_of_ble_eq_true rfl, Nat.le_of_ble_eq_true rfl⟩) (fun r68 h68 q68 => ?_)
          obtain ⟨rfl, fr68, hc68⟩ := q68
          have r0_69 : h68 0 = mh_ur (mh_ur (mh_ur (mh_ur (mh_ur (mh_ur (mh_ur (mh_ur (mh_ur (mh_ur (fun _ => (0 : Int)) 3 (((1 : Nat) : Int) + 1)) 4 (((9 : Nat) : Int) + 1)) 5 (((10 : Nat) : Int) + 1)) 6 (((16 : Nat) : Int) + 1)) 7 (((17 : Nat) : Int) + 1)) 8 (((22 : Nat) : Int) + 1)) 9 (((23 : Nat) : Int) + 1)) 10 (((24 : Nat) : Int) + 1)) 0 (((25 : Nat) : Int) + 1)) 1 (((50 : Nat) : Int) + 1) := (fr68 _ (by decide)).trans r0_67
          have r1_69 : h68 1 = mh_ur (mh_ur (mh_ur (mh_ur (mh_ur (mh_ur (mh_ur (fun _ => (0 : Int)) 0 (((2 : Nat) : Int) + 1)) 1 (((3 : Nat) : Int) + 1)) 2 (((4 : Nat) : Int) + 1)) 3 (((5 : Nat) : Int) + 1)) 4 (((6 : Nat) : Int) + 1)) 5 (((7 : Nat) : Int) + 1)) 6 (((8 : Nat) : Int) + 1) := (fr68 _ (by decide)).trans r1_67
          have r2_69 : h68 2 = mh_ur (fun _ => (0 : Int)) 0 0 := (fr68 _ (by decide)).trans r2_67
          have r3_69 : h68 3 = mh_ur (fun _ => (0 : Int)) 0 1 := (fr68 _ (by decide)).trans r3_67
          have r4_69 : h68 4 = mh_ur (fun _ => (0 : Int)) 0 2 := (fr68 _ (by decide)).trans r4_67
          have r5_69 : h68 5 = mh_ur (fun _ => (0 : Int)) 0 3 := (fr68 _ (by decide)).trans r5_67
          have r6_69 : h68 6 = mh_ur (fun _ => (0 : Int)) 0 4 := (fr68 _ (by decide)).trans r6_67
          have r7_69 : h68 7 = mh_ur (fun _ => (0 : Int)) 0 5 := (fr68 _ (by decide)).trans r7_67
          have r8_69 : h68 8 = mh_ur (fun _ => (0 : Int)) 0 6 := (fr68 _ (by decide)).trans r8_67
          have r9_69 : h68 9 = mh_ur (mh_ur (mh_ur (fun _ => (0 : Int)) 0 (((75 : Nat) : Int) + 1)) 1 (((76 : Nat) : Int) + 1)) 2 (((77 : Nat) : Int) + 1) := (fr68 _ (by decide)).trans r9_67
          have r10_69 : h68 10 = mh_ur (mh_ur (mh_ur (mh_ur (mh_ur (fun _ => (0 : Int)) 0 (((11 : Nat) : Int) + 1)) 1 (((12 : Nat) : Int) + 1)) 2 (((13 : Nat) : Int) + 1)) 3 (((14 : Nat) : Int) + 1)) 4 (((15 : Nat) : Int) + 1) := (fr68 _ (by decide)).trans r10_67
          have r16_69 : h68 16 = fun _ => (0 : Int) := (fr68 _ (by decide)).trans r16_67
          have r17_69 : h68 17 = fun j => if 0 ≤ j ∧ j < 4 then ((17 : Nat) : Int) + 1 + j + 1 else 0 := (fr68 _ (by decide)).trans r17_67
          have r18_69 : h68 18 = fun _ => (0 : Int) := (fr68 _ (by decide)).trans r18_67
          have r19_69 : h68 19 = fun _ => (0 : Int) := (fr68 _ (by decide)).trans r19_67
          have r20_69 : h68 20 = fun _ => (0 : Int) := (fr68 _ (by decide)).trans r20_67
          have r21_69 : h68 21 = fun _ => (0 : Int) := (fr68 _ (by decide)).trans r21_67
          have r22_69 : h68 22 = fun _ => (0 : Int) := (fr68 _ (by decide)).trans r22_67
          have r23_69 : h68 23 = fun _ => (0 : Int) := (fr68 _ (by decide)).trans r23_67
          have r24_69 : h68 24 = fun _ => (0 : Int) := (fr68 _ (by decide)).trans r24_67
          have r75_69 : h68 75 = sc_c0 0 := (fr68 _ (by decide)).trans r75_67
          have r76_69 : h68 76 = sc_c0 1 := (fr68 _ (by decide)).trans r76_67
          have r77_69 : h68 77 = sc_c0 2 := (fr68 _ (by decide)).trans r77_67
          have hw25 : sc_w0 h68 25 := hw25.fr (fun a a0 a1 => fr68 a (by simp; omega))
          have hw50 : sc_w0 h68 50 := hw50.fr (fun a a0 a1 => fr68 a (by simp; omega))
          have fr69 : mh_fr [78, 77, 76, 75, 51, 52, 53, 54, 55, 56, 57, 58, 59, 60, 61, 62, 63, 64, 65, 66, 67, 68, 69, 70, 71, 72, 73, 74, 50, 26, 27, 28, 29, 30, 31, 32, 33, 34, 35, 36, 37, 38, 39, 40, 41, 42, 43, 44, 45, 46, 47, 48, 49, 25, 24, 23, 22, 17, 18, 19, 20, 21, 16, 11, 12, 13, 14, 15, 10, 9, 0, 8, 7, 6, 5, 4, 3, 2, 1] h h68 := (mh_fr.tr fr67 fr68).mono (by simp)
          refine mh_aastore (pc := 214) F sh_9 sh_78 (by decide) rfl (by decide) (by decide) (by decide) (Or.inl rfl) dX11_init_214 ?_
          refine mh_nmh (fun h70 e70 => ?_)
          have r0_70 : h70 0 = mh_ur (mh_ur (mh_ur (mh_ur (mh_ur (mh_ur (mh_ur (mh_ur (mh_ur (mh_ur (fun _ => (0 : Int)) 3 (((1 : Nat) : Int) + 1)) 4 (((9 : Nat) : Int) + 1)) 5 (((10 : Nat) : Int) + 1)) 6 (((16 : Nat) : Int) + 1)) 7 (((17 : Nat) : Int) + 1)) 8 (((22 : Nat) : Int) + 1)) 9 (((23 : Nat) : Int) + 1)) 10 (((24 : Nat) : Int) + 1)) 0 (((25 : Nat) : Int) + 1)) 1 (((50 : Nat) : Int) + 1) := by rw [e70, mh_up_row (by decide)]; exact r0_69
          have r1_70 : h70 1 = mh_ur (mh_ur (mh_ur (mh_ur (mh_ur (mh_ur (mh_ur (fun _ => (0 : Int)) 0 (((2 : Nat) : Int) + 1)) 1 (((3 : Nat) : Int) + 1)) 2 (((4 : Nat) : Int) + 1)) 3 (((5 : Nat) : Int) + 1)) 4 (((6 : Nat) : Int) + 1)) 5 (((7 : Nat) : Int) + 1)) 6 (((8 : Nat) : Int) + 1) := by rw [e70, mh_up_row (by decide)]; exact r1_69
          have r2_70 : h70 2 = mh_ur (fun _ => (0 : Int)) 0 0 := by rw [e70, mh_up_row (by decide)]; exact r2_69
          have r3_70 : h70 3 = mh_ur (fun _ => (0 : Int)) 0 1 := by rw [e70, mh_up_row (by decide)]; exact r3_69
          have r4_70 : h70 4 = mh_ur (fun _ => (0 : Int)) 0 2 := by rw [e70, mh_up_row (by decide)]; exact r4_69
          have r5_70 : h70 5 = mh_ur (fun _ => (0 : Int)) 0 3 := by rw [e70, mh_up_row (by decide)]; exact r5_69
          have r6_70 : h70 6 = mh_ur (fun _ => (0 : Int)) 0 4 := by rw [e70, mh_up_row (by decide)]; exact r6_69
          have r7_70 : h70 7 = mh_ur (fun _ => (0 : Int)) 0 5 := by rw [e70, mh_up_row (by decide)]; exact r7_69
          have r8_70 : h70 8 = mh_ur (fun _ => (0 : Int)) 0 6 := by rw [e70, mh_up_row (by decide)]; exact r8_69
          have r9_70 : h70 9 = mh_ur (mh_ur (mh_ur (mh_ur (fun _ => (0 : Int)) 0 (((75 : Nat) : Int) + 1)) 1 (((76 : Nat) : Int) + 1)) 2 (((77 : Nat) : Int) + 1)) 3 (((78 : Nat) : Int) + 1) := by rw [e70, mh_up_rs, r9_69] <;> rfl
          have r10_70 : h70 10 = mh_ur (mh_ur (mh_ur (mh_ur (mh_ur (fun _ => (0 : Int)) 0 (((11 : Nat) : Int) + 1)) 1 (((12 : Nat) : Int) + 1)) 2 (((13 : Nat) : Int) + 1)) 3 (((14 : Nat) : Int) + 1)) 4 (((15 : Nat) : Int) + 1) := by rw [e70, mh_up_row (by decide)]; exact r10_69
          have r16_70 : h70 16 = fun _ => (0 : Int) := by rw [e70, mh_up_row (by decide)]; exact r16_69
          have r17_70 : h70 17 = fun j => if 0 ≤ j ∧ j < 4 then ((17 : Nat) : Int) + 1 + j + 1 else 0 := by rw [e70, mh_up_row (by decide)]; exact r17_69
          have r18_70 : h70 18 = fun _ => (0 : Int) := by rw [e70, mh_up_row (by decide)]; exact r18_69
          have r19_70 : h70 19 = fun _ => (0 : Int) := by rw [e70, mh_up_row (by decide)]; exact r19_69
          have r20_70 : h70 20 = fun _ => (0 : Int) := by rw [e70, mh_up_row (by decide)]; exact r20_69
          have r21_70 : h70 21 = fun _ => (0 : Int) := by rw [e70, mh_up_row (by decide)]; exact r21_69
          have r22_70 : h70 22 = fun _ => (0 : Int) := by rw [e70, mh_up_row (by decide)]; exact r22_69
          have r23_70 : h70 23 = fun _ => (0 : Int) := by rw [e70, mh_up_row (by decide)]; exact r23_69
          have r24_70 : h70 24 = fun _ => (0 : Int) := by rw [e70, mh_up_row (by decide)]; exact r24_69
          have r75_70 : h70 75 = sc_c0 0 := by rw [e70, mh_up_row (by decide)]; exact r75_69
          have r76_70 : h70 76 = sc_c0 1 := by rw [e70, mh_up_row (by decide)]; exact r76_69
          have r77_70 : h70 77 = sc_c0 2 := by rw [e70, mh_up_row (by decide)]; exact r77_69
          have r78_70 : h70 78 = sc_c0 3 := by rw [e70, mh_up_row (by decide)]; exact (hc68.trans (by rw [r78_67]; rfl))
          have hw25 : sc_w0 h70 25 := hw25.fr (fun a a0 a1 => by rw [e70, mh_up_row (by omega)])
          have hw50 : sc_w0 h70 50 := hw50.fr (fun a a0 a1 => by rw [e70, mh_up_row (by omega)])
          have fr70 : mh_fr [78, 77, 76, 75, 51, 52, 53, 54, 55, 56, 57, 58, 59, 60, 61, 62, 63, 64, 65, 66, 67, 68, 69, 70, 71, 72, 73, 74, 50, 26, 27, 28, 29, 30, 31, 32, 33, 34, 35, 36, 37, 38, 39, 40, 41, 42, 43, 44, 45, 46, 47, 48, 49, 25, 24, 23, 22, 17, 18, 19, 20, 21, 16, 11, 12, 13, 14, 15, 10, 9, 0, 8, 7, 6, 5, 4, 3, 2, 1] h h70 := mh_fr.upi fr69 e70 (by simp)
          refine mh_iinc1 (pc := 215) F dX11_init_215 rfl (by decide) ?_
          refine mh_goto (pc := 218) (tgt := 189) F dX11_init_218 rfl ?_
          refine mh_iload1 (pc := 189) F dX11_init_189 ?_
          refine mh_bipush (pc := 190) F dX11_init_190 rfl ?_
          refine mh_icmp_ge (pc := 192) (tgt := 221) F dX11_init_192 rfl (by omega) (by omega) (fun c_192 => ?_) (fun c_192 => ?_)
          · exact absurd c_192 (by decide)
          · refine mh_aload0 (pc := 195) F dX11_init_195 ?_
            refine mh_getr (b := 9) (pc := 196) F sh_0 (by decide) fw_RX11_38_11 dX11_init_196 rfl (by rw [r0_70]; simp [mh_ur]) ?_
            refine mh_iload1 (pc := 199) F dX11_init_199 ?_
            refine mh_new (ci := 0) (n1 := 80) (cl1 := 79) (sl1 := 8508) (pc := 200) F sh_79 (by decide) tw_1_91 tw_2_114 tw_1_20 ⟨rfl, rfl, rfl⟩ (by rw [hR.1, hR.2]; exact ⟨Nat.le_of_ble_eq_true rfl, Nat.le_of_ble_eq_true rfl⟩) dX11_init_200 ?_
            refine mh_nmh (fun h71 e71 => ?_)
            have r0_71 : h71 0 = mh_ur (mh_ur (mh_ur (mh_ur (mh_ur (mh_ur (mh_ur (mh_ur (mh_ur (mh_ur (fun _ => (0 : Int)) 3 (((1 : Nat) : Int) + 1)) 4 (((9 : Nat) : Int) + 1)) 5 (((10 : Nat) : Int) + 1)) 6 (((16 : Nat) : Int) + 1)) 7 (((17 : Nat) : Int) + 1)) 8 (((22 : Nat) : Int) + 1)) 9 (((23 : Nat) : Int) + 1)) 10 (((24 : Nat) : Int) + 1)) 0 (((25 : Nat) : Int) + 1)) 1 (((50 : Nat) : Int) + 1) := by rw [e71, mh_zr_row (by decide)]; exact r0_70
            have r1_71 : h71 1 = mh_ur (mh_ur (mh_ur (mh_ur (mh_ur (mh_ur (mh_ur (fun _ => (0 : Int)) 0 (((2 : Nat) : Int) + 1)) 1 (((3 : Nat) : Int) + 1)) 2 (((4 : Nat) : Int) + 1)) 3 (((5 : Nat) : Int) + 1)) 4 (((6 : Nat) : Int) + 1)) 5 (((7 : Nat) : Int) + 1)) 6 (((8 : Nat) : Int) + 1) := by rw [e71, mh_zr_row (by decide)]; exact r1_70
            have r2_71 : h71 2 = mh_ur (fun _ => (0 : Int)) 0 0 := by rw [e71, mh_zr_row (by decide)]; exact r2_70
            have r3_71 : h71 3 = mh_ur (fun _ => (0 : Int)) 0 1 := by rw [e71, mh_zr_row (by decide)]; exact r3_70
            have r4_71 : h71 4 = mh_ur (fun _ => (0 : Int)) 0 2 := by rw [e71, mh_zr_row (by decide)]; exact r4_70
            have r5_71 : h71 5 = mh_ur (fun _ => (0 : Int)) 0 3 := by rw [e71, mh_zr_row (by decide)]; exact r5_70
            have r6_71 : h71 6 = mh_ur (fun _ => (0 : Int)) 0 4 := by rw [e71, mh_zr_row (by decide)]; exact r6_70
            have r7_71 : h71 7 = mh_ur (fun _ => (0 : Int)) 0 5 := by rw [e71, mh_zr_row (by decide)]; exact r7_70
            have r8_71 : h71 8 = mh_ur (fun _ => (0 : Int)) 0 6 := by rw [e71, mh_zr_row (by decide)]; exact r8_70
            have r9_71 : h71 9 = mh_ur (mh_ur (mh_ur (mh_ur (fun _ => (0 : Int)) 0 (((75 : Nat) : Int) + 1)) 1 (((76 : Nat) : Int) + 1)) 2 (((77 : Nat) : Int) + 1)) 3 (((78 : Nat) : Int) + 1) := by rw [e71, mh_zr_row (by decide)]; exact r9_70
            have r10_71 : h71 10 = mh_ur (mh_ur (mh_ur (mh_ur (mh_ur (fun _ => (0 : Int)) 0 (((11 : Nat) : Int) + 1)) 1 (((12 : Nat) : Int) + 1)) 2 (((13 : Nat) : Int) + 1)) 3 (((14 : Nat) : Int) + 1)) 4 (((15 : Nat) : Int) + 1) := by rw [e71, mh_zr_row (by decide)]; exact r10_70
            have r16_71 : h71 16 = fun _ => (0 : Int) := by rw [e71, mh_zr_row (by decide)]; exact r16_70
            have r17_71 : h71 17 = fun j => if 0 ≤ j ∧ j < 4 then ((17 : Nat) : Int) + 1 + j + 1 else 0 := by rw [e71, mh_zr_row (by decide)]; exact r17_70
            have r18_71 : h71 18 = fun _ => (0 : Int) := by rw [e71, mh_zr_row (by decide)]; exact r18_70
            have r19_71 : h71 19 = fun _ => (0 : Int) := by rw [e71, mh_zr_row (by decide)]; exact r19_70
            have r20_71 : h71 20 = fun _ => (0 : Int) := by rw [e71, mh_zr_row (by decide)]; exact r20_70
            have r21_71 : h71 21 = fun _ => (0 : Int) := by rw [e71, mh_zr_row (by decide)]; exact r21_70
            have r22_71 : h71 22 = fun _ => (0 : Int) := by rw [e71, mh_zr_row (by decide)]; exact r22_70
            have r23_71 : h71 23 = fun _ => (0 : Int) := by rw [e71, mh_zr_row (by decide)]; exact r23_70
            have r24_71 : h71 24 = fun _ => (0 : Int) := by rw [e71, mh_zr_row (by decide)]; exact r24_70
            have r75_71 : h71 75 = sc_c0 0 := by rw [e71, mh_zr_row (by decide)]; exact r75_70
            have r76_71 : h71 76 = sc_c0 1 := by rw [e71, mh_zr_row (by decide)]; exact r76_70
            have r77_71 : h71 77 = sc_c0 2 := by rw [e71, mh_zr_row (by decide)]; exact r77_70
            have r78_71 : h71 78 = sc_c0 3 := by rw [e71, mh_zr_row (by decide)]; exact r78_70
            have r79_71 : h71 79 = fun _ => (0 : Int) := by rw [e71]; exact mh_zr_rs
            have fr71 : mh_fr [79, 78, 77, 76, 75, 51, 52, 53, 54, 55, 56, 57, 58, 59, 60, 61, 62, 63, 64, 65, 66, 67, 68, 69, 70, 71, 72, 73, 74, 50, 26, 27, 28, 29, 30, 31, 32, 33, 34, 35, 36, 37, 38, 39, 40, 41, 42, 43, 44, 45, 46, 47, 48, 49, 25, 24, 23, 22, 17, 18, 19, 20, 21, 16, 11, 12, 13, 14, 15, 10, 9, 0, 8, 7, 6, 5, 4, 3, 2, 1] h h71 := mh_fr.zr fr70 e71
            have hw25 : sc_w0 h71 25 := hw25.fr (fun a a0 a1 => by rw [e71, mh_zr_row (by omega)])
            have hw50 : sc_w0 h71 50 := hw50.fr (fun a a0 a1 => by rw [e71, mh_zr_row (by omega)])
            refine mh_dup (pc := 203) F dX11_init_203 rfl ?_
            refine mh_iload1 (pc := 204) F dX11_init_204 ?_
            refine mh_aload0 (pc := 205) F dX11_init_205 ?_
            refine mh_getr (b := 1) (pc := 206) F sh_0 (by decide) fw_RX11_30_11 dX11_init_206 rfl (by rw [r0_71]; simp [mh_ur]) ?_
            refine mh_iconst (pc := 209) F dX11_init_209 ?_
            refine mh_aaload (b := 2) (pc := 210) F sh_1 (by decide) (by decide) (by omega) dX11_init_210 (by rw [r1_71]; simp [mh_ur]) ?_
            refine mh_callIx (pc := 211) (As := [.int (Int32.ofInt (4)), .ref 2]) (st := [.ref 79, .int (Int32.ofInt (4)), .ref 9]) (n1 := 80) (cl1 := 79) (sl1 := 8508) F (by omega) (q44_churn (by omega) sh_79 (by decide)) ⟨rfl, rfl, rfl⟩ wi_RX11_79 dX11_init_211 rfl rfl (Nat.le_of_ble_eq_true rfl) (by rw [hR.1, hR.2]; exact ⟨Nat.le_of_ble_eq_true rfl, Nat.le_of_ble_eq_true rfl⟩) (fun r72 h72 q72 => ?_)
            obtain ⟨rfl, fr72, hc72⟩ := q72
            have r0_73 : h72 0 = mh_ur (mh_ur (mh_ur (mh_ur (mh_ur (mh_ur (mh_ur (mh_ur (mh_ur (mh_ur (fun _ => (0 : Int)) 3 (((1 : Nat) : Int) + 1)) 4 (((9 : Nat) : Int) + 1)) 5 (((10 : Nat) : Int) + 1)) 6 (((16 : Nat) : Int) + 1)) 7 (((17 : Nat) : Int) + 1)) 8 (((22 : Nat) : Int) + 1)) 9 (((23 : Nat) : Int) + 1)) 10 (((24 : Nat) : Int) + 1)) 0 (((25 : Nat) : Int) + 1)) 1 (((50 : Nat) : Int) + 1) := (fr72 _ (by decide)).trans r0_71
            have r1_73 : h72 1 = mh_ur (mh_ur (mh_ur (mh_ur (mh_ur (mh_ur (mh_ur (fun _ => (0 : Int)) 0 (((2 : Nat) : Int) + 1)) 1 (((3 : Nat) : Int) + 1)) 2 (((4 : Nat) : Int) + 1)) 3 (((5 : Nat) : Int) + 1)) 4 (((6 : Nat) : Int) + 1)) 5 (((7 : Nat) : Int) + 1)) 6 (((8 : Nat) : Int) + 1) := (fr72 _ (by decide)).trans r1_71
            have r2_73 : h72 2 = mh_ur (fun _ => (0 : Int)) 0 0 := (fr72 _ (by decide)).trans r2_71
            have r3_73 : h72 3 = mh_ur (fun _ => (0 : Int)) 0 1 := (fr72 _ (by decide)).trans r3_71
            have r4_73 : h72 4 = mh_ur (fun _ => (0 : Int)) 0 2 := (fr72 _ (by decide)).trans r4_71
            have r5_73 : h72 5 = mh_ur (fun _ => (0 : Int)) 0 3 := (fr72 _ (by decide)).trans r5_71
            have r6_73 : h72 6 = mh_ur (fun _ => (0 : Int)) 0 4 := (fr72 _ (by decide)).trans r6_71
            have r7_73 : h72 7 = mh_ur (fun _ => (0 : Int)) 0 5 := (fr72 _ (by decide)).trans r7_71
            have r8_73 : h72 8 = mh_ur (fun _ => (0 : Int)) 0 6 := (fr72 _ (by decide)).trans r8_71
            have r9_73 : h72 9 = mh_ur (mh_ur (mh_ur (mh_ur (fun _ => (0 : Int)) 0 (((75 : Nat) : Int) + 1)) 1 (((76 : Nat) : Int) + 1)) 2 (((77 : Nat) : Int) + 1)) 3 (((78 : Nat) : Int) + 1) := (fr72 _ (by decide)).trans r9_71
            have r10_73 : h72 10 = mh_ur (mh_ur (mh_ur (mh_ur (mh_ur (fun _ => (0 : Int)) 0 (((11 : Nat) : Int) + 1)) 1 (((12 : Nat) : Int) + 1)) 2 (((13 : Nat) : Int) + 1)) 3 (((14 : Nat) : Int) + 1)) 4 (((15 : Nat) : Int) + 1) := (fr72 _ (by decide)).trans r10_71
            have r16_73 : h72 16 = fun _ => (0 : Int) := (fr72 _ (by decide)).trans r16_71
            have r17_73 : h72 17 = fun j => if 0 ≤ j ∧ j < 4 then ((17 : Nat) : Int) + 1 + j + 1 else 0 := (fr72 _ (by decide)).trans r17_71
            have r18_73 : h72 18 = fun _ => (0 : Int) := (fr72 _ (by decide)).trans r18_71
            have r19_73 : h72 19 = fun _ => (0 : Int) := (fr72 _ (by decide)).trans r19_71
            have r20_73 : h72 20 = fun _ => (0 : Int) := (fr72 _ (by decide)).trans r20_71
            have r21_73 : h72 21 = fun _ => (0 : Int) := (fr72 _ (by decide)).trans r21_71
            have r22_73 : h72 22 = fun _ => (0 : Int) := (fr72 _ (by decide)).trans r22_71
            have r23_73 : h72 23 = fun _ => (0 : Int) := (fr72 _ (by decide)).trans r23_71
            have r24_73 : h72 24 = fun _ => (0 : Int) := (fr72 _ (by decide)).trans r24_71
            have r75_73 : h72 75 = sc_c0 0 := (fr72 _ (by decide)).trans r75_71
            have r76_73 : h72 76 = sc_c0 1 := (fr72 _ (by decide)).trans r76_71
            have r77_73 : h72 77 = sc_c0 2 := (fr72 _ (by decide)).trans r77_71
            have r78_73 : h72 78 = sc_c0 3 := (fr72 _ (by decide)).trans r78_71
            have hw25 : sc_w0 h72 25 := hw25.fr (fun a a0 a1 => fr72 a (by simp; omega))
            have hw50 : sc_w0 h72 50 := hw50.fr (fun a a0 a1 => fr72 a (by simp; omega))
            have fr73 : mh_fr [79, 78, 77, 76, 75, 51, 52, 53, 54, 55, 56, 57, 58, 59, 60, 61, 62, 63, 64, 65, 66, 67, 68, 69, 70, 71, 72, 73, 74, 50, 26, 27, 28, 29, 30, 31, 32, 33, 34, 35, 36, 37, 38, 39, 40, 41, 42, 43, 44, 45, 46, 47, 48, 49, 25, 24, 23, 22, 17, 18, 19, 20, 21, 16, 11, 12, 13, 14, 15, 10, 9, 0, 8, 7, 6, 5, 4, 3, 2, 1] h h72 := (mh_fr.tr fr71 fr72).mono (by simp)
            refine mh_aastore (pc := 214) F sh_9 sh_79 (by decide) rfl (by decide) (by decide) (by decide) (Or.inl rfl) dX11_init_214 ?_
            refine mh_nmh (fun h74 e74 => ?_)
            have r0_74 : h74 0 = mh_ur (mh_ur (mh_ur (mh_ur (mh_ur (mh_ur (mh_ur (mh_ur (mh_ur (mh_ur (fun _ => (0 : Int)) 3 (((1 : Nat) : Int) + 1)) 4 (((9 : Nat) : Int) + 1)) 5 (((10 : Nat) : Int) + 1)) 6 (((16 : Nat) : Int) + 1)) 7 (((17 : Nat) : Int) + 1)) 8 (((22 : Nat) : Int) + 1)) 9 (((23 : Nat) : Int) + 1)) 10 (((24 : Nat) : Int) + 1)) 0 (((25 : Nat) : Int) + 1)) 1 (((50 : Nat) : Int) + 1) := by rw [e74, mh_up_row (by decide)]; exact r0_73
            have r1_74 : h74 1 = mh_ur (mh_ur (mh_ur (mh_ur (mh_ur (mh_ur (mh_ur (fun _ => (0 : Int)) 0 (((2 : Nat) : Int) + 1)) 1 (((3 : Nat) : Int) + 1)) 2 (((4 : Nat) : Int) + 1)) 3 (((5 : Nat) : Int) + 1)) 4 (((6 : Nat) : Int) + 1)) 5 (((7 : Nat) : Int) + 1)) 6 (((8 : Nat) : Int) + 1) := by rw [e74, mh_up_row (by decide)]; exact r1_73
            have r2_74 : h74 2 = mh_ur (fun _ => (0 : Int)) 0 0 := by rw [e74, mh_up_row (by decide)]; exact r2_73
            have r3_74 : h74 3 = mh_ur (fun _ => (0 : Int)) 0 1 := by rw [e74, mh_up_row (by decide)]; exact r3_73
            have r4_74 : h74 4 = mh_ur (fun _ => (0 : Int)) 0 2 := by rw [e74, mh_up_row (by decide)]; exact r4_73
            have r5_74 : h74 5 = mh_ur (fun _ => (0 : Int)) 0 3 := by rw [e74, mh_up_row (by decide)]; exact r5_73
            have r6_74 : h74 6 = mh_ur (fun _ => (0 : Int)) 0 4 := by rw [e74, mh_up_row (by decide)]; exact r6_73
            have r7_74 : h74 7 = mh_ur (fun _ => (0 : Int)) 0 5 := by rw [e74, mh_up_row (by decide)]; exact r7_73
            have r8_74 : h74 8 = mh_ur (fun _ => (0 : Int)) 0 6 := by rw [e74, mh_up_row (by decide)]; exact r8_73
            have r9_74 : h74 9 = mh_ur (mh_ur (mh_ur (mh_ur (mh_ur (fun _ => (0 : Int)) 0 (((75 : Nat) : Int) + 1)) 1 (((76 : Nat) : Int) + 1)) 2 (((77 : Nat) : Int) + 1)) 3 (((78 : Nat) : Int) + 1)) 4 (((79 : Nat) : Int) + 1) := by rw [e74, mh_up_rs, r9_73] <;> rfl
            have r10_74 : h74 10 = mh_ur (mh_ur (mh_ur (mh_ur (mh_ur (fun _ => (0 : Int)) 0 (((11 : Nat) : Int) + 1)) 1 (((12 : Nat) : Int) + 1)) 2 (((13 : Nat) : Int) + 1)) 3 (((14 : Nat) : Int) + 1)) 4 (((15 : Nat) : Int) + 1) := by rw [e74, mh_up_row (by decide)]; exact r10_73
            have r16_74 : h74 16 = fun _ => (0 : Int) := by rw [e74, mh_up_row (by decide)]; exact r16_73
            have r17_74 : h74 17 = fun j => if 0 ≤ j ∧ j < 4 then ((17 : Nat) : Int) + 1 + j + 1 else 0 := by rw [e74, mh_up_row (by decide)]; exact r17_73
            have r18_74 : h74 18 = fun _ => (0 : Int) := by rw [e74, mh_up_row (by decide)]; exact r18_73
            have r19_74 : h74 19 = fun _ => (0 : Int) := by rw [e74, mh_up_row (by decide)]; exact r19_73
            have r20_74 : h74 20 = fun _ => (0 : Int) := by rw [e74, mh_up_row (by decide)]; exact r20_73
            have r21_74 : h74 21 = fun _ => (0 : Int) := by rw [e74, mh_up_row (by decide)]; exact r21_73
            have r22_74 : h74 22 = fun _ => (0 : Int) := by rw [e74, mh_up_row (by decide)]; exact r22_73
            have r23_74 : h74 23 = fun _ => (0 : Int) := by rw [e74, mh_up_row (by decide)]; exact r23_73
            have r24_74 : h74 24 = fun _ => (0 : Int) := by rw [e74, mh_up_row (by decide)]; exact r24_73
            have r75_74 : h74 75 = sc_c0 0 := by rw [e74, mh_up_row (by decide)]; exact r75_73
            have r76_74 : h74 76 = sc_c0 1 := by rw [e74, mh_up_row (by decide)]; exact r76_73
            have r77_74 : h74 77 = sc_c0 2 := by rw [e74, mh_up_row (by decide)]; exact r77_73
            have r78_74 : h74 78 = sc_c0 3 := by rw [e74, mh_up_row (by decide)]; exact r78_73
            have r79_74 : h74 79 = sc_c0 4 := by rw [e74, mh_up_row (by decide)]; exact (hc72.trans (by rw [r79_71]; rfl))
            have hw25 : sc_w0 h74 25 := hw25.fr (fun a a0 a1 => by rw [e74, mh_up_row (by omega)])
            have hw50 : sc_w0 h74 50 := hw50.fr (fun a a0 a1 => by rw [e74, mh_up_row (by omega)])
            have fr74 : mh_fr [79, 78, 77, 76, 75, 51, 52, 53, 54, 55, 56, 57, 58, 59, 60, 61, 62, 63, 64, 65, 66, 67, 68, 69, 70, 71, 72, 73, 74, 50, 26, 27, 28, 29, 30, 31, 32, 33, 34, 35, 36, 37, 38, 39, 40, 41, 42, 43, 44, 45, 46, 47, 48, 49, 25, 24, 23, 22, 17, 18, 19, 20, 21, 16, 11, 12, 13, 14, 15, 10, 9, 0, 8, 7, 6, 5, 4, 3, 2, 1] h h74 := mh_fr.upi fr73 e74 (by simp)
            refine mh_iinc1 (pc := 215) F dX11_init_215 rfl (by decide) ?_
            refine mh_goto (pc := 218) (tgt := 189) F dX11_init_218 rfl ?_
            refine mh_iload1 (pc := 189) F dX11_init_189 ?_
            refine mh_bipush (pc := 190) F dX11_init_190 rfl ?_
            refine mh_icmp_ge (pc := 192) (tgt := 221) F dX11_init_192 rfl (by omega) (by omega) (fun c_192 => ?_) (fun c_192 => ?_)
            · exact absurd c_192 (by decide)
            · refine mh_aload0 (pc := 195) F dX11_init_195 ?_
              refine mh_getr (b := 9) (pc := 196) F sh_0 (by decide) fw_RX11_38_11 dX11_init_196 rfl (by rw [r0_74]; simp [mh_ur]) ?_
              refine mh_iload1 (pc := 199) F dX11_init_199 ?_
              refine mh_new (ci := 0) (n1 := 81) (cl1 := 80) (sl1 := 8518) (pc := 200) F sh_80 (by decide) tw_1_91 tw_2_114 tw_1_20 ⟨rfl, rfl, rfl⟩ (by rw [hR.1, hR.2]; exact ⟨Nat.le_of_ble_eq_true rfl, Nat.le_of_ble_eq_true rfl⟩) dX11_init_200 ?_
              refine mh_nmh (fun h75 e75 => ?_)
              have r0_75 : h75 0 = mh_ur (mh_ur (mh_ur (mh_ur (mh_ur (mh_ur (mh_ur (mh_ur (mh_ur (mh_ur (fun _ => (0 : Int)) 3 (((1 : Nat) : Int) + 1)) 4 (((9 : Nat) : Int) + 1)) 5 (((10 : Nat) : Int) + 1)) 6 (((16 : Nat) : Int) + 1)) 7 (((17 : Nat) : Int) + 1)) 8 (((22 : Nat) : Int) + 1)) 9 (((23 : Nat) : Int) + 1)) 10 (((24 : Nat) : Int) + 1)) 0 (((25 : Nat) : Int) + 1)) 1 (((50 : Nat) : Int) + 1) := by rw [e75, mh_zr_row (by decide)]; exact r0_74
              have r1_75 : h75 1 = mh_ur (mh_ur (mh_ur (mh_ur (mh_ur (mh_ur (mh_ur (fun _ => (0 : Int)) 0 (((2 : Nat) : Int) + 1)) 1 (((3 : Nat) : Int) + 1)) 2 (((4 : Nat) : Int) + 1)) 3 (((5 : Nat) : Int) + 1)) 4 (((6 : Nat) : Int) + 1)) 5 (((7 : Nat) : Int) + 1)) 6 (((8 : Nat) : Int) + 1) := by rw [e75, mh_zr_row (by decide)]; exact r1_74
              have r2_75 : h75 2 = mh_ur (fun _ => (0 : Int)) 0 0 := by rw [e75, mh_zr_row (by decide)]; exact r2_74
              have r3_75 : h75 3 = mh_ur (fun _ => (0 : Int)) 0 1 := by rw [e75, mh_zr_row (by decide)]; exact r3_74
              have r4_75 : h75 4 = mh_ur (fun _ => (0 : Int)) 0 2 := by rw [e75, mh_zr_row (by decide)]; exact r4_74
              have r5_75 : h75 5 = mh_ur (fun _ => (0 : Int)) 0 3 := by rw [e75, mh_zr_row (by decide)]; exact r5_74
              have r6_75 : h75 6 = mh_ur (fun _ => (0 : Int)) 0 4 := by rw [e75, mh_zr_row (by decide)]; exact r6_74
              have r7_75 : h75 7 = mh_ur (fun _ => (0 : Int)) 0 5 := by rw [e75, mh_zr_row (by decide)]; exact r7_74
              have r8_75 : h75 8 = mh_ur (fun _ => (0 : Int)) 0 6 := by rw [e75, mh_zr_row (by decide)]; exact r8_74
              have r9_75 : h75 9 = mh_ur (mh_ur (mh_ur (mh_ur (mh_ur (fun _ => (0 : Int)) 0 (((75 : Nat) : Int) + 1)) 1 (((76 : Nat) : Int) + 1)) 2 (((77 : Nat) : Int) + 1)) 3 (((78 : Nat) : Int) + 1)) 4 (((79 : Nat) : Int) + 1) := by rw [e75, mh_zr_row (by decide)]; exact r9_74
              have r10_75 : h75 10 = mh_ur (mh_ur (mh_ur (mh_ur (mh_ur (fun _ => (0 : Int)) 0 (((11 : Nat) : Int) + 1)) 1 (((12 : Nat) : Int) + 1)) 2 (((13 : Nat) : Int) + 1)) 3 (((14 : Nat) : Int) + 1)) 4 (((15 : Nat) : Int) + 1) := by rw [e75, mh_zr_row (by decide)]; exact r10_74
              have r16_75 : h75 16 = fun _ => (0 : Int) := by rw [e75, mh_zr_row (by decide)]; exact r16_74
              have r17_75 : h75 17 = fun j => if 0 ≤ j ∧ j < 4 then ((17 : Nat) : Int) + 1 + j + 1 else 0 := by rw [e75, mh_zr_row (by decide)]; exact r17_74
              have r18_75 : h75 18 = fun _ => (0 : Int) := by rw [e75, mh_zr_row (by decide)]; exact r18_74
              have r19_75 : h75 19 = fun _ => (0 : Int) := by rw [e75, mh_zr_row (by decide)]; exact r19_74
              have r20_75 : h75 20 = fun _ => (0 : Int) := by rw [e75, mh_zr_row (by decide)]; exact r20_74
              have r21_75 : h75 21 = fun _ => (0 : Int) := by rw [e75, mh_zr_row (by decide)]; exact r21_74
              have r22_75 : h75 22 = fun _ => (0 : Int) := by rw [e75, mh_zr_row (by decide)]; exact r22_74
              have r23_75 : h75 23 = fun _ => (0 : Int) := by rw [e75, mh_zr_row (by decide)]; exact r23_74
              have r24_75 : h75 24 = fun _ => (0 : Int) := by rw [e75, mh_zr_row (by decide)]; exact r24_74
              have r75_75 : h75 75 = sc_c0 0 := by rw [e75, mh_zr_row (by decide)]; exact r75_74
              have r76_75 : h75 76 = sc_c0 1 := by rw [e75, mh_zr_row (by decide)]; exact r76_74
              have r77_75 : h75 77 = sc_c0 2 := by rw [e75, mh_zr_row (by decide)]; exact r77_74
              have r78_75 : h75 78 = sc_c0 3 := by rw [e75, mh_zr_row (by decide)]; exact r78_74
              have r79_75 : h75 79 = sc_c0 4 := by rw [e75, mh_zr_row (by decide)]; exact r79_74
              have r80_75 : h75 80 = fun _ => (0 : Int) := by rw [e75]; exact mh_zr_rs
              have fr75 : mh_fr [80, 79, 78, 77, 76, 75, 51, 52, 53, 54, 55, 56, 57, 58, 59, 60, 61, 62, 63, 64, 65, 66, 67, 68, 69, 70, 71, 72, 73, 74, 50, 26, 27, 28, 29, 30, 31, 32, 33, 34, 35, 36, 37, 38, 39, 40, 41, 42, 43, 44, 45, 46, 47, 48, 49, 25, 24, 23, 22, 17, 18, 19, 20, 21, 16, 11, 12, 13, 14, 15, 10, 9, 0, 8, 7, 6, 5, 4, 3, 2, 1] h h75 := mh_fr.zr fr74 e75
              have hw25 : sc_w0 h75 25 := hw25.fr (fun a a0 a1 => by rw [e75, mh_zr_row (by omega)])
              have hw50 : sc_w0 h75 50 := hw50.fr (fun a a0 a1 => by rw [e75, mh_zr_row (by omega)])
              refine mh_dup (pc := 203) F dX11_init_203 rfl ?_
              refine mh_iload1 (pc := 204) F dX11_init_204 ?_
              refine mh_aload0 (pc := 205) F dX11_init_205 ?_
              refine mh_getr (b := 1) (pc := 206) F sh_0 (by decide) fw_RX11_30_11 dX11_init_206 rfl (by rw [r0_75]; simp [mh_ur]) ?_
              refine mh_iconst (pc := 209) F dX11_init_209 ?_
              refine mh_aaload (b := 2) (pc := 210) F sh_1 (by decide) (by decide) (by omega) dX11_init_210 (by rw [r1_75]; simp [mh_ur]) ?_
              refine mh_callIx (pc := 211) (As := [.int (Int32.ofInt (5)), .ref 2]) (st := [.ref 80, .int (Int32.ofInt (5)), .ref 9]) (n1 := 81) (cl1 := 80) (sl1 := 8518) F (by omega) (q44_churn (by omega) sh_80 (by decide)) ⟨rfl, rfl, rfl⟩ wi_RX11_79 dX11_init_211 rfl rfl (Nat.le_of_ble_eq_true rfl) (by rw [hR.1, hR.2]; exact ⟨Nat.le_of_ble_eq_true rfl, Nat.le_of_ble_eq_true rfl⟩) (fun r76 h76 q76 => ?_)
              obtain ⟨rfl, fr76, hc76⟩ := q76
              have r0_77 : h76 0 = mh_ur (mh_ur (mh_ur (mh_ur (mh_ur (mh_ur (mh_ur (mh_ur (mh_ur (mh_ur (fun _ => (0 : Int)) 3 (((1 : Nat) : Int) + 1)) 4 (((9 : Nat) : Int) + 1)) 5 (((10 : Nat) : Int) + 1)) 6 (((16 : Nat) : Int) + 1)) 7 (((17 : Nat) : Int) + 1)) 8 (((22 : Nat) : Int) + 1)) 9 (((23 : Nat) : Int) + 1)) 10 (((24 : Nat) : Int) + 1)) 0 (((25 : Nat) : Int) + 1)) 1 (((50 : Nat) : Int) + 1) := (fr76 _ (by decide)).trans r0_75
              have r1_77 : h76 1 = mh_ur (mh_ur (mh_ur (mh_ur (mh_ur (mh_ur (mh_ur (fun _ => (0 : Int)) 0 (((2 : Nat) : Int) + 1)) 1 (((3 : Nat) : Int) + 1)) 2 (((4 : Nat) : Int) + 1)) 3 (((5 : Nat) : Int) + 1)) 4 (((6 : Nat) : Int) + 1)) 5 (((7 : Nat) : Int) + 1)) 6 (((8 : Nat) : Int) + 1) := (fr76 _ (by decide)).trans r1_75
              have r2_77 : h76 2 = mh_ur (fun _ => (0 : Int)) 0 0 := (fr76 _ (by decide)).trans r2_75
              have r3_77 : h76 3 = mh_ur (fun _ => (0 : Int)) 0 1 := (fr76 _ (by decide)).trans r3_75
              have r4_77 : h76 4 = mh_ur (fun _ => (0 : Int)) 0 2 := (fr76 _ (by decide)).trans r4_75
              have r5_77 : h76 5 = mh_ur (fun _ => (0 : Int)) 0 3 := (fr76 _ (by decide)).trans r5_75
              have r6_77 : h76 6 = mh_ur (fun _ => (0 : Int)) 0 4 := (fr76 _ (by decide)).trans r6_75
              have r7_77 : h76 7 = mh_ur (fun _ => (0 : Int)) 0 5 := (fr76 _ (by decide)).trans r7_75
              have r8_77 : h76 8 = mh_ur (fun _ => (0 : Int)) 0 6 := (fr76 _ (by decide)).trans r8_75
              have r9_77 : h76 9 = mh_ur (mh_ur (mh_ur (mh_ur (mh_ur (fun _ => (0 : Int)) 0 (((75 : Nat) : Int) + 1)) 1 (((76 : Nat) : Int) + 1)) 2 (((77 : Nat) : Int) + 1)) 3 (((78 : Nat) : Int) + 1)) 4 (((79 : Nat) : Int) + 1) := (fr76 _ (by decide)).trans r9_75
              have r10_77 : h76 10 = mh_ur (mh_ur (mh_ur (mh_ur (mh_ur (fun _ => (0 : Int)) 0 (((11 : Nat) : Int) + 1)) 1 (((12 : Nat) : Int) + 1)) 2 (((13 : Nat) : Int) + 1)) 3 (((14 : Nat) : Int) + 1)) 4 (((15 : Nat) : Int) + 1) := (fr76 _ (by decide)).trans r10_75
              have r16_77 : h76 16 = fun _ => (0 : Int) := (fr76 _ (by decide)).trans r16_75
              have r17_77 : h76 17 = fun j => if 0 ≤ j ∧ j < 4 then ((17 : Nat) : Int) + 1 + j + 1 else 0 := (fr76 _ (by decide)).trans r17_75
              have r18_77 : h76 18 = fun _ => (0 : Int) := (fr76 _ (by decide)).trans r18_75
              have r19_77 : h76 19 = fun _ => (0 : Int) := (fr76 _ (by decide)).trans r19_75
              have r20_77 : h76 20 = fun _ => (0 : Int) := (fr76 _ (by decide)).trans r20_75
              have r21_77 : h76 21 = fun _ => (0 : Int) := (fr76 _ (by decide)).trans r21_75
              have r22_77 : h76 22 = fun _ => (0 : Int) := (fr76 _ (by decide)).trans r22_75
              have r23_77 : h76 23 = fun _ => (0 : Int) := (fr76 _ (by decide)).trans r23_75
              have r24_77 : h76 24 = fun _ => (0 : Int) := (fr76 _ (by decide)).trans r24_75
              have r75_77 : h76 75 = sc_c0 0 := (fr76 _ (by decide)).trans r75_75
              have r76_77 : h76 76 = sc_c0 1 := (fr76 _ (by decide)).trans r76_75
              have r77_77 : h76 77 = sc_c0 2 := (fr76 _ (by decide)).trans r77_75
              have r78_77 : h76 78 = sc_c0 3 := (fr76 _ (by decide)).trans r78_75
              have r79_77 : h76 79 = sc_c0 4 := (fr76 _ (by decide)).trans r79_75
              have hw25 : sc_w0 h76 25 := hw25.fr (fun a a0 a1 => fr76 a (by simp; omega))
              have hw50 : sc_w0 h76 50 := hw50.fr (fun a a0 a1 => fr76 a (by simp; omega))
              have fr77 : mh_fr [80, 79, 78, 77, 76, 75, 51, 52, 53, 54, 55, 56, 57, 58, 59, 60, 61, 62, 63, 64, 65, 66, 67, 68, 69, 70, 71, 72, 73, 74, 50, 26, 27, 28, 29, 30, 31, 32, 33, 34, 35, 36, 37, 38, 39, 40, 41, 42, 43, 44, 45, 46, 47, 48, 49, 25, 24, 23, 22, 17, 18, 19, 20, 21, 16, 11, 12, 13, 14, 15, 10, 9, 0, 8, 7, 6, 5, 4, 3, 2, 1] h h76 := (mh_fr.tr fr75 fr76).mono (by simp)
              refine mh_aastore (pc := 214) F sh_9 sh_80 (by decide) rfl (by decide) (by decide) (by decide) (Or.inl rfl) dX11_init_214 ?_
              refine mh_nmh (fun h78 e78 => ?_)
              have r0_78 : h78 0 = mh_ur (mh_ur (mh_ur (mh_ur (mh_ur (mh_ur (mh_ur (mh_ur (mh_ur (mh_ur (fun _ => (0 : Int)) 3 (((1 : Nat) : Int) + 1)) 4 (((9 : Nat) : Int) + 1)) 5 (((10 : Nat) : Int) + 1)) 6 (((16 : Nat) : Int) + 1)) 7 (((17 : Nat) : Int) + 1)) 8 (((22 : Nat) : Int) + 1)) 9 (((23 : Nat) : Int) + 1)) 10 (((24 : Nat) : Int) + 1)) 0 (((25 : Nat) : Int) + 1)) 1 (((50 : Nat) : Int) + 1) := by rw [e78, mh_up_row (by decide)]; exact r0_77
              have r1_78 : h78 1 = mh_ur (mh_ur (mh_ur (mh_ur (mh_ur (mh_ur (mh_ur (fun _ => (0 : Int)) 0 (((2 : Nat) : Int) + 1)) 1 (((3 : Nat) : Int) + 1)) 2 (((4 : Nat) : Int) + 1)) 3 (((5 : Nat) : Int) + 1)) 4 (((6 : Nat) : Int) + 1)) 5 (((7 : Nat) : Int) + 1)) 6 (((8 : Nat) : Int) + 1) := by rw [e78, mh_up_row (by decide)]; exact r1_77
              have r2_78 : h78 2 = mh_ur (fun _ => (0 : Int)) 0 0 := by rw [e78, mh_up_row (by decide)]; exact r2_77
              have r3_78 : h78 3 = mh_ur (fun _ => (0 : Int)) 0 1 := by rw [e78, mh_up_row (by decide)]; exact r3_77
              have r4_78 : h78 4 = mh_ur (fun _ => (0 : Int)) 0 2 := by rw [e78, mh_up_row (by decide)]; exact r4_77
              have r5_78 : h78 5 = mh_ur (fun _ => (0 : Int)) 0 3 := by rw [e78, mh_up_row (by decide)]; exact r5_77
              have r6_78 : h78 6 = mh_ur (fun _ => (0 : Int)) 0 4 := by rw [e78, mh_up_row (by decide)]; exact r6_77
              have r7_78 : h78 7 = mh_ur (fun _ => (0 : Int)) 0 5 := by rw [e78, mh_up_row (by decide)]; exact r7_77
              have r8_78 : h78 8 = mh_ur (fun _ => (0 : Int)) 0 6 := by rw [e78, mh_up_row (by decide)]; exact r8_77
              have r9_78 : h78 9 = mh_ur (mh_ur (mh_ur (mh_ur (mh_ur (mh_ur (fun _ => (0 : Int)) 0 (((75 : Nat) : Int) + 1)) 1 (((76 : Nat) : Int) + 1)) 2 (((77 : Nat) : Int) + 1)) 3 (((78 : Nat) : Int) + 1)) 4 (((79 : Nat) : Int) + 1)) 5 (((80 : Nat) : Int) + 1) := by rw [e78, mh_up_rs, r9_77] <;> rfl
              have r10_78 : h78 10 = mh_ur (mh_ur (mh_ur (mh_ur (mh_ur (fun _ => (0 : Int)) 0 (((11 : Nat) : Int) + 1)) 1 (((12 : Nat) : Int) + 1)) 2 (((13 : Nat) : Int) + 1)) 3 (((14 : Nat) : Int) + 1)) 4 (((15 : Nat) : Int) + 1) := by rw [e78, mh_up_row (by decide)]; exact r10_77
              have r16_78 : h78 16 = fun _ => (0 : Int) := by rw [e78, mh_up_row (by decide)]; exact r16_77
              have r17_78 : h78 17 = fun j => if 0 ≤ j ∧ j < 4 then ((17 : Nat) : Int) + 1 + j + 1 else 0 := by rw [e78, mh_up_row (by decide)]; exact r17_77
              have r18_78 : h78 18 = fun _ => (0 : Int) := by rw [e78, mh_up_row (by decide)]; exact r18_77
              have r19_78 : h78 19 = fun _ => (0 : Int) := by rw [e78, mh_up_row (by decide)]; exact r19_77
              have r20_78 : h78 20 = fun _ => (0 : Int) := by rw [e78, mh_up_row (by decide)]; exact r20_77
              have r21_78 : h78 21 = fun _ => (0 : Int) := by rw [e78, mh_up_row (by decide)]; exact r21_77
              have r22_78 : h78 22 = fun _ => (0 : Int) := by rw [e78, mh_up_row (by decide)]; exact r22_77
              have r23_78 : h78 23 = fun _ => (0 : Int) := by rw [e78, mh_up_row (by decide)]; exact r23_77
              have r24_78 : h78 24 = fun _ => (0 : Int) := by rw [e78, mh_up_row (by decide)]; exact r24_77
              have r75_78 : h78 75 = sc_c0 0 := by rw [e78, mh_up_row (by decide)]; exact r75_77
              have r76_78 : h78 76 = sc_c0 1 := by rw [e78, mh_up_row (by decide)]; exact r76_77
              have r77_78 : h78 77 = sc_c0 2 := by rw [e78, mh_up_row (by decide)]; exact r77_77
              have r78_78 : h78 78 = sc_c0 3 := by rw [e78, mh_up_row (by decide)]; exact r78_77
              have r79_78 : h78 79 = sc_c0 4 := by rw [e78, mh_up_row (by decide)]; exact r79_77
              have r80_78 : h78 80 = sc_c0 5 := by rw [e78, mh_up_row (by decide)]; exact (hc76.trans (by rw [r80_75]; rfl))
              have hw25 : sc_w0 h78 25 := hw25.fr (fun a a0 a1 => by rw [e78, mh_up_row (by omega)])
              have hw50 : sc_w0 h78 50 := hw50.fr (fun a a0 a1 => by rw [e78, mh_up_row (by omega)])
              have fr78 : mh_fr [80, 79, 78, 77, 76, 75, 51, 52, 53, 54, 55, 56, 57, 58, 59, 60, 61, 62, 63, 64, 65, 66, 67, 68, 69, 70, 71, 72, 73, 74, 50, 26, 27, 28, 29, 30, 31, 32, 33, 34, 35, 36, 37, 38, 39, 40, 41, 42, 43, 44, 45, 46, 47, 48, 49, 25, 24, 23, 22, 17, 18, 19, 20, 21, 16, 11, 12, 13, 14, 15, 10, 9, 0, 8, 7, 6, 5, 4, 3, 2, 1] h h78 := mh_fr.upi fr77 e78 (by simp)
              refine mh_iinc1 (pc := 215) F dX11_init_215 rfl (by decide) ?_
              refine mh_goto (pc := 218) (tgt := 189) F dX11_init_218 rfl ?_
              refine mh_iload1 (pc := 189) F dX11_init_189 ?_
              refine mh_bipush (pc := 190) F dX11_init_190 rfl ?_
              refine mh_icmp_ge (pc := 192) (tgt := 221) F dX11_init_192 rfl (by omega) (by omega) (fun c_192 => ?_) (fun c_192 => ?_)
              · exact mh_return F Z dX11_init_221 ⟨rfl, (fr78.mono (by intro a ha; simp at ha ⊢; omega)), ⟨(by rw [r0_78]; decide +kernel), (by rw [r0_78]; decide +kernel), (by rw [r0_78]; decide +kernel), (by rw [r0_78]; decide +kernel), (by rw [r0_78]; decide +kernel), (by rw [r0_78]; decide +kernel), (by rw [r0_78]; decide +kernel), (by rw [r0_78]; decide +kernel), (by rw [r0_78]; decide +kernel), (by rw [r0_78]; decide +kernel), (by rw [r0_78]; decide +kernel)⟩, (by rw [r1_78]; decide +kernel), ⟨(by rw [r2_78]; decide +kernel), (by rw [r3_78]; decide +kernel), (by rw [r4_78]; decide +kernel), (by rw [r5_78]; decide +kernel), (by rw [r6_78]; decide +kernel), (by rw [r7_78]; decide +kernel), (by rw [r8_78]; decide +kernel)⟩, (by rw [r9_78]; decide +kernel), ⟨(by rw [r10_78]; decide +kernel), (by rw [r10_78]; decide +kernel), (by rw [r10_78]; decide +kernel), (by rw [r10_78]; decide +kernel), (by rw [r10_78]; decide +kernel)⟩, (by rw [r17_78]; decide +kernel), ⟨r16_78, r18_78, r19_78, r20_78, r21_78, r22_78, r23_78, r24_78⟩, hw25, hw50, ⟨r75_78, r76_78, r77_78, r78_78, r79_78, r80_78⟩⟩
              · exact absurd c_192 (by decide)

