/-! the law's start: the loop's condition after the two constructors -/
section
variable {g : mh_G} {f : mh_F} {own : String} {cc : ByteArray} {nL d n cl sl pc : Nat} {loc : List (Option Value)} {st : List Value} {h : Nat → Int → Int} {post : Option Value → (Nat → Int → Int) → Prop}
theorem mh_blind2 (g : mh_G) (av : List Value) (n : Nat) (h : Nat → Int → Int) : FrameBlind (mh_Pc2 g av n h) := by
  intro a U gg mk q
  exact ⟨mh_blind g av n h a U gg mk q.1, mh_AA.moved (u := U) (U := U.calling gg mk a) (Vm.Alike.refl U.vm) q.2⟩
theorem mh_preS2 (F : mh_Fr g f own cc nL d) (hAA : mh_AA g (mh_s f)) {H : Heap} (h1 : mh_Wd g n h H) (av : List Value) : PreS (mh_s f) H (mh_Pc2 g av n h) (av.map (mh_tr g)) :=
  ⟨mh_blind2 g av n h, fun U hU hW => ⟨⟨rfl, by rw [hU]; exact h1, mh_K.warm hW F.kk⟩, hAA.moved hW.alike⟩⟩
theorem mh_callI2x (F : mh_Fr g f own cc nL d) (hd1 : 1 ≤ d) {mc ms ix a np mL n1 cl1 sl1 : Nat} {y : MethodName} {b : ByteArray} {As st0 : List Value} (hM : mh_M2 g (d - 1) y b mL none n mc ms (.ref a :: As) h post) (hAA : mh_AA g (mh_s f)) (e : n + mc = n1 ∧ cl + mc = cl1 ∧ sl + ms = sl1) (hw : mh_cI own ix y b mL np) (hd : decode cc pc = .ok (.invokespecial ix, 3)) (hn : As.length = np) (h0 : st0 = As.reverse ++ .ref a :: st) (h8 : (st.map fun v => v.category).sum ≤ 8) (hc : cl1 ≤ (mh_R f).cells ∧ sl1 ≤ (mh_R f).slots)
    (k : ∀ (r : Option Value) (h' : Nat → Int → Int), post r h' → mh_V g f nL n1 cl1 sl1 (pc + 3) loc (r.toList ++ st) h') : mh_V g f nL n cl sl pc loc st0 h := by
  obtain ⟨rfl, rfl, rfl⟩ := e
  refine mh_run (a := (Value.ref (mh_ad g a) :: As.map (mh_tr g)).toArray) (fun H locs ls h1 h3 => ?_) k
  exact va_runI (mh_fix F) hM (cwI np F.wt (mh_gin (mh_okT (hw.1 _ (by simp)))) rfl rfl rfl (F.wt _ (hw.1 _ (by simp))) (F.wt _ (hw.1 _ (by simp))) (F.wt _ (hw.1 _ (by simp))) hw.2.2.2 hw.2.1 (mh_roomd F hd1 hw.2.2.1)) (mh_preS2 F hAA h1 (.ref a :: As)) rfl (by rw [List.length_map]; exact hn) h3.1 (by rw [h0, List.map_append, List.map_cons, List.map_reverse]; rfl) (mh_cat8 h8) hd hc
end
theorem mh_andR (x y : Int) : -2147483648 ≤ mh_and x y ∧ mh_and x y < 2147483648 := by
  have a := (Int32.ofInt x &&& Int32.ofInt y).le_toInt
  have b := (Int32.ofInt x &&& Int32.ofInt y).toInt_lt
  unfold mh_and
  omega
theorem sp_m0_h : ∀ k : Nat, k < 9 → sp_m0 (6 + 3 * (k : Int) + 0) = 8 ∧ sp_m0 (6 + 3 * (k : Int) + 1) = 0 ∧ sp_m0 (6 + 3 * (k : Int) + 2) = 10 := by decide +kernel
theorem sp_m0_c : ∀ k : Nat, k < 4 → sp_m0 (33 + 2 * (k : Int)) = (k : Int) + 1 ∧ sp_m0 (33 + 2 * (k : Int) + 1) = 9 - 2 * (k : Int) := by decide +kernel
theorem sp_m0_t : ∀ k : Nat, k < 240 → sp_m0 (41 + (k : Int)) = 0 := by decide +kernel
theorem sp_m0_5 : sp_m0 0 = 0 ∧ sp_m0 1 = 0 ∧ sp_m0 2 = 1 ∧ sp_m0 3 = 0 ∧ sp_m0 4 = 0 ∧ sp_m0 5 = 0 := by decide +kernel
theorem sp_m0_H {k : Int} (k0 : 0 ≤ k) (k1 : k < 9) : sp_m0 (6 + 3 * k + 0) = 8 ∧ sp_m0 (6 + 3 * k + 1) = 0 ∧ sp_m0 (6 + 3 * k + 2) = 10 := by
  have q := sp_m0_h k.toNat (by omega)
  rw [show ((k.toNat : Nat) : Int) = k by omega] at q
  exact q
theorem sp_m0_C {k : Int} (k0 : 0 ≤ k) (k1 : k < 4) : sp_m0 (33 + 2 * k) = k + 1 ∧ sp_m0 (33 + 2 * k + 1) = 9 - 2 * k := by
  have q := sp_m0_c k.toNat (by omega)
  rw [show ((k.toNat : Nat) : Int) = k by omega] at q
  exact q
theorem sp_m0_T {i : Int} (i0 : 41 ≤ i) (i1 : i < 281) : sp_m0 i = 0 := by
  have q := sp_m0_t (i - 41).toNat (by omega)
  rw [show (41 : Int) + (((i - 41).toNat : Nat) : Int) = i by omega] at q
  exact q
theorem sp_m0_wf (c : Nat → Int) : sp_wf c 0 := ⟨by decide, by decide, fun k hk => absurd hk (by omega), fun z => absurd z (by decide)⟩
theorem sp_m0_ok {k : Int} (k0 : 0 ≤ k) (k1 : k < 6) : sp_cok (sp_row sp_m0 k) := by
  unfold sp_cok sp_row
  rw [sp_m0_T (i := 41 + 9 * k + 0) (by omega) (by omega), sp_m0_T (i := 41 + 9 * k + 1) (by omega) (by omega), sp_m0_T (i := 41 + 9 * k + 2) (by omega) (by omega), sp_m0_T (i := 41 + 9 * k + 3) (by omega) (by omega), sp_m0_T (i := 41 + 9 * k + 4) (by omega) (by omega), sp_m0_T (i := 41 + 9 * k + 5) (by omega) (by omega), sp_m0_T (i := 41 + 9 * k + 6) (by omega) (by omega), sp_m0_T (i := 41 + 9 * k + 7) (by omega) (by omega), sp_m0_T (i := 41 + 9 * k + 8) (by omega) (by omega)]
  decide
theorem sl_A_0 : sl_A sp_m0 := by
  obtain ⟨m0, m1, m2, m3, m4, m5⟩ := sp_m0_5
  refine ⟨⟨by omega, by omega, by omega, ⟨fun k k0 k1 => ?_, fun k k0 k1 => ?_⟩, fun k k0 k1 => sp_m0_ok k0 k1, ?_, ?_⟩, ⟨by omega, by omega, by omega, fun i i0 i1 => absurd i1 (by omega), fun i i0 i1 => ?_⟩, fun a a0 a1 => ?_⟩
  · have q := sp_m0_H k0 k1
    omega
  · have q := sp_m0_C k0 k1
    omega
  · rw [sp_m0_T (i := 95) (by decide) (by decide)]; exact sp_m0_wf _
  · rw [sp_m0_T (i := 96) (by decide) (by decide)]; exact sp_m0_wf _
  · rw [sp_m0_T (by omega) (by omega)]; decide
  · have q := sp_m0_H a0 (by omega)
    unfold sp_inB
    rw [m3, q.2.1]
    exact Int.le_refl _
theorem sp_wf_df0 : sp_wf (fun k => sc_df 0 (k : Int)) 3 := by
  have q : ∀ k : Nat, k < 3 → -224 ≤ sc_df 0 (k : Int) ∧ sc_df 0 (k : Int) ≤ 9999 ∧ (-100 < sc_df 0 (k : Int) → -3 ≤ sc_df 0 (k : Int)) ∧ (¬ -100 < sc_df 0 (k : Int) → 1 ≤ sp_dep (fun k => sc_df 0 (k : Int)) k) ∧ (¬ -100 < sc_df 0 (k : Int) → sc_df 0 (k : Int) ≠ -133 → 2 ≤ sp_dep (fun k => sc_df 0 (k : Int)) k) := by decide +kernel
  exact ⟨by decide, by decide, fun k hk => q k (by omega), fun _ => by decide +kernel⟩
theorem sp_wf_df1 : sp_wf (fun k => sc_df 1 (k : Int)) 11 := by
  have q : ∀ k : Nat, k < 11 → -224 ≤ sc_df 1 (k : Int) ∧ sc_df 1 (k : Int) ≤ 9999 ∧ (-100 < sc_df 1 (k : Int) → -3 ≤ sc_df 1 (k : Int)) ∧ (¬ -100 < sc_df 1 (k : Int) → 1 ≤ sp_dep (fun k => sc_df 1 (k : Int)) k) ∧ (¬ -100 < sc_df 1 (k : Int) → sc_df 1 (k : Int) ≠ -133 → 2 ≤ sp_dep (fun k => sc_df 1 (k : Int)) k) := by decide +kernel
  exact ⟨by decide, by decide, fun k hk => q k (by omega), fun _ => by decide +kernel⟩
theorem sc_T_00 {a b s : Int → Int} {t : Nat} (H : sc_tzr a b t 0) (hs : s 95 = 0) : sc_T a b s 0 := by
  obtain ⟨h0, h1, h2, h4, h6, h3, hc⟩ := H
  rw [if_pos rfl] at h1 h3
  refine ⟨by rw [if_pos rfl]; exact h1, ?_, by omega, fun k k0 k1 => (hc k k0 k1).2, Or.inr ⟨by rw [show (95 : Int) + 0 = 95 from rfl]; omega, by rw [if_pos rfl]; exact h3, fun k k0 k1 => (hc k k0 k1).1⟩⟩
  rw [h3]
  exact sp_wf_eq sp_wf_df0 (fun k hk => (hc (k : Int) (by omega) (by omega)).1)
theorem sc_T_01 {a b s : Int → Int} {t : Nat} (H : sc_tzr a b t 1) (hs : s 96 = 0) : sc_T a b s 1 := by
  obtain ⟨h0, h1, h2, h4, h6, h3, hc⟩ := H
  rw [if_neg (by decide)] at h1 h3
  refine ⟨by rw [if_neg (by decide)]; exact h1, ?_, by omega, fun k k0 k1 => (hc k k0 k1).2, Or.inr ⟨by rw [show (95 : Int) + 1 = 96 from rfl]; omega, by rw [if_neg (by decide)]; exact h3, fun k k0 k1 => (hc k k0 k1).1⟩⟩
  rw [h3]
  exact sp_wf_eq sp_wf_df1 (fun k hk => (hc (k : Int) (by omega) (by omega)).1)
theorem sc_is_0 : ∀ j : Nat, j < 6 → sc_is (sc_c0 (j : Int)) (sp_row sp_m0 (j : Int)) (j : Int) := by
  unfold sc_is
  decide +kernel
theorem sc_m0.fr {h h2 : Nat → Int → Int} (H : sc_m0 h) (e : ∀ a, a ≤ 80 → h2 a = h a) : sc_m0 h2 := by
  obtain ⟨a1, a2, a3, a4, a5, a6, a7, w1, w2, a8⟩ := H
  refine ⟨?_, ?_, ?_, ?_, ?_, ?_, ?_, w1.fr (fun a a0 a1 => e a (by omega)), w2.fr (fun a a0 a1 => e a (by omega)), ?_⟩
  · rw [e 0 (by decide)]; exact a1
  · rw [e 1 (by decide)]; exact a2
  · rw [e 2 (by decide), e 3 (by decide), e 4 (by decide), e 5 (by decide), e 6 (by decide), e 7 (by decide), e 8 (by decide)]; exact a3
  · rw [e 9 (by decide)]; exact a4
  · rw [e 10 (by decide)]; exact a5
  · rw [e 17 (by decide)]; exact a6
  · rw [e 16 (by decide), e 18 (by decide), e 19 (by decide), e 20 (by decide), e 21 (by decide), e 22 (by decide), e 23 (by decide), e 24 (by decide)]; exact a7
  · rw [e 75 (by decide), e 76 (by decide), e 77 (by decide), e 78 (by decide), e 79 (by decide), e 80 (by decide)]; exact a8
set_option maxRecDepth 100000 in
theorem FX_0 {h : Nat → Int → Int} (M : sc_m0 h) (O : sc_o0 h) : mh_FX h := by
  obtain ⟨⟨d0, d1, d2, d3, d4, d5, d6, d7, d8, d9, d10⟩, a2, a3, a4, ⟨e0, e1, e2, e3, e4⟩, a6, a7, b1, b2, a8⟩ := M
  obtain ⟨⟨p0, p1, p2, p5, p6, p7, p8, p14, p15, p21, p26, p27, p28, p29⟩, n2, n3, n4⟩ := O
  obtain ⟨⟨u1_0, u1_1, u1_2, u1_3, u1_4, u1_5, u1_9, u1_11, u1_12, u1_13⟩, u2, u3, u4, u5, u6, ⟨u8_0, u8_1, u8_2, u8_4, u8_6, u8_r⟩, ⟨u13_0, u13_1, u13_2, u13_4, u13_6, u13_r⟩, u9⟩ := b1
  obtain ⟨⟨w1_0, w1_1, w1_2, w1_3, w1_4, w1_5, w1_9, w1_11, w1_12, w1_13⟩, w2, w3, w4, w5, w6, ⟨w8_0, w8_1, w8_2, w8_4, w8_6, w8_r⟩, ⟨w13_0, w13_1, w13_2, w13_4, w13_6, w13_r⟩, w9⟩ := b2
  unfold mh_FX mh_fx
  exact List.forall_mem_cons.mpr ⟨d0, List.forall_mem_cons.mpr ⟨d1, List.forall_mem_cons.mpr ⟨d3, List.forall_mem_cons.mpr ⟨d4, List.forall_mem_cons.mpr ⟨d5, List.forall_mem_cons.mpr ⟨d6, List.forall_mem_cons.mpr ⟨d7, List.forall_mem_cons.mpr ⟨d8, List.forall_mem_cons.mpr ⟨d9, List.forall_mem_cons.mpr ⟨d10, List.forall_mem_cons.mpr ⟨(a2 0 (by decide)), List.forall_mem_cons.mpr ⟨(a2 1 (by decide)), List.forall_mem_cons.mpr ⟨(a2 2 (by decide)), List.forall_mem_cons.mpr ⟨(a2 3 (by decide)), List.forall_mem_cons.mpr ⟨(a2 4 (by decide)), List.forall_mem_cons.mpr ⟨(a2 5 (by decide)), List.forall_mem_cons.mpr ⟨(a2 6 (by decide)), List.forall_mem_cons.mpr ⟨(a4 0 (by decide)), List.forall_mem_cons.mpr ⟨(a4 1 (by decide)), List.forall_mem_cons.mpr ⟨(a4 2 (by decide)), List.forall_mem_cons.mpr ⟨(a4 3 (by decide)), List.forall_mem_cons.mpr ⟨(a4 4 (by decide)), List.forall_mem_cons.mpr ⟨(a4 5 (by decide)), List.forall_mem_cons.mpr ⟨e0, List.forall_mem_cons.mpr ⟨e1, List.forall_mem_cons.mpr ⟨e2, List.forall_mem_cons.mpr ⟨e3, List.forall_mem_cons.mpr ⟨e4, List.forall_mem_cons.mpr ⟨(a6 0 (by decide)), List.forall_mem_cons.mpr ⟨(a6 1 (by decide)), List.forall_mem_cons.mpr ⟨(a6 2 (by decide)), List.forall_mem_cons.mpr ⟨(a6 3 (by decide)), List.forall_mem_cons.mpr ⟨u1_0, List.forall_mem_cons.mpr ⟨u1_1, List.forall_mem_cons.mpr ⟨u1_2, List.forall_mem_cons.mpr ⟨u1_3, List.forall_mem_cons.mpr ⟨u1_4, List.forall_mem_cons.mpr ⟨u1_5, List.forall_mem_cons.mpr ⟨u1_9, List.forall_mem_cons.mpr ⟨u1_11, List.forall_mem_cons.mpr ⟨u1_12, List.forall_mem_cons.mpr ⟨u1_13, List.forall_mem_cons.mpr ⟨(u5 0 (by decide)), List.forall_mem_cons.mpr ⟨(u5 1 (by decide)), List.forall_mem_cons.mpr ⟨(u5 2 (by decide)), List.forall_mem_cons.mpr ⟨(u5 3 (by decide)), List.forall_mem_cons.mpr ⟨(u5 4 (by decide)), List.forall_mem_cons.mpr ⟨(u5 5 (by decide)), List.forall_mem_cons.mpr ⟨u8_0, List.forall_mem_cons.mpr ⟨u8_2, List.forall_mem_cons.mpr ⟨u8_4, List.forall_mem_cons.mpr ⟨u8_6, List.forall_mem_cons.mpr ⟨u13_0, List.forall_mem_cons.mpr ⟨u13_2, List.forall_mem_cons.mpr ⟨u13_4, List.forall_mem_cons.mpr ⟨u13_6, List.forall_mem_cons.mpr ⟨w1_0, List.forall_mem_cons.mpr ⟨w1_1, List.forall_mem_cons.mpr ⟨w1_2, List.forall_mem_cons.mpr ⟨w1_3, List.forall_mem_cons.mpr ⟨w1_4, List.forall_mem_cons.mpr ⟨w1_5, List.forall_mem_cons.mpr ⟨w1_9, List.forall_mem_cons.mpr ⟨w1_11, List.forall_mem_cons.mpr ⟨w1_12, List.forall_mem_cons.mpr ⟨w1_13, List.forall_mem_cons.mpr ⟨(w5 0 (by decide)), List.forall_mem_cons.mpr ⟨(w5 1 (by decide)), List.forall_mem_cons.mpr ⟨(w5 2 (by decide)), List.forall_mem_cons.mpr ⟨(w5 3 (by decide)), List.forall_mem_cons.mpr ⟨(w5 4 (by decide)), List.forall_mem_cons.mpr ⟨(w5 5 (by decide)), List.forall_mem_cons.mpr ⟨w8_0, List.forall_mem_cons.mpr ⟨w8_2, List.forall_mem_cons.mpr ⟨w8_4, List.forall_mem_cons.mpr ⟨w8_6, List.forall_mem_cons.mpr ⟨w13_0, List.forall_mem_cons.mpr ⟨w13_2, List.forall_mem_cons.mpr ⟨w13_4, List.forall_mem_cons.mpr ⟨w13_6, List.forall_mem_cons.mpr ⟨p0, List.forall_mem_cons.mpr ⟨p1, List.forall_mem_cons.mpr ⟨p2, List.forall_mem_cons.mpr ⟨p5, List.forall_mem_cons.mpr ⟨p6, List.forall_mem_cons.mpr ⟨p7, List.forall_mem_cons.mpr ⟨p8, List.forall_mem_cons.mpr ⟨p14, List.forall_mem_cons.mpr ⟨p15, List.forall_mem_cons.mpr ⟨p21, List.forall_mem_cons.mpr ⟨p26, List.forall_mem_cons.mpr ⟨p27, List.forall_mem_cons.mpr ⟨p28, List.forall_mem_cons.mpr ⟨p29, fun _ z => absurd z List.not_mem_nil⟩⟩⟩⟩⟩⟩⟩⟩⟩⟩⟩⟩⟩⟩⟩⟩⟩⟩⟩⟩⟩⟩⟩⟩⟩⟩⟩⟩⟩⟩⟩⟩⟩⟩⟩⟩⟩⟩⟩⟩⟩⟩⟩⟩⟩⟩⟩⟩⟩⟩⟩⟩⟩⟩⟩⟩⟩⟩⟩⟩⟩⟩⟩⟩⟩⟩⟩⟩⟩⟩⟩⟩⟩⟩⟩⟩⟩⟩⟩⟩⟩⟩⟩⟩⟩⟩⟩⟩⟩⟩⟩⟩⟩⟩
theorem sl_C_0 {h : Nat → Int → Int} (M : sc_m0 h) (O : sc_o0 h) : sl_C h sp_m0 (fun _ => 0) (h 81) (fun _ => 0) (fun _ => 0) (fun _ => 0) (fun _ => 0) (fun _ => 0) := by
  obtain ⟨m0, m1, m2, m3, m4, m5⟩ := sp_m0_5
  obtain ⟨a1, a2, ⟨k0, k1, k2, k3, k4, k5, k6⟩, a4, a5, a6, ⟨z16, z18, z19, z20, z21, z22, z23, z24⟩, w1, w2, a8⟩ := M
  have a02 : h 0 2 = 0 := a1.2.2.1
  obtain ⟨p1, ⟨o3, o4, o9, o10, o11, o12, o13, o16, o17, o18, o19, o20, o22, o23, o24, o25⟩, p3, p4⟩ := O
  obtain ⟨u1, ⟨v6, v7, v8, v10, v14, v15⟩, u3, u4, u5, ⟨c0, c1, c2, c3, c4, c5⟩, t1, t2, z32⟩ := w1
  obtain ⟨uu1, uu2, uu3, uu4, uu5, ⟨cc0, cc1, cc2, cc3, cc4, cc5⟩, tt1, tt2, z57⟩ := w2
  refine ⟨⟨⟨fun k y0 y1 => ?_, fun k y0 y1 => ?_, sc_T_00 t1 (sp_m0_T (by decide) (by decide)), sc_T_01 t2 (sp_m0_T (by decide) (by decide))⟩, fun j j0 j1 => ?_, ?_⟩, fun k y0 y1 => ?_, fun k y0 y1 => ?_, ⟨fun i i0 i1 => absurd i1 (by omega), fun i i0 i1 => absurd i1 (by omega)⟩, ⟨fun j j0 j1 => ?_, ?_, ?_, fun i i0 i1 => ?_, fun i i0 i1 => ?_⟩, ⟨?_, by omega, by omega⟩, fun z => absurd z (by omega), fun k y0 y1 => ⟨Or.inl rfl, ⟨Int.le_refl _, (by decide : (0 : Int) ≤ 40)⟩, by rw [z22], fun z => absurd rfl z⟩, ?_, fun i i0 i1 => absurd i1 (by omega)⟩
  · obtain ⟨x1, x2, x3⟩ := u3 k y0 y1
    obtain ⟨y1, y2, y3⟩ := sp_m0_H y0 y1
    exact ⟨x1.trans y1.symm, x2.trans y2.symm, x3.trans y3.symm⟩
  · obtain ⟨x1, x2⟩ := u4 k.toNat (by omega)
    obtain ⟨y1, y2⟩ := sp_m0_C y0 y1
    rw [show ((k.toNat : Nat) : Int) = k by omega] at x1 x2
    exact ⟨x1.trans y1.symm, x2.trans y2.symm⟩
  · rcases (show j = 0 ∨ j = 1 ∨ j = 2 ∨ j = 3 ∨ j = 4 ∨ j = 5 by omega) with z | z | z | z | z | z
    · subst z; show sc_is (h (25 + 19)) _ _; rw [c0]; exact sc_is_0 0 (by decide)
    · subst z; show sc_is (h (25 + 20)) _ _; rw [c1]; exact sc_is_0 1 (by decide)
    · subst z; show sc_is (h (25 + 21)) _ _; rw [c2]; exact sc_is_0 2 (by decide)
    · subst z; show sc_is (h (25 + 22)) _ _; rw [c3]; exact sc_is_0 3 (by decide)
    · subst z; show sc_is (h (25 + 23)) _ _; rw [c4]; exact sc_is_0 4 (by decide)
    · subst z; show sc_is (h (25 + 24)) _ _; rw [c5]; exact sc_is_0 5 (by decide)
  · exact ⟨v6.trans m3.symm, v7.trans m0.symm, v8.trans m1.symm, v10.trans m4.symm, v14.trans m5.symm, v15.trans m2.symm⟩
  · rw [z24]
  · rcases (show k = 0 ∨ k = 1 ∨ k = 2 ∨ k = 3 ∨ k = 4 ∨ k = 5 ∨ k = 6 by omega) with z | z | z | z | z | z | z
    · subst z; exact k0
    · subst z; exact k1
    · subst z; exact k2
    · subst z; exact k3
    · subst z; exact k4
    · subst z; exact k5
    · subst z; exact k6
  · rcases (show j = 0 ∨ j = 1 ∨ j = 2 ∨ j = 3 ∨ j = 4 ∨ j = 5 by omega) with z | z | z | z | z | z
    · subst z; show h (50 + 19) 0 = 0; rw [cc0]; decide +kernel
    · subst z; show h (50 + 20) 0 = 1; rw [cc1]; decide +kernel
    · subst z; show h (50 + 21) 0 = 2; rw [cc2]; decide +kernel
    · subst z; show h (50 + 22) 0 = 3; rw [cc3]; decide +kernel
    · subst z; show h (50 + 23) 0 = 4; rw [cc4]; decide +kernel
    · subst z; show h (50 + 24) 0 = 5; rw [cc5]; decide +kernel
  · exact tt1.2.1
  · exact tt2.2.1
  · show -128 ≤ h (25 + 7) i ∧ h (25 + 7) i ≤ 127
    rw [z32]; exact ⟨(by decide : (-128 : Int) ≤ 0), (by decide : (0 : Int) ≤ 127)⟩
  · show -128 ≤ h (50 + 7) i ∧ h (50 + 7) i ≤ 127
    rw [z57]; exact ⟨(by decide : (-128 : Int) ≤ 0), (by decide : (0 : Int) ≤ 127)⟩
  · exact a02.trans o4.symm
  · rw [z16]; exact o22.symm
theorem LI_0 {h : Nat → Int → Int} (M : sc_m0 h) (O : sc_o0 h) : LI 0 h := by
  obtain ⟨p1, ⟨o3, o4, o9, o10, o11, o12, o13, o16, o17, o18, o19, o20, o22, o23, o24, o25⟩, p3, q83, q84, q85, q86, q87, q88, q89, q90, q91, q92, q93, q94, q95⟩ := id O
  refine ⟨sp_m0, fun _ => 0, h 81, fun _ => 0, fun _ => 0, fun _ => 0, fun _ => 0, fun _ => 0, FX_0 M O, ⟨p3, q85, rfl, q83, q91, q92, q93, q94⟩, sl_C_0 M O, sl_A_0, fun z => absurd z (by omega), by omega, fun p y0 y1 => ⟨(by decide : (-2147483648 : Int) ≤ 0), (by decide : (0 : Int) < 2147483648)⟩, by omega⟩
theorem LI.up {i j : Int} {h : Nat → Int → Int} (H : LI i h) (e : i ≤ j) : LI j h := by
  obtain ⟨s, er, o, kp, b, z, u, v, a1, a2, a3, a4, a5, a6, a7, a8⟩ := H
  exact ⟨s, er, o, kp, b, z, u, v, a1, a2, a3, a4, a5, a6, a7, by omega⟩

set_option maxRecDepth 100000 in
set_option maxHeartbeats 2000000 in
theorem L_loop {g : mh_G} {f : mh_F} {d cl sl b0 L : Nat} {xs : Nat → Int32} (hd : 80 ≤ d) (F : mh_Fr g f RL cL_law 4 d) (hX : mh_scr g f b0 L xs) (hc : cl ≤ (mh_R f).cells ∧ sl ≤ (mh_R f).slots) (K : ∀ (i : Int) (h : Nat → Int → Int), mh_V g f 4 96 cl sl 1458 [some (.ref 1000009), some (.ref 0), some (.ref 81), some (.int (Int32.ofInt (i)))] [] h) (m : Nat) : ∀ (i : Int) (h : Nat → Int → Int), 0 ≤ i → i ≤ (L : Int) + 6 → (L : Int) + 6 - i < (m : Int) → LI i h → mh_V g f 4 96 cl sl 18 [some (.ref 1000009), some (.ref 0), some (.ref 81), some (.int (Int32.ofInt (i)))] [] h := by
  induction m with
  | zero => intro i h i0 hi hm H; exact absurd hm (by omega)
  | succ m ih =>
    intro i h i0 hi hm H
    have hL3 := hX.2.2.2.2
    refine mh_iload3 (pc := 18) F dL_law_18 ?_
    refine mh_aload0 (pc := 19) F dL_law_19 ?_
    refine mh_slen (pc := 20) F hX dL_law_20 ?_
    refine mh_bipush (pc := 21) F dL_law_21 rfl ?_
    refine mh_isub (pc := 23) F dL_law_23 ?_
    refine mh_icmp_gt (pc := 24) (tgt := 1458) F dL_law_24 rfl (by omega) (by omega) (fun c => K i h) (fun c => ?_)
    have KK : ∀ h2 : Nat → Int → Int, LI (i + 6) h2 → mh_V g f 4 96 cl sl 1452 [some (.ref 1000009), some (.ref 0), some (.ref 81), some (.int (Int32.ofInt (i)))] [] h2 := fun h2 H2 => by
      refine mh_iinc3 (pc := 1452) F dL_law_1452 rfl (by decide) ?_
      refine mh_goto (pc := 1455) (tgt := 18) F dL_law_1455 rfl ?_
      exact ih (i + 6) h2 (by omega) (by omega) (by omega) H2
    have hi6 : 0 ≤ i ∧ i + 6 ≤ (L : Int) := by omega
    refine mh_aload0 (pc := 27) F dL_law_27 ?_
    refine mh_iload3 (pc := 28) F dL_law_28 ?_
    refine mh_sld (pc := 29) F hX (by omega) dL_law_29 ?_
    refine mh_bipush (pc := 30) F dL_law_30 rfl ?_
    refine mh_iand (pc := 32) F dL_law_32 ?_
    have hq := mh_andR (mh_cx xs i) 63
    generalize mh_and (mh_cx xs i) 63 = q at hq ⊢
    by_cases c_0 : q = 0
    · exact mh_tabIn (pc := 33) (off := 171) (tgt := 204) F dL_law_33 hq (by omega) (by omega) (by rw [c_0]; rfl) rfl (L_hill hd F hX hc hi6 H KK)
    by_cases c_1 : q = 1
    · exact mh_tabIn (pc := 33) (off := 214) (tgt := 247) F dL_law_33 hq (by omega) (by omega) (by rw [c_1]; rfl) rfl (L_ofHill hd F hX hc hi6 H KK)
    by_cases c_2 : q = 2
    · exact mh_tabIn (pc := 33) (off := 247) (tgt := 280) F dL_law_33 hq (by omega) (by omega) (by rw [c_2]; rfl) rfl (L_carrier hd F hX hc hi6 H KK)
    by_cases c_3 : q = 3
    · exact mh_tabIn (pc := 33) (off := 290) (tgt := 323) F dL_law_33 hq (by omega) (by omega) (by rw [c_3]; rfl) rfl (L_churn hd F hX hc hi6 H KK)
    by_cases c_4 : q = 4
    · exact mh_tabIn (pc := 33) (off := 313) (tgt := 346) F dL_law_33 hq (by omega) (by omega) (by rw [c_4]; rfl) rfl (L_ofChurn hd F hX hc hi6 H KK)
    by_cases c_5 : q = 5
    · exact mh_tabIn (pc := 33) (off := 346) (tgt := 379) F dL_law_33 hq (by omega) (by omega) (by rw [c_5]; rfl) rfl (L_become hd F hX hc hi6 H KK)
    by_cases c_6 : q = 6
    · exact mh_tabIn (pc := 33) (off := 379) (tgt := 412) F dL_law_33 hq (by omega) (by omega) (by rw [c_6]; rfl) rfl (L_as hd F hX hc hi6 H KK)
    by_cases c_7 : q = 7
    · exact mh_tabIn (pc := 33) (off := 412) (tgt := 445) F dL_law_33 hq (by omega) (by omega) (by rw [c_7]; rfl) rfl (L_go hd F hX hc hi6 H KK)
    by_cases c_8 : q = 8
    · exact mh_tabIn (pc := 33) (off := 445) (tgt := 478) F dL_law_33 hq (by omega) (by omega) (by rw [c_8]; rfl) rfl (L_brook hd F hX hc hi6 H KK)
    by_cases c_9 : q = 9
    · exact mh_tabIn (pc := 33) (off := 468) (tgt := 501) F dL_law_33 hq (by omega) (by omega) (by rw [c_9]; rfl) rfl (L_rest hd F hX hc hi6 H KK)
    by_cases c_10 : q = 10
    · exact mh_tabIn (pc := 33) (off := 491) (tgt := 524) F dL_law_33 hq (by omega) (by omega) (by rw [c_10]; rfl) rfl (L_giveUp hd F hX hc hi6 H KK)
    by_cases c_11 : q = 11
    · exact mh_tabIn (pc := 33) (off := 514) (tgt := 547) F dL_law_33 hq (by omega) (by omega) (by rw [c_11]; rfl) rfl (L_refill hd F hX hc hi6 H KK)
    by_cases c_12 : q = 12
    · exact mh_tabIn (pc := 33) (off := 537) (tgt := 570) F dL_law_33 hq (by omega) (by omega) (by rw [c_12]; rfl) rfl (L_feed hd F hX hc hi6 H KK)
    by_cases c_13 : q = 13
    · exact mh_tabIn (pc := 33) (off := 600) (tgt := 633) F dL_law_33 hq (by omega) (by omega) (by rw [c_13]; rfl) rfl (L_text hd F hX hc hi6 H KK)
    by_cases c_14 : q = 14
    · exact mh_tabIn (pc := 33) (off := 623) (tgt := 656) F dL_law_33 hq (by omega) (by omega) (by rw [c_14]; rfl) rfl (L_law hd F hX hc hi6 H KK)
    by_cases c_15 : q = 15
    · exact mh_tabIn (pc := 33) (off := 676) (tgt := 709) F dL_law_33 hq (by omega) (by omega) (by rw [c_15]; rfl) rfl (L_quarters hd F hX hc hi6 H KK)
    by_cases c_16 : q = 16
    · exact mh_tabIn (pc := 33) (off := 699) (tgt := 732) F dL_law_33 hq (by omega) (by omega) (by rw [c_16]; rfl) rfl (L_days hd F hX hc hi6 H KK)
    by_cases c_17 : q = 17
    · exact mh_tabIn (pc := 33) (off := 722) (tgt := 755) F dL_law_33 hq (by omega) (by omega) (by rw [c_17]; rfl) rfl (L_thunder hd F hX hc hi6 H KK)
    by_cases c_18 : q = 18
    · exact mh_tabIn (pc := 33) (off := 735) (tgt := 768) F dL_law_33 hq (by omega) (by omega) (by rw [c_18]; rfl) rfl (L_then hd F hX hc hi6 H KK)
    by_cases c_19 : q = 19
    · exact mh_tabIn (pc := 33) (off := 778) (tgt := 811) F dL_law_33 hq (by omega) (by omega) (by rw [c_19]; rfl) rfl (L_relays hd F hX hc hi6 H KK)
    by_cases c_20 : q = 20
    · exact mh_tabIn (pc := 33) (off := 821) (tgt := 854) F dL_law_33 hq (by omega) (by omega) (by rw [c_20]; rfl) rfl (L_turnsAt hd F hX hc hi6 H KK)
    by_cases c_21 : q = 21
    · exact mh_tabIn (pc := 33) (off := 854) (tgt := 887) F dL_law_33 hq (by omega) (by omega) (by rw [c_21]; rfl) rfl (L_bestGiven hd F hX hc hi6 H KK)
    by_cases c_22 : q = 22
    · exact mh_tabIn (pc := 33) (off := 897) (tgt := 930) F dL_law_33 hq (by omega) (by omega) (by rw [c_22]; rfl) rfl (L_cellar hd F hX hc hi6 H KK)
    by_cases c_23 : q = 23
    · exact mh_tabIn (pc := 33) (off := 940) (tgt := 973) F dL_law_33 hq (by omega) (by omega) (by rw [c_23]; rfl) rfl (L_odds hd F hX hc hi6 H KK)
    by_cases c_24 : q = 24
    · exact mh_tabIn (pc := 33) (off := 984) (tgt := 1017) F dL_law_33 hq (by omega) (by omega) (by rw [c_24]; rfl) rfl (L_byWhom hd F hX hc hi6 H KK)
    by_cases c_25 : q = 25
    · exact mh_tabIn (pc := 33) (off := 1027) (tgt := 1060) F dL_law_33 hq (by omega) (by omega) (by rw [c_25]; rfl) rfl (L_seed hd F hX hc hi6 H KK)
    by_cases c_26 : q = 26
    · exact mh_tabIn (pc := 33) (off := 1050) (tgt := 1083) F dL_law_33 hq (by omega) (by omega) (by rw [c_26]; rfl) rfl (L_voice hd F hX hc hi6 H KK)
    by_cases c_27 : q = 27
    · exact mh_tabIn (pc := 33) (off := 1093) (tgt := 1126) F dL_law_33 hq (by omega) (by omega) (by rw [c_27]; rfl) rfl (L_trace hd F hX hc hi6 H KK)
    by_cases c_28 : q = 28
    · exact mh_tabIn (pc := 33) (off := 1116) (tgt := 1149) F dL_law_33 hq (by omega) (by omega) (by rw [c_28]; rfl) rfl (L_sheet hd F hX hc hi6 H KK)
    by_cases c_29 : q = 29
    · exact mh_tabIn (pc := 33) (off := 1159) (tgt := 1192) F dL_law_33 hq (by omega) (by omega) (by rw [c_29]; rfl) rfl (L_put hd F hX hc hi6 H KK)
    by_cases c_30 : q = 30
    · exact mh_tabIn (pc := 33) (off := 1202) (tgt := 1235) F dL_law_33 hq (by omega) (by omega) (by rw [c_30]; rfl) rfl (L_move hd F hX hc hi6 H KK)
    by_cases c_31 : q = 31
    · exact mh_tabIn (pc := 33) (off := 1265) (tgt := 1298) F dL_law_33 hq (by omega) (by omega) (by rw [c_31]; rfl) rfl (L_heats hd F hX hc hi6 H KK)
    by_cases c_32 : q = 32
    · exact mh_tabIn (pc := 33) (off := 1288) (tgt := 1321) F dL_law_33 hq (by omega) (by omega) (by rw [c_32]; rfl) rfl (L_judge hd F hX hc hi6 H KK)
    by_cases c_33 : q = 33
    · exact mh_tabIn (pc := 33) (off := 1311) (tgt := 1344) F dL_law_33 hq (by omega) (by omega) (by rw [c_33]; rfl) rfl (L_image hd F hX hc hi6 H KK)
    by_cases c_34 : q = 34
    · exact mh_tabIn (pc := 33) (off := 1324) (tgt := 1357) F dL_law_33 hq (by omega) (by omega) (by rw [c_34]; rfl) rfl (L_restore hd F hX hc hi6 H KK)
    by_cases c_35 : q = 35
    · exact mh_tabIn (pc := 33) (off := 1337) (tgt := 1370) F dL_law_33 hq (by omega) (by omega) (by rw [c_35]; rfl) rfl (L_tell hd F hX hc hi6 H KK)
    by_cases c_36 : q = 36
    · exact mh_tabIn (pc := 33) (off := 1360) (tgt := 1393) F dL_law_33 hq (by omega) (by omega) (by rw [c_36]; rfl) rfl (L_check hd F hX hc hi6 H KK)
    by_cases c_37 : q = 37
    · exact mh_tabIn (pc := 33) (off := 1373) (tgt := 1406) F dL_law_33 hq (by omega) (by omega) (by rw [c_37]; rfl) rfl (L_count hd F hX hc hi6 H KK)
    by_cases c_38 : q = 38
    · exact mh_tabIn (pc := 33) (off := 1396) (tgt := 1429) F dL_law_33 hq (by omega) (by omega) (by rw [c_38]; rfl) rfl (L_told hd F hX hc hi6 H KK)
    exact mh_tabOut (pc := 33) (tgt := 1452) F dL_law_33 hq (by omega) rfl (KK h (H.up (by omega)))
set_option maxRecDepth 100000 in
set_option maxHeartbeats 2000000 in
theorem L_start {g : mh_G} {f : mh_F} {d b0 L : Nat} {xs : Nat → Int32} (hd : 82 ≤ d) (F : mh_Fr g f RL cL_law 4 d) (hX : mh_scr g f b0 L xs) (hAA : mh_AA g (mh_s f)) (hR : (mh_R f).cells = 600000 ∧ (mh_R f).slots = 7302250) (K : ∀ (i : Int) (h : Nat → Int → Int), mh_V g f 4 96 96 46866 1458 [some (.ref 1000009), some (.ref 0), some (.ref 81), some (.int (Int32.ofInt (i)))] [] h) (h : Nat → Int → Int) : mh_V g f 4 0 0 0 0 [some (.ref 1000009), none, none, none] [] h := by
  refine mh_new (ci := 11) (n1 := 1) (cl1 := 1) (sl1 := 11) (pc := 0) F sh_0 (by decide) tw_1_22 tw_1_23 tw_1_1 ⟨rfl, rfl, rfl⟩ ⟨by rw [hR.1]; exact Nat.le_of_ble_eq_true rfl, by rw [hR.2]; exact Nat.le_of_ble_eq_true rfl⟩ dL_law_0 ?_
  refine mh_nmh (fun h1 e1 => ?_)
  have r0_1 : h1 0 = fun _ => (0 : Int) := by rw [e1]; exact mh_zr_rs
  refine mh_dup (pc := 3) F dL_law_3 rfl ?_
  refine mh_callI2x (pc := 4) (As := []) (st := [.ref 0]) (n1 := 81) (cl1 := 81) (sl1 := 8529) F (by omega) (q47_init (by omega) r0_1) hAA ⟨rfl, rfl, rfl⟩ wi_RL_9 dL_law_4 rfl rfl (Nat.le_of_ble_eq_true rfl) ⟨by rw [hR.1]; exact Nat.le_of_ble_eq_true rfl, by rw [hR.2]; exact Nat.le_of_ble_eq_true rfl⟩ (fun r2 h2 q2 => ?_)
  obtain ⟨rfl, fr2, M2⟩ := q2
  refine mh_astore1 (pc := 7) F dL_law_7 rfl (by decide) ?_
  refine mh_new (ci := 12) (n1 := 82) (cl1 := 82) (sl1 := 8559) (pc := 8) F sh_81 (by decide) tw_5_117 tw_5_118 tw_1_21 ⟨rfl, rfl, rfl⟩ ⟨by rw [hR.1]; exact Nat.le_of_ble_eq_true rfl, by rw [hR.2]; exact Nat.le_of_ble_eq_true rfl⟩ dL_law_8 ?_
  refine mh_nmh (fun h3 e3 => ?_)
  have r81_3 : h3 81 = fun _ => (0 : Int) := by rw [e3]; exact mh_zr_rs
  have M3 : sc_m0 h3 := M2.fr (fun a ha => by rw [e3]; exact mh_zr_row (by omega))
  refine mh_dup (pc := 11) F dL_law_11 rfl ?_
  refine mh_callIx (pc := 12) (As := []) (st := [.ref 81]) (n1 := 96) (cl1 := 96) (sl1 := 46866) F (by omega) (q48_init (by omega) r81_3) ⟨rfl, rfl, rfl⟩ wi_RL_12 dL_law_12 rfl rfl (Nat.le_of_ble_eq_true rfl) ⟨by rw [hR.1]; exact Nat.le_of_ble_eq_true rfl, by rw [hR.2]; exact Nat.le_of_ble_eq_true rfl⟩ (fun r4 h4 q4 => ?_)
  obtain ⟨rfl, fr4, O4⟩ := q4
  have M4 : sc_m0 h4 := M3.fr (fun a ha => fr4 a (by simp; omega))
  refine mh_astore2 (pc := 15) F dL_law_15 rfl (by decide) ?_
  refine mh_iconst (pc := 16) F dL_law_16 ?_
  refine mh_istore3 (pc := 17) F dL_law_17 rfl (by decide) ?_
  exact L_loop (by omega) F hX ⟨by rw [hR.1]; exact Nat.le_of_ble_eq_true rfl, by rw [hR.2]; exact Nat.le_of_ble_eq_true rfl⟩ K (L + 7) 0 h4 (by decide) (by omega) (by omega) (LI_0 M4 O4)
