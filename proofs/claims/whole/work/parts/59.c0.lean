/-! a super call that finds its method one class further up -/
section
variable {p : Program} {l : Launch} {e : Env} {R : Room} {s : State} {m : MethodId} {args : Array Value} {below : List Frame} {meth : Method} {c : Code}
theorem cx_super2 {own mid owner : String} {c0 : ClassId} (hown : s.vm.findClass own = some c0) (h1 : (Cond.superclass own mid).before args s = true) (h2 : (Cond.superclass mid owner).before args s = true) {mk : ClassId} (hmk : s.vm.findClass owner = some mk) :
    ∃ ps dk, s.vm.findClass mid = some ps ∧ s.vm.classes[c0]? = some dk ∧ dk.super = some ps ∧ dk.isInterface = false ∧ s.vm.isSubclass ps mk = true := by
  obtain ⟨ps, dk, kp, a1, a2, a3, a4, -, -, a5⟩ := Cond.superclass_spec hown h1
  obtain ⟨ps2, dk2, kp2, b1, b2, b3, b4, -, -, b5⟩ := Cond.superclass_spec a1 h2
  have e : ps2 = mk := Option.some.inj (b1.symm.trans hmk)
  subst e
  refine ⟨ps, dk, a1, a2, a4, a5, ?_⟩
  have hsz : 0 < s.vm.classes.size := by
    have := (Array.getElem?_eq_some_iff.mp a3).1
    exact Nat.lt_of_le_of_lt (Nat.zero_le _) this
  obtain ⟨n, hn⟩ : ∃ n, s.vm.classes.size = n + 1 := ⟨s.vm.classes.size - 1, by omega⟩
  simp [Vm.isSubclass, Vm.isSubclassAux, hn, b2, b4]
theorem cx_callSX {T : State} {locs : List Loc} {cells slots : Nat} (X : Stand p l e R s m args below meth c T locs cells slots) (hexec : p.tables.exec = Jvm.exec) {own owner : String} {index : Nat} {x : MethodName} {bytes : ByteArray} {maxL : Nat} {ret : Option FieldType}
    (hown : s.vm.findClass own = some m.cls) (hlink : (Cond.methodLink own index x).before args s = true) (hsame : (Cond.sameMethod x.cls owner x.name x.desc).before args s = true) (hs1 : (Cond.superclass own x.cls).before args s = true) (hs2 : (Cond.superclass x.cls owner).before args s = true)
    (hinst : (Cond.instanceMethod ⟨owner, x.name, x.desc⟩).before args s = true) (hcode : (Cond.code ⟨owner, x.name, x.desc⟩ bytes maxL ret).before args s = true) (hno : x.name ≠ "<init>")
    {W : Nat} {Pre : Pt → Array Value → Prop} {Post : Pt → Array Value → Option Value → Pt → Prop} (hK : Back l R p e below s args ⟨owner, x.name, x.desc⟩ 3 W Pre Post)
    {b : Addr} {cellB : Cell} {kB : Class} (hcell : T.heap[b]? = some cellB) (hobj : cellB.vm.isStatics = false) (hkB : s.vm.classes[cellB.cls]? = some kB)
    {g : JFrame} (hg : g.method = m) (hsize : g.locals.size = c.maxLocals) {argsL rest : List Value} (hlen : ∀ sig, parseMethodDescriptor x.desc = some sig → argsL.length = sig.parameters.length)
    (hstack : g.stack = argsL.reverse ++ .ref b :: rest) (hW : 2 * g.monitorRoom + (rest.map fun v => v.category).sum ≤ W) (hdg : decode c.code g.pc = .ok (.invokespecial index, 3))
    (hpre : ∀ vm₁, s.WarmedH vm₁ → Pre ⟨T.setVm vm₁, locs, cells, slots⟩ (Value.ref b :: argsL).toArray) :
    ∃ (v : Option Value) (vm₁ : Vm) (B : Pt), s.WarmedH vm₁ ∧ Stand p l e R s m args below meth c B.U B.locs B.cells B.slots ∧ Post ⟨T.setVm vm₁, locs, cells, slots⟩ (Value.ref b :: argsL).toArray v B ∧
      ∀ target, Steps p.tables e below (B.U.setTop { g with pc := g.pc + 3, stack := v.toList ++ rest }) target → Steps p.tables e below (T.setTop g) target := by
  obtain ⟨mk, methM, hnamed, hmethM, hstM, habM⟩ := Cond.instanceMethod_spec hinst
  obtain ⟨methM', cM, hmethM', -, -, -, -, -, -, hsigM⟩ := Cond.code_spec hnamed hcode
  cases hmethM.symm.trans hmethM'
  have hn : s.methodNamed? ⟨owner, x.name, x.desc⟩ = some mk := hnamed
  obtain ⟨ps, dk, hps, hdk, hsuper, hnid, hsub⟩ := cx_super2 hown hs1 hs2 (findClass_of_methodNamed hnamed)
  obtain ⟨vm₁, X₁, hstep₁⟩ := X.invokespecialUp hexec hown hlink hsame hn hmethM hstM habM hno hdk hnid hps hsuper hsub (a := b) (cell := cellB) hcell
    (fun z h => by rw [h] at hobj; cases hobj) hkB (g := g) hg (argsL := argsL) (rest := rest) (hlen _ hsigM) hstack hdg
  obtain ⟨v, B, X', hpost, hsteps⟩ := hK m meth c ⟨T.setVm vm₁, locs, cells, slots⟩ { g with stack := rest } (.invokespecial index) mk (Value.ref b :: argsL).toArray X₁ hg hsize hdg hW (X₁.named hnamed) (hpre vm₁ X₁.warmed)
  exact ⟨v, vm₁, B, X₁.warmed, X', hpost, fun target h => hstep₁ _ (by rw [doInvoke_state]; exact hsteps.trans h)⟩
end
def mh_cSX (own : String) (ix : Nat) (x : MethodName) (owner : String) (b : ByteArray) (mL : Nat) (ret : Option FieldType) (np : Nat) : Prop := mh_ok [.methodLink own ix x, .sameMethod x.cls owner x.name x.desc, .superclass own x.cls, .superclass x.cls owner, .instanceMethod ⟨owner, x.name, x.desc⟩, .initialized owner, .code ⟨owner, x.name, x.desc⟩ b mL ret] ∧ (parseMethodDescriptor x.desc).map (fun d => d.parameters.length) = some np ∧ mL ≤ 40 ∧ x.name ≠ "<init>"
theorem mh_ok7 {a b c d e f g : Cond} (h1 : a ∈ mh_WT) (h2 : b ∈ mh_WT) (h3 : c ∈ mh_WT) (h4 : d ∈ mh_WT) (h5 : e ∈ mh_WT) (h6 : f ∈ mh_WT) (h7 : g ∈ mh_WT) : mh_ok [a, b, c, d, e, f, g] := by
  intro w hw
  simp only [List.mem_cons, List.not_mem_nil, or_false] at hw
  rcases hw with rfl | rfl | rfl | rfl | rfl | rfl | rfl <;> assumption
section
variable {g : mh_G} {f : mh_F} {own : String} {cc : ByteArray} {nL d n cl sl pc : Nat} {loc : List (Option Value)} {st : List Value} {h : Nat → Int → Int} {ret : Option FieldType} {post : Option Value → (Nat → Int → Int) → Prop}
theorem mh_callSX (F : mh_Fr g f own cc nL d) (hd1 : 1 ≤ d) {mc ms ix a ci np mL : Nat} {x : MethodName} {owner : String} {b : ByteArray} {As st0 : List Value} (hM : mh_M g (d - 1) ⟨owner, x.name, x.desc⟩ b mL ret n mc ms (.ref a :: As) h post) (hw : mh_cSX own ix x owner b mL ret np) (hd : decode cc pc = .ok (.invokespecial ix, 3)) (hs : mh_sh a = .inl ci) (ha : a < n) (hn : As.length = np) (h0 : st0 = As.reverse ++ .ref a :: st) (h8 : (st.map fun v => v.category).sum ≤ 8) (hc : cl + mc ≤ (mh_R f).cells ∧ sl + ms ≤ (mh_R f).slots)
    (k : ∀ (r : Option Value) (h' : Nat → Int → Int), post r h' → mh_V g f nL (n + mc) (cl + mc) (sl + ms) (pc + 3) loc (r.toList ++ st) h') : mh_V g f nL n cl sl pc loc st0 h := by
  refine mh_run (a := (Value.ref (mh_b g + a) :: As.map (mh_tr g)).toArray) (fun H locs ls h1 h3 => ?_) k
  have hpre := mh_preV (As := As) F hs ha h1
  have hok : ∀ w ∈ [Cond.methodLink own ix x, .sameMethod x.cls owner x.name x.desc, .superclass own x.cls, .superclass x.cls owner, .instanceMethod ⟨owner, x.name, x.desc⟩, .initialized owner, .code ⟨owner, x.name, x.desc⟩ b mL ret], w.before (mh_g f) (mh_s f) = true := fun w hw2 => F.wt w (hw.1 w hw2)
  have hrd := mh_roomd (mc := mc) (ms := ms) F hd1 hw.2.2.1
  have hC := F.kk.1.1 ci _ (mh_cl (mh_sh_ci hs))
  have hpay := pay_in F.wt (mh_gin (mh_okT (hw.1 (.code ⟨owner, x.name, x.desc⟩ b mL ret) (by simp))))
  have hK : Back (mh_l g) (mh_R f) (mh_p f) (mh_e f) (mh_w f) (mh_s f) (mh_g f) ⟨owner, x.name, x.desc⟩ 3 8 (PreOf (mh_R f) mc ms (mh_Pc g (.ref a :: As) n h)) (PostOf (mh_Qc g (n + mc) post) mc ms (fun q => mh_b g ≤ q)) := back_of (bytes := b) (maxL := mL) (ret := ret) hM hpre.1 rfl rfl hrd.1 hrd.2 hpay List.mem_cons_self (fun a' U hW => word_at hW (Or.inl (by first | rfl | simp [Cond.onTables, Cond.keeps, Cond.steady])) (hok _ (by simp)))
  obtain ⟨hx, hb, hml, ho, -⟩ := mh_fix F
  obtain ⟨-, ⟨cellB, hcB, hoB, hclB⟩, hPc⟩ := hpre
  obtain ⟨hfc, kB, hkB, -⟩ := hC.2
  have hcls := Option.some.inj (hfc.symm.trans hclB)
  intro T hT X
  obtain ⟨v, vm₁, ⟨U', l2, c2, s2⟩, hW₁, X', ⟨g', mk, t, L, e1, e2, hq, h1', hL, h2, h3'⟩, stp⟩ := cx_callSX X hx (own := own) (index := ix) (x := x) (owner := owner) (bytes := b) (maxL := mL) (ret := ret) ho (hok _ (by simp)) (hok _ (by simp)) (hok _ (by simp)) (hok _ (by simp)) (hok _ (by simp)) (hok _ (by simp)) hw.2.2.2 hK (by rw [hT]; exact hcB) hoB (by rw [← hcls]; exact hkB) (g := F0 (mh_m f) pc ls (st0.map (mh_tr g))) rfl (h3.1.trans hml.symm) (argsL := As.map (mh_tr g)) (rest := st.map (mh_tr g)) (fun sig hq => by
      have h9 := hw.2.1
      rw [hq] at h9
      rw [List.length_map, hn]
      exact (Option.some.inj h9).symm) (by rw [h0, List.map_append, List.map_cons, List.map_reverse]; show _ = _ ++ Value.ref _ :: _; rw [← mh_ad_lt h1 ha]; rfl) (mh_cat8 h8) (by rw [hb]; exact hd)
    (fun vm₁ hW₁ => ⟨hc.1, hc.2, hPc (T.setVm vm₁) hT hW₁⟩)
  dsimp only [Pt.U, Pt.locs, Pt.cells, Pt.slots] at X' e1 e2 h1' h2 h3' stp
  subst h1'; subst h2; subst h3'
  exact ⟨v, (T.setVm vm₁).calling g' mk (Value.ref (mh_b g + a) :: As.map (mh_tr g)).toArray, t, U', L, hT, X', hL, e1, e2, hq, stp⟩
def mh_cSY (own : String) (ix : Nat) (y : MethodName) (b : ByteArray) (mL : Nat) (ret : Option FieldType) (np : Nat) : Prop := ∃ x : MethodName, y = ⟨y.cls, x.name, x.desc⟩ ∧ mh_cSX own ix x y.cls b mL ret np
theorem mh_callSX0 (F : mh_Fr g f own cc nL d) (hd1 : 1 ≤ d) {ix a ci np mL : Nat} {y : MethodName} {b : ByteArray} {As st0 : List Value} (hM : mh_M g (d - 1) y b mL ret n 0 0 (.ref a :: As) h post) (hw : mh_cSY own ix y b mL ret np) (hd : decode cc pc = .ok (.invokespecial ix, 3)) (hs : mh_sh a = .inl ci) (ha : a < n) (hn : As.length = np) (h0 : st0 = As.reverse ++ .ref a :: st) (h8 : (st.map fun v => v.category).sum ≤ 8) (hc : cl ≤ (mh_R f).cells ∧ sl ≤ (mh_R f).slots)
    (k : ∀ (r : Option Value) (h' : Nat → Int → Int), post r h' → mh_V g f nL n cl sl (pc + 3) loc (r.toList ++ st) h') : mh_V g f nL n cl sl pc loc st0 h := by
  obtain ⟨x, e, hx⟩ := hw
  rw [e] at hM
  exact mh_callSX F hd1 hM hx hd hs ha hn h0 h8 hc k
theorem mh_callSXp (F : mh_Fr g f own cc nL d) (hd1 : 1 ≤ d) {ix a ci np mL : Nat} {y : MethodName} {b : ByteArray} {As st0 : List Value} {v : Option Value} (hM : mh_MP g (d - 1) y b mL ret n (.ref a :: As) h v) (hw : mh_cSY own ix y b mL ret np) (hd : decode cc pc = .ok (.invokespecial ix, 3)) (hs : mh_sh a = .inl ci) (ha : a < n) (hn : As.length = np) (h0 : st0 = As.reverse ++ .ref a :: st) (h8 : (st.map fun v => v.category).sum ≤ 8) (hc : cl ≤ (mh_R f).cells ∧ sl ≤ (mh_R f).slots)
    (k : mh_V g f nL n cl sl (pc + 3) loc (v.toList ++ st) h) : mh_V g f nL n cl sl pc loc st0 h := mh_callSX0 F hd1 hM hw hd hs ha hn h0 h8 hc (fun r h' hp => by obtain ⟨rfl, rfl⟩ := hp; exact k)
end

theorem wx_RX5_7 : mh_cSY RX5 7 yX3_warms cX3_warms 3 (some .int) 2 := ⟨⟨"MilkHills$Creamed", "warms", "(II)I"⟩, rfl, mh_ok7 tw_4_2 tw_4_3 tw_1_90 tw_1_66 tw_3_227 tw_1_2 tw_4_11, by decide +kernel, by decide, by decide⟩
theorem wx_RX7_7 : mh_cSY RX7 7 yX3_jolts cX3_jolts 3 (some .int) 2 := ⟨⟨"MilkHills$Goats", "jolts", "(II)I"⟩, rfl, mh_ok7 tw_4_34 tw_4_35 tw_1_74 tw_1_50 tw_4_19 tw_1_2 tw_4_39, by decide +kernel, by decide, by decide⟩
theorem wx_RX8_16 : mh_cSY RX8 16 yX3_turns cX3_turns 2 (some .int) 1 := ⟨⟨"MilkHills$Lidded", "turns", "(I)I"⟩, rfl, mh_ok7 tw_3_127 tw_3_128 tw_1_82 tw_1_58 tw_3_111 tw_1_2 tw_3_130, by decide +kernel, by decide, by decide⟩
theorem wx_RX8_26 : mh_cSY RX8 26 yX3_tells cX3_tells 5 (some .int) 3 := ⟨⟨"MilkHills$Lidded", "tells", "(LMilkHills$Churn;[II)I"⟩, rfl, mh_ok7 tw_5_31 tw_5_32 tw_1_82 tw_1_58 tw_5_12 tw_1_2 tw_5_34, by decide +kernel, by decide, by decide⟩
theorem wx_RX5_39 : mh_cSY RX5 39 yX3_tells cX3_tells 5 (some .int) 3 := ⟨⟨"MilkHills$Creamed", "tells", "(LMilkHills$Churn;[II)I"⟩, rfl, mh_ok7 tw_5_22 tw_5_23 tw_1_90 tw_1_66 tw_5_12 tw_1_2 tw_5_34, by decide +kernel, by decide, by decide⟩
