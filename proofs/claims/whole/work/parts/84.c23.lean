/-! a static call that finds its method further up -/
section
/-- told or untold, the look-up of such a static method comes out alike -/
theorem cx_askS {Q : Unit → Pre} {E : CtlPost} {e : Env} {dd : Bool} {acts : List Action} {U s : State} {fr : JFrame} {ix ci nt cn : Nat} {mk : MethodId} {dk ck : Class} {file : ClassFile} {nm ds : String} (hp : e.platform.polymorphicOnlyByInvokevirtual = true) (ht : U.topJava?.isSome) (hW : s.WarmedH U.vm) (hE : s.MethodEntryUp e U.vm fr.method.cls ix cn mk ci)
    (hd : s.vm.classes[fr.method.cls]? = some dk) (hf : dk.cf = some file) (h3 : file.constantPool[ix]? = some (.methodref ci nt)) (h4 : file.constantPool.nameAndType? nt = some (nm, ds)) (hc : s.vm.classes[cn]? = some ck) (hpoly : ck.methods.any (fun x => x.name == nm && !x.isStatic && signaturePolymorphic ck x) = false) :
    wp (Op.invokestatic.sem ix) Q E e dd acts (U.setTop fr) ↔ wp (Op.invokestatic.sem ix) Q E e dd acts ((U.setVm (U.vm.calledUp fr.method.cls ci ix cn mk)).setTop fr) := by
  have tm : ∀ V : Vm, (U.setVm V).topJava?.isSome := fun _ => ht
  have ask : ∀ {V : Vm}, s.WarmedH V → ((memberRef fr.method.cls ix).ask e.toSetting V).1 = .ok (ci, nm, ds, false) := fun {V} hV => by
    obtain ⟨q, hq, hr⟩ := hV.alike.2.2 _ _ hd
    exact memberRef_ask_via (e := e) hq (by rw [hr]; exact hf) (show file.constantPool[ix]? = some (if false then .interfaceMethodref ci nt else .methodref ci nt) from h3) h4
  have cls : ∀ {V : Vm}, s.WarmedH V → ∃ q, V.classes[cn]? = some q ∧ q.methods.any (fun x => x.name == nm && !x.isStatic && signaturePolymorphic q x) = false := fun {V} hV => by
    obtain ⟨q, hq, hr⟩ := hV.alike.2.2 _ _ hc
    exact ⟨q, hq, by rw [hr]; exact hpoly⟩
  obtain ⟨g1, -, W1, g2⟩ := hE.classFirst
  obtain ⟨q1, c1, p1⟩ := cls W1
  obtain ⟨q2, c2, p2⟩ := cls hE.warmed
  have a0 := ask hW
  have a2 := ask hE.warmed
  have r1 : ∀ {Q' : ClassId → Pre} {d' : Bool} {a' : List Action}, wp (Jvm.resolveClassAt ci) Q' E e d' a' (U.setTop fr) ↔ Q' cn d' a' ((U.setVm (U.vm.noted fr.method.cls ci (.cls cn))).setTop fr) := W.resolveClassAt_links (t := U.setTop fr) (State.method?_setTop fr ht) g1
  have r2 : ∀ {Q' : MethodId → Pre} {d' : Bool} {a' : List Action}, wp (Jvm.resolveMethodAt ix) Q' E e d' a' ((U.setVm (U.vm.noted fr.method.cls ci (.cls cn))).setTop fr) ↔ Q' mk d' a' ((U.setVm (U.vm.calledUp fr.method.cls ci ix cn mk)).setTop fr) := W.resolveMethodAt_links (t := (U.setVm (U.vm.noted fr.method.cls ci (.cls cn))).setTop fr) (State.method?_setTop fr (tm _)) g2
  simp [Op.invokestatic.sem, hp, Seam.memberRefOf, State.method?_setTop fr ht, State.method?_setTop fr (tm (U.vm.calledUp fr.method.cls ci ix cn mk)), a0, a2, r1, r2, c1, c2, p1, p2,
    W.resolveClassAt_ready (s := (U.setVm (U.vm.calledUp fr.method.cls ci ix cn mk)).setTop fr) (State.method?_setTop fr (tm _)) hE.classReady,
    W.resolveMethodAt_ready (s := (U.setVm (U.vm.calledUp fr.method.cls ci ix cn mk)).setTop fr) (State.method?_setTop fr (tm _)) hE.ready, -Array.any_eq_true]
variable {p : Program} {l : Launch} {e : Env} {R : Room} {s : State} {m : MethodId} {args : Array Value} {below : List Frame} {meth : Method} {c : Code}
theorem cx_callT {T : State} {locs : List Loc} {cells slots : Nat} (X : Stand p l e R s m args below meth c T locs cells slots) (hexec : p.tables.exec = Jvm.exec) {own owner : String} {index : Nat} {x : MethodName} {bytes : ByteArray} {maxL : Nat} {ret : Option FieldType}
    (hown : s.vm.findClass own = some m.cls) (hlink : (Cond.methodLink own index x).before args s = true) (hsame : (Cond.sameMethod x.cls owner x.name x.desc).before args s = true)
    (hstat : (Cond.static ⟨owner, x.name, x.desc⟩).before args s = true) (hini : (Cond.initialized owner).before args s = true) (hcode : (Cond.code ⟨owner, x.name, x.desc⟩ bytes maxL ret).before args s = true) (hno : owner ≠ "java/lang/invoke/MethodHandle" ∧ owner ≠ "java/lang/invoke/VarHandle")
    {W : Nat} {Pre : Pt → Array Value → Prop} {Post : Pt → Array Value → Option Value → Pt → Prop} (hK : Back l R p e below s args ⟨owner, x.name, x.desc⟩ 3 W Pre Post)
    {g : JFrame} (hg : g.method = m) (hsize : g.locals.size = c.maxLocals) {argsL rest : List Value} (hlen : ∀ sig, parseMethodDescriptor x.desc = some sig → argsL.length = sig.parameters.length)
    (hstack : g.stack = argsL.reverse ++ rest) (hW : 2 * g.monitorRoom + (rest.map fun v => v.category).sum ≤ W) (hdg : decode c.code g.pc = .ok (.invokestatic index, 3))
    (hpre : ∀ vm₁, s.WarmedH vm₁ → Pre ⟨T.setVm vm₁, locs, cells, slots⟩ argsL.toArray) :
    ∃ (v : Option Value) (vm₁ : Vm) (B : Pt), s.WarmedH vm₁ ∧ Stand p l e R s m args below meth c B.U B.locs B.cells B.slots ∧ Post ⟨T.setVm vm₁, locs, cells, slots⟩ argsL.toArray v B ∧
      ∀ target, Steps p.tables e below (B.U.setTop { g with pc := g.pc + 3, stack := v.toList ++ rest }) target → Steps p.tables e below (T.setTop g) target := by
  obtain ⟨cn, ck, mk, hcn, hck, hni, hfound, hnamed⟩ := Cond.sameMethod_found hsame
  obtain ⟨methM, cM, hmethM, -, -, -, -, -, hsigM⟩ := Cond.code_spec hnamed hcode
  have hst : methM.isStatic = true := Cond.static_spec hnamed hmethM hstat
  obtain ⟨kM, hkM, hnM⟩ := className_of_methodNamed hnamed
  have hinM : kM.init = .initialized := Cond.initialized_spec (findClass_of_methodNamed hnamed) hkM hini
  obtain ⟨ci, hl, hr⟩ := Cond.methodLink_specUp hown hcn hck hni hfound hlink e.platform (by rw [X.admits.platform]) (by rw [X.admits.platform])
  have hE := State.methodEntryUp (e := e) (vm₀ := T.vm) X.warmed hl hr
  obtain ⟨dk, file, nt, nm, ds, ck2, _, _, hdk, hfile, h3, h4, -, -, hck2, -, hpoly, -⟩ := hl.here
  cases hck.symm.trans hck2
  have hpoly : ck.methods.any (fun x => x.name == nm && !x.isStatic && signaturePolymorphic ck x) = false := by simp [hpoly]
  have al := hE.warmed.alike
  obtain ⟨d1, hd1, ed1⟩ := al.2.2 _ _ hdk
  obtain ⟨k1, hk1, ek1⟩ := al.2.2 _ _ hkM
  obtain ⟨c1, hc1, ec1⟩ := al.2.2 _ _ hck
  have X₁ := X.noted hE.warmed
  obtain ⟨v, B, X', hpost, hsteps⟩ := hK m meth c ⟨T.setVm (T.vm.calledUp m.cls ci index cn mk), locs, cells, slots⟩ { g with stack := rest } (.invokestatic index) mk argsL.toArray X₁ hg hsize hdg hW (X₁.named hnamed) (hpre _ X₁.warmed)
  refine ⟨v, _, B, X₁.warmed, X', hpost, fun target h => ?_⟩
  subst hg
  have hplain : Op.plainRef (T.setVm (T.vm.calledUp g.method.cls ci index cn mk)) e g.method.cls index := ⟨ci, nm, ds, false, cn, c1, memberRef_ask_via (e := e) hd1 (by rw [ed1]; exact hfile) (show file.constantPool[index]? = some (if false then .interfaceMethodref ci nt else .methodref ci nt) from h3) h4, hE.classReady, hc1, by rw [ec1]; exact hpoly⟩
  jvm_step X.here [hexec, hdg, cx_askS (e := e) (U := T) (s := s) (fr := g) (by rw [X.admits.platform]) X.here.top X.warmed hE hdk hfile h3 h4 hck hpoly,
    Op.invokestatic.wp_ready (e := e) (s := T.setVm (T.vm.calledUp g.method.cls ci index cn mk)) (f := g) (k := k1) (meth := methM) (m := mk) (args := argsL) (rest := rest) X.here.top hplain hE.ready hk1
      (by show (T.vm.calledUp g.method.cls ci index cn mk).method? mk = some methM; rw [al.method?]; exact hmethM) (by rw [ek1]; show signaturePolymorphic kM methM = false; simp [signaturePolymorphic, hnM, hno.1, hno.2]) hst (by rw [ek1]; exact hinM) (hlen _ hsigM.2) hstack]
  intro acts
  rw [doInvoke_state]
  exact hsteps.trans h
end
def mh_cT (own : String) (ix : Nat) (x : MethodName) (owner : String) (b : ByteArray) (mL : Nat) (ret : Option FieldType) (np : Nat) : Prop := mh_ok [.methodLink own ix x, .sameMethod x.cls owner x.name x.desc, .static ⟨owner, x.name, x.desc⟩, .initialized owner, .code ⟨owner, x.name, x.desc⟩ b mL ret] ∧ (parseMethodDescriptor x.desc).map (fun d => d.parameters.length) = some np ∧ mL ≤ 40 ∧ (owner ≠ "java/lang/invoke/MethodHandle" ∧ owner ≠ "java/lang/invoke/VarHandle")
section
variable {g : mh_G} {f : mh_F} {own : String} {cc : ByteArray} {nL d n cl sl pc : Nat} {loc : List (Option Value)} {st : List Value} {h : Nat → Int → Int} {ret : Option FieldType} {post : Option Value → (Nat → Int → Int) → Prop}
theorem mh_callT (F : mh_Fr g f own cc nL d) (hd1 : 1 ≤ d) {mc ms ix np mL : Nat} {x : MethodName} {owner : String} {b : ByteArray} {As st0 : List Value} (hM : mh_M g (d - 1) ⟨owner, x.name, x.desc⟩ b mL ret n mc ms As h post) (hw : mh_cT own ix x owner b mL ret np) (hd : decode cc pc = .ok (.invokestatic ix, 3)) (hn : As.length = np) (h0 : st0 = As.reverse ++ st) (h8 : (st.map fun v => v.category).sum ≤ 8) (hc : cl + mc ≤ (mh_R f).cells ∧ sl + ms ≤ (mh_R f).slots)
    (k : ∀ (r : Option Value) (h' : Nat → Int → Int), post r h' → mh_V g f nL (n + mc) (cl + mc) (sl + ms) (pc + 3) loc (r.toList ++ st) h') : mh_V g f nL n cl sl pc loc st0 h := by
  refine mh_run (a := (As.map (mh_tr g)).toArray) (fun H locs ls h1 h3 => ?_) k
  have hpre := mh_preS F h1 As
  have hok : ∀ w ∈ [Cond.methodLink own ix x, .sameMethod x.cls owner x.name x.desc, .static ⟨owner, x.name, x.desc⟩, .initialized owner, .code ⟨owner, x.name, x.desc⟩ b mL ret], w.before (mh_g f) (mh_s f) = true := fun w hw2 => F.wt w (hw.1 w hw2)
  have hrd := mh_roomd (mc := mc) (ms := ms) F hd1 hw.2.2.1
  have hpay := pay_in F.wt (mh_gin (mh_okT (hw.1 (.code ⟨owner, x.name, x.desc⟩ b mL ret) (by simp))))
  have hK : Back (mh_l g) (mh_R f) (mh_p f) (mh_e f) (mh_w f) (mh_s f) (mh_g f) ⟨owner, x.name, x.desc⟩ 3 8 (PreOf (mh_R f) mc ms (mh_Pc g As n h)) (PostOf (mh_Qc g (n + mc) post) mc ms (fun q => mh_b g ≤ q)) := back_of (bytes := b) (maxL := mL) (ret := ret) hM hpre.1 rfl rfl hrd.1 hrd.2 hpay List.mem_cons_self (fun a' U hW => word_at hW (Or.inl (by first | rfl | simp [Cond.onTables, Cond.keeps, Cond.steady])) (hok _ (by simp)))
  obtain ⟨hx, hb, hml, ho, -⟩ := mh_fix F
  obtain ⟨-, hPc⟩ := hpre
  intro T hT X
  obtain ⟨v, vm₁, ⟨U', l2, c2, s2⟩, hW₁, X', ⟨g', mk, t, L, e1, e2, hq, h1', hL, h2, h3'⟩, stp⟩ := cx_callT X hx (own := own) (index := ix) (x := x) (owner := owner) (bytes := b) (maxL := mL) (ret := ret) ho (hok _ (by simp)) (hok _ (by simp)) (hok _ (by simp)) (hok _ (by simp)) (hok _ (by simp)) hw.2.2.2 hK (g := F0 (mh_m f) pc ls (st0.map (mh_tr g))) rfl (h3.1.trans hml.symm) (argsL := As.map (mh_tr g)) (rest := st.map (mh_tr g)) (fun sig hq => by
      have h9 := hw.2.1
      rw [hq] at h9
      rw [List.length_map, hn]
      exact (Option.some.inj h9).symm) (by rw [h0, List.map_append, List.map_reverse]) (mh_cat8 h8) (by rw [hb]; exact hd)
    (fun vm₁ hW₁ => ⟨hc.1, hc.2, hPc (T.setVm vm₁) hT hW₁⟩)
  dsimp only [Pt.U, Pt.locs, Pt.cells, Pt.slots] at X' e1 e2 h1' h2 h3' stp
  subst h1'; subst h2; subst h3'
  exact ⟨v, (T.setVm vm₁).calling g' mk (As.map (mh_tr g)).toArray, t, U', L, hT, X', hL, e1, e2, hq, stp⟩
def mh_cTY (own : String) (ix : Nat) (y : MethodName) (b : ByteArray) (mL : Nat) (ret : Option FieldType) (np : Nat) : Prop := ∃ x : MethodName, y = ⟨y.cls, x.name, x.desc⟩ ∧ mh_cT own ix x y.cls b mL ret np
theorem mh_callT0 (F : mh_Fr g f own cc nL d) (hd1 : 1 ≤ d) {ix np mL : Nat} {y : MethodName} {b : ByteArray} {As st0 : List Value} (hM : mh_M g (d - 1) y b mL ret n 0 0 As h post) (hw : mh_cTY own ix y b mL ret np) (hd : decode cc pc = .ok (.invokestatic ix, 3)) (hn : As.length = np) (h0 : st0 = As.reverse ++ st) (h8 : (st.map fun v => v.category).sum ≤ 8) (hc : cl ≤ (mh_R f).cells ∧ sl ≤ (mh_R f).slots)
    (k : ∀ (r : Option Value) (h' : Nat → Int → Int), post r h' → mh_V g f nL n cl sl (pc + 3) loc (r.toList ++ st) h') : mh_V g f nL n cl sl pc loc st0 h := by
  obtain ⟨x, e, hx⟩ := hw
  rw [e] at hM
  exact mh_callT F hd1 hM hx hd hn h0 h8 hc k
end

theorem wt_RX1_7 : mh_cTY RX1 7 yX3_begin cX3_begin 2 none 2 := ⟨⟨"MilkHills$Creamed", "begin", "([II)V"⟩, rfl, mh_ok5 tw_4_225 tw_4_226 tw_4_199 tw_1_2 tw_4_200, by decide +kernel, by decide, by decide⟩
theorem wt_RX2_11 : mh_cTY RX2 11 yX3_begin cX3_begin 2 none 2 := ⟨⟨"MilkHills$Goats", "begin", "([II)V"⟩, rfl, mh_ok5 tw_4_215 tw_4_216 tw_4_199 tw_1_2 tw_4_200, by decide +kernel, by decide, by decide⟩
theorem wt_RX4_11 : mh_cTY RX4 11 yX3_begin cX3_begin 2 none 2 := ⟨⟨"MilkHills$Lidded", "begin", "([II)V"⟩, rfl, mh_ok5 tw_4_197 tw_4_198 tw_4_199 tw_1_2 tw_4_200, by decide +kernel, by decide, by decide⟩
theorem wt_RX5_14 : mh_cTY RX5 14 yX3_begin cX3_begin 2 none 2 := ⟨⟨"MilkHills$Old", "begin", "([II)V"⟩, rfl, mh_ok5 tw_4_233 tw_4_234 tw_4_199 tw_1_2 tw_4_200, by decide +kernel, by decide, by decide⟩
theorem wt_RX7_20 : mh_cTY RX7 20 yX3_begin cX3_begin 2 none 2 := ⟨⟨"MilkHills$Running", "begin", "([II)V"⟩, rfl, mh_ok5 tw_5_4 tw_5_5 tw_4_199 tw_1_2 tw_4_200, by decide +kernel, by decide, by decide⟩
theorem wt_RX8_20 : mh_cTY RX8 20 yX3_begin cX3_begin 2 none 2 := ⟨⟨"MilkHills$Sealed", "begin", "([II)V"⟩, rfl, mh_ok5 tw_5_29 tw_5_30 tw_4_199 tw_1_2 tw_4_200, by decide +kernel, by decide, by decide⟩
