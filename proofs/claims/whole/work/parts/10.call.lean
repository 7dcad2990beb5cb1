/-! contracts and calls -/
theorem mh_good {w : Cond} (h : w ∈ mh_WT) : (w.onTables && w.keeps) = true ∨ ∃ ty, w = .arrayClass ty := good_of_word (List.mem_filter.mp h).2
def mh_ok (l : List Cond) : Prop := ∀ w ∈ l, w ∈ mh_WT
theorem mh_gin {ws : List Cond} (h : mh_ok ws) : GoodIn mh_WT ws := fun w hw => ⟨h w hw, mh_good (h w hw)⟩
theorem mh_okT {c : Cond} (h : c ∈ mh_WT) : mh_ok (c :: mh_WT) := fun w hw => (List.mem_cons.mp hw).elim (fun e => by rw [e]; exact h) (fun q => q)
def mh_Pc (g : mh_G) (av : List Value) (n : Nat) (h : Nat → Int → Int) : Array Value → State → Prop := fun v U => v = (av.map (mh_tr g)).toArray ∧ mh_Wd g n h U.heap ∧ mh_K g U
def mh_Qc (g : mh_G) (N : Nat) (post : Option Value → (Nat → Int → Int) → Prop) : Array Value → State → Outcome → State → Prop := fun _ _ oc t => ∃ (r : Option Value) (h' : Nat → Int → Int), oc = .returned (r.map (mh_tr g)) ∧ post r h' ∧ mh_Wd g N h' t.heap
def mh_rm (d mc ms : Nat) : Room := { frames := d, cells := mc, slots := ms, locals := 64 * d }
/-- THE CONTRACT: called on these args in this world of n cells, y returns; answer and world are as post says; mc cells of ms slots are new; depth d -/
def mh_M (g : mh_G) (d : Nat) (y : MethodName) (cc : ByteArray) (nL : Nat) (ret : Option FieldType) (n mc ms : Nat) (av : List Value) (h : Nat → Int → Int) (post : Option Value → (Nat → Int → Int) → Prop) : Prop :=
  Met (mh_l g) y (.code y cc nL ret :: mh_WT) (mh_rm d mc ms) (mh_Pc g av n h) (mh_Qc g (n + mc) post) mc ms (fun q => mh_b g ≤ q)
def mh_Rt (g : mh_G) (f : mh_F) (N C S : Nat) (ret : Option FieldType) (post : Option Value → (Nat → Int → Int) → Prop) : Prop :=
  (mh_h f).sig.returnType = ret ∧ mh_q f = MQ (mh_w f) (mh_Qc g N post) (mh_g f) (mh_s f) C S (fun q => mh_b g ≤ q)
def mh_al : List Value → List (Option Value)
  | [] => []
  | v :: r => if v.category = 2 then some v :: none :: mh_al r else some v :: mh_al r
theorem mh_lo_rep (g : mh_G) : ∀ (k i : Nat), mh_lo g i (List.replicate k none) = [] := by
  intro k
  induction k with
  | zero => intro i; rfl
  | succ k ih => intro i; rw [List.replicate_succ]; exact ih (i + 1)
theorem mh_lo_al (g : mh_G) (k : Nat) : ∀ (av : List Value) (i : Nat), mh_lo g i (mh_al av ++ List.replicate k none) = lv_args i (av.map (mh_tr g)) := by
  intro av
  induction av with
  | nil => intro i; simp only [mh_al, List.nil_append, List.map_nil, lv_args]; exact mh_lo_rep g k i
  | cons v r ih =>
    intro i
    by_cases c : v.category = 2
    · simp only [mh_al, if_pos c, List.cons_append, mh_lo, List.map_cons, lv_args, mh_trc]
      rw [ih]
    · simp only [mh_al, if_neg c, List.cons_append, mh_lo, List.map_cons, lv_args, mh_trc]
      rw [ih]
theorem mh_al_len (g : mh_G) : ∀ av : List Value, (lg_sl (av.map (mh_tr g))).length = (mh_al av).length := by
  intro av
  induction av with
  | nil => rfl
  | cons v r ih =>
    by_cases c : v.category = 2
    · simp only [mh_al, if_pos c, List.map_cons, lg_sl, List.flatMap_cons, mh_trc, List.length_append, List.length_cons]
      simp only [lg_sl] at ih
      rw [ih]; simp only [List.length_nil]; omega
    · simp only [mh_al, if_neg c, List.map_cons, lg_sl, List.flatMap_cons, mh_trc, List.length_append, List.length_cons]
      simp only [lg_sl] at ih
      rw [ih]; simp only [List.length_nil]; omega
theorem mh_blind (g : mh_G) (av : List Value) (n : Nat) (h : Nat → Int → Int) : FrameBlind (mh_Pc g av n h) := by
  intro a U gg mk q
  exact ⟨q.1, q.2.1, ⟨va_K.moved (u := U) (U := U.calling gg mk a) (Vm.Alike.refl U.vm) q.2.2.1, fun w hw => mh_NW_same (s := U) (U := U.calling gg mk a) rfl (List.mem_filter.mp hw).2 (q.2.2.2.1 w hw), va_AO.moved (u := U) (U := U.calling gg mk a) (Vm.Alike.refl U.vm) q.2.2.2.2.1, va_AO.moved (u := U) (U := U.calling gg mk a) (Vm.Alike.refl U.vm) q.2.2.2.2.2.1, mh_SK.same (s := U) (U := U.calling gg mk a) rfl (Vm.Alike.refl U.vm) q.2.2.2.2.2.2⟩⟩
/-- a body from its entry gives the contract -/
theorem mh_M_of {g : mh_G} {d : Nat} {y : MethodName} {cc : ByteArray} {nL : Nat} {ret : Option FieldType} {n mc ms : Nat} {av : List Value} {h : Nat → Int → Int} {post : Option Value → (Nat → Int → Int) → Prop} (own : String) (hown : y.cls = own) (hy : plainName y.cls = true) (loc : List (Option Value)) (hl : mh_al av ++ List.replicate (nL - (mh_al av).length) none = loc) (hn : (mh_al av).length ≤ nL)
    (body : ∀ f : mh_F, mh_Fr g f own cc nL d → mh_Rt g f (n + mc) mc ms ret post → (mh_h f).name = y.name → (mh_R f).cells = mc ∧ (mh_R f).slots = ms → mh_V g f nL n 0 0 0 loc [] h) : mh_M g d y cc nL ret n mc ms av h post := by
  unfold mh_M
  refine Met.ofW (cc := cc) (maxL := nL) (ret := ret) hy rfl ?_
  intro p e s m args below meth c s₁ B hml hv
  obtain ⟨rfl, hW, hK⟩ := hv
  have hts := atoms_spec (ws := .code y cc nL ret :: mh_WT) B.pre
  have hown2 : s.vm.findClass y.cls = some m.cls := findClass_of_methodNamed B.named
  have hnm : meth.name = y.name := (name_of_methodNamed B.named B.method).1
  rw [hown] at hown2
  have hsz : mh_b g ≤ s.heap.size := by rw [hW.2.1]; exact Nat.le_add_right _ _
  have hlen : (lg_sl (av.map (mh_tr g))).length ≤ nL := by rw [mh_al_len]; exact hn
  have hl2 := lv_entry (av.map (mh_tr g)) (n := nL) hlen
  rw [lg_entry_eq]
  refine body (p, e, mh_rm d mc ms, s, m, _, below, meth, c, _) ⟨B.exec, B.bytes, hml, hown2, fun w hw => hts w (List.mem_cons_of_mem _ hw), hK, B.notSynchronized, hsz, Nat.le_refl _, Nat.le_refl _⟩ ⟨B.returns, rfl⟩ hnm ⟨rfl, rfl⟩ s.heap [] _ hW va_S.rf ?_
  rw [← hl, mh_lo_al]
  exact hl2
/-- .. of a JDK's own method -/
theorem mh_M_ofJ {g : mh_G} {d : Nat} {y : MethodName} {cc : ByteArray} {nL : Nat} {ret : Option FieldType} {n mc ms : Nat} {av : List Value} {h : Nat → Int → Int} {post : Option Value → (Nat → Int → Int) → Prop} (own : String) (hown : y.cls = own) (hy : plainFor y = true) (loc : List (Option Value)) (hl : mh_al av ++ List.replicate (nL - (mh_al av).length) none = loc) (hn : (mh_al av).length ≤ nL)
    (body : ∀ f : mh_F, mh_Fr g f own cc nL d → mh_Rt g f (n + mc) mc ms ret post → (mh_h f).name = y.name → (mh_R f).cells = mc ∧ (mh_R f).slots = ms → mh_V g f nL n 0 0 0 loc [] h) : mh_M g d y cc nL ret n mc ms av h post := by
  unfold mh_M
  refine va_MetF (cc := cc) (maxL := nL) (ret := ret) hy rfl ?_
  intro p e s m args below meth c s₁ B hml hv
  obtain ⟨rfl, hW, hK⟩ := hv
  have hts := atoms_spec (ws := .code y cc nL ret :: mh_WT) B.pre
  have hown2 : s.vm.findClass y.cls = some m.cls := findClass_of_methodNamed B.named
  have hnm : meth.name = y.name := (name_of_methodNamed B.named B.method).1
  rw [hown] at hown2
  have hsz : mh_b g ≤ s.heap.size := by rw [hW.2.1]; exact Nat.le_add_right _ _
  have hlen : (lg_sl (av.map (mh_tr g))).length ≤ nL := by rw [mh_al_len]; exact hn
  have hl2 := lv_entry (av.map (mh_tr g)) (n := nL) hlen
  rw [lg_entry_eq]
  refine body (p, e, mh_rm d mc ms, s, m, _, below, meth, c, _) ⟨B.exec, B.bytes, hml, hown2, fun w hw => hts w (List.mem_cons_of_mem _ hw), hK, B.notSynchronized, hsz, Nat.le_refl _, Nat.le_refl _⟩ ⟨B.returns, rfl⟩ hnm ⟨rfl, rfl⟩ s.heap [] _ hW va_S.rf ?_
  rw [← hl, mh_lo_al]
  exact hl2
section
variable {g : mh_G} {f : mh_F} {own : String} {cc : ByteArray} {nL d n cl sl pc : Nat} {loc : List (Option Value)} {st : List Value} {h : Nat → Int → Int} {ret : Option FieldType} {post : Option Value → (Nat → Int → Int) → Prop}
/-- returns -/
theorem mh_ireturn (F : mh_Fr g f own cc nL d) (Z : mh_Rt g f n cl sl (some .int) post) (hd : decode cc pc = .ok (.ireturn, 1)) {x : Int} (hp : post (some (.int (Int32.ofInt x))) h) : mh_V g f nL n cl sl pc loc [.int (Int32.ofInt x)] h := by
  intro H locs ls h1 h2 h3
  rw [Z.2]
  exact W.iret F.exec F.code Z.1 (fun t ht _ => ⟨some (.int (Int32.ofInt x)), h, rfl, hp, by rw [ht]; exact h1⟩) h2.2.2 hd F.locks
theorem mh_zreturn (F : mh_Fr g f own cc nL d) (Z : mh_Rt g f n cl sl (some .boolean) post) (hd : decode cc pc = .ok (.ireturn, 1)) {x : Int} (hx : x = 0 ∨ x = 1) (hp : post (some (.int (Int32.ofInt x))) h) : mh_V g f nL n cl sl pc loc [.int (Int32.ofInt x)] h := by
  intro H locs ls h1 h2 h3
  rw [Z.2]
  exact W.zret F.exec F.code Z.1 (by rcases hx with rfl | rfl <;> rfl) (fun t ht _ => ⟨some (.int (Int32.ofInt x)), h, rfl, hp, by rw [ht]; exact h1⟩) h2.2.2 hd F.locks
theorem mh_lreturn (F : mh_Fr g f own cc nL d) (Z : mh_Rt g f n cl sl (some .long) post) (hd : decode cc pc = .ok (.lreturn, 1)) {x : Int} (hp : post (some (.long (Int64.ofInt x))) h) : mh_V g f nL n cl sl pc loc [.long (Int64.ofInt x)] h := by
  intro H locs ls h1 h2 h3
  rw [Z.2]
  exact W.lret F.exec F.code Z.1 (fun t ht _ => ⟨some (.long (Int64.ofInt x)), h, rfl, hp, by rw [ht]; exact h1⟩) h2.2.2 hd F.locks
theorem mh_areturn {ty : FieldType} (F : mh_Fr g f own cc nL d) (Z : mh_Rt g f n cl sl (some ty) post) (hd : decode cc pc = .ok (.areturn, 1)) (hty : (∃ n, ty = .object n) ∨ ∃ t, ty = .array t) {b : Nat} (hp : post (some (.ref b)) h) : mh_V g f nL n cl sl pc loc [.ref b] h := by
  intro H locs ls h1 h2 h3
  rw [Z.2]
  exact W.aret F.exec F.code Z.1 hty (Or.inr ⟨_, rfl⟩) (fun t ht _ => ⟨some (.ref b), h, rfl, hp, by rw [ht]; exact h1⟩) h2.2.2 hd F.locks
theorem mh_return (F : mh_Fr g f own cc nL d) (Z : mh_Rt g f n cl sl none post) (hd : decode cc pc = .ok (.return_, 1)) (hp : post none h) : mh_V g f nL n cl sl pc loc [] h := by
  intro H locs ls h1 h2 h3
  rw [Z.2]
  exact W.vret F.exec F.code Z.1 (fun t ht _ => ⟨none, h, rfl, hp, by rw [ht]; exact h1⟩) h2.2.2 hd F.locks
/-- a call, from its run -/
theorem mh_run {mc ms : Nat} {st0 : List Value} {a : Array Value} (hr : ∀ (H : Heap) (locs : List Loc) (ls : Array Slot), mh_Wd g n h H → lv_has ls nL (mh_lo g 0 loc) → va_Run (mh_p f) (mh_l g) (mh_e f) (mh_R f) (mh_s f) (mh_m f) (mh_g f) (mh_w f) (mh_h f) (mh_c f) H locs cl sl mc ms (F0 (mh_m f) pc ls (st0.map (mh_tr g))) (st.map (mh_tr g)) (mh_Qc g (n + mc) post a) (fun q => mh_b g ≤ q))
    (k : ∀ (r : Option Value) (h' : Nat → Int → Int), post r h' → mh_V g f nL (n + mc) (cl + mc) (sl + ms) (pc + 3) loc (r.toList ++ st) h') : mh_V g f nL n cl sl pc loc st0 h := by
  intro H locs ls h1 h2 h3 T hT X
  obtain ⟨v, st₀, t, T', L, h0, X', hL, e1, e2, ⟨r, h', hv, hp, hw⟩, hst⟩ := hr H locs ls h1 h3 T hT X
  have hv2 : v = r.map (mh_tr g) := by injection hv
  have hw2 : mh_Wd g (n + mc) h' T'.heap := by rw [e1]; exact hw
  have hS2 : va_S (fun q => mh_b g ≤ q) (mh_s f).heap T'.heap (locs ++ L) := by
    refine ⟨?_, ?_, ?_⟩
    · have e4 := h2.1
      rw [h1.2.1] at e4
      rw [hw2.2.1]; omega
    · intro q q1 q2
      rw [hw2.2.2.1 q (by omega), ← h1.2.2.1 q (by omega)]
      exact h2.2.1 q q1 q2
    · intro q hq
      rcases List.mem_append.mp hq with c | c
      · exact h2.2.2 q c
      · exact hL q c
  obtain ⟨t2, a1, b1⟩ := k r h' hp T'.heap (locs ++ L) ls hw2 hS2 h3 T' rfl X'
  refine ⟨t2, hst t2 ?_, b1⟩
  have e3 : v.toList ++ st.map (mh_tr g) = (r.toList ++ st).map (mh_tr g) := by
    rw [hv2]; cases r <;> simp
  rw [e3]
  exact a1
def mh_np (y : MethodName) (np : Nat) : Prop := y.cls ≠ "java/lang/invoke/MethodHandle" ∧ y.cls ≠ "java/lang/invoke/VarHandle" ∧ (parseMethodDescriptor y.desc).map (fun d => d.parameters.length) = some np
def mh_cV (own : String) (ix : Nat) (y : MethodName) (b : ByteArray) (mL : Nat) (ret : Option FieldType) (np : Nat) : Prop := mh_ok [.methodLink own ix y, .instanceMethod y, .selects y.cls y y, .initialized y.cls, .code y b mL ret] ∧ mh_np y np ∧ mL ≤ 40
def mh_cS (own : String) (ix : Nat) (y : MethodName) (b : ByteArray) (mL : Nat) (ret : Option FieldType) (np : Nat) : Prop := mh_ok [.methodLink own ix y, .static y, .initialized y.cls, .code y b mL ret] ∧ mh_np y np ∧ mL ≤ 40
def mh_cI (own : String) (ix : Nat) (y : MethodName) (b : ByteArray) (mL : Nat) (np : Nat) : Prop := mh_ok [.methodLink own ix y, .instanceMethod y, .initialized y.cls, .code y b mL none] ∧ mh_np y np ∧ mL ≤ 40 ∧ y.name = "<init>"
def mh_cSU (own : String) (ix : Nat) (y : MethodName) (b : ByteArray) (mL : Nat) (ret : Option FieldType) (np : Nat) : Prop := mh_ok [.methodLink own ix y, .sameMethod y.cls y.cls y.name y.desc, .superclass own y.cls, .instanceMethod y, .initialized y.cls, .code y b mL ret] ∧ mh_np y np ∧ mL ≤ 40 ∧ y.name ≠ "<init>"
/-- a virtual call of x of owner, on class C, that comes to y -/
def mh_cU (own : String) (ix : Nat) (C owner : String) (x y : MethodName) (b : ByteArray) (mL : Nat) (ret : Option FieldType) (np : Nat) (b0 : ByteArray) (m0 : Nat) (r0 : Option FieldType) : Prop := mh_ok [.methodLink own ix x, .sameMethod x.cls owner x.name x.desc, .instanceMethod ⟨owner, x.name, x.desc⟩, .selects C x y, .instanceMethod y, .initialized y.cls, .code y b mL ret, .code ⟨owner, x.name, x.desc⟩ b0 m0 r0] ∧ (owner ≠ "java/lang/invoke/MethodHandle" ∧ owner ≠ "java/lang/invoke/VarHandle" ∧ (parseMethodDescriptor x.desc).map (fun d => d.parameters.length) = some np) ∧ mL ≤ 40
theorem mh_fix (F : mh_Fr g f own cc nL d) : CallFix (mh_p f) (mh_m f) (mh_c f) cc nL (mh_s f) (mh_g f) mh_WT own := ⟨F.exec, F.code, F.maxL, F.own, F.wt⟩
theorem mh_roomd {mc ms mL : Nat} (F : mh_Fr g f own cc nL d) (hd : 1 ≤ d) (hm : mL ≤ 40) : (mh_rm (d - 1) mc ms).frames + 1 ≤ (mh_R f).frames ∧ 8 + (mL + 11) + (mh_rm (d - 1) mc ms).locals ≤ (mh_R f).locals := by
  obtain ⟨a, b⟩ := F.room
  constructor
  · show d - 1 + 1 ≤ _; omega
  · show 8 + (mL + 11) + 64 * (d - 1) ≤ _; omega
theorem mh_cat8 {ls : Array Slot} {st0 : List Value} (h8 : (st.map fun v => v.category).sum ≤ 8) : 2 * (F0 (mh_m f) pc ls st0).monitorRoom + ((st.map (mh_tr g)).map fun v => v.category).sum ≤ 8 := by
  have e : (st.map (mh_tr g)).map (fun v => v.category) = st.map (fun v => v.category) := by
    rw [List.map_map]; exact List.map_congr_left (fun v _ => mh_trc g v)
  rw [e]
  show 2 * 0 + _ ≤ 8
  omega
theorem mh_preS (F : mh_Fr g f own cc nL d) {H : Heap} (h1 : mh_Wd g n h H) (av : List Value) : PreS (mh_s f) H (mh_Pc g av n h) (av.map (mh_tr g)) :=
  ⟨mh_blind g av n h, fun U hU hW => ⟨rfl, by rw [hU]; exact h1, mh_K.warm hW F.kk⟩⟩
theorem mh_preV (F : mh_Fr g f own cc nL d) {H : Heap} {a ci : Nat} {As : List Value} (hs : mh_sh a = .inl ci) (ha : a < n) (h1 : mh_Wd g n h H) : PreV (mh_s f) H (mh_C ci) (mh_b g + a) (mh_Pc g (.ref a :: As) n h) (As.map (mh_tr g)) := by
  refine ⟨mh_blind g _ n h, ?_, fun U hU hW => ⟨?_, by rw [hU]; exact h1, mh_K.warm hW F.kk⟩⟩
  · obtain ⟨cell, q1, q2, q3, q4⟩ := mh_at_obj hs h1 ha
    exact ⟨cell, q1, by rw [q3]; rfl, by rw [q2]; exact (F.kk.1.1 ci _ (mh_cl (mh_sh_ci hs))).2.1⟩
  · show (Value.ref (mh_b g + a) :: _).toArray = (Value.ref (mh_ad g a) :: _).toArray
    rw [mh_ad_lt h1 ha]
theorem mh_callV (F : mh_Fr g f own cc nL d) (hd1 : 1 ≤ d) {mc ms ix a ci np mL : Nat} {y : MethodName} {b : ByteArray} {As st0 : List Value} (hM : mh_M g (d - 1) y b mL ret n mc ms (.ref a :: As) h post) (hw : mh_cV own ix y b mL ret np) (hd : decode cc pc = .ok (.invokevirtual ix, 3)) (hs : mh_sh a = .inl ci) (hC : mh_C ci = y.cls) (ha : a < n) (hn : As.length = np) (h0 : st0 = As.reverse ++ .ref a :: st) (h8 : (st.map fun v => v.category).sum ≤ 8) (hc : cl + mc ≤ (mh_R f).cells ∧ sl + ms ≤ (mh_R f).slots)
    (k : ∀ (r : Option Value) (h' : Nat → Int → Int), post r h' → mh_V g f nL (n + mc) (cl + mc) (sl + ms) (pc + 3) loc (r.toList ++ st) h') : mh_V g f nL n cl sl pc loc st0 h := by
  refine mh_run (a := (Value.ref (mh_b g + a) :: As.map (mh_tr g)).toArray) (fun H locs ls h1 h3 => ?_) k
  have hpre := mh_preV (As := As) F hs ha h1
  rw [hC] at hpre
  exact va_runV (mh_fix F) hM (cwV np F.wt (mh_gin (fun w hw2 => by
    rcases List.mem_append.mp hw2 with q | q
    · exact hw.1 w (by simp only [List.mem_cons, List.not_mem_nil, or_false] at q ⊢; rcases q with q | q | q | q <;> simp [q])
    · exact mh_okT (hw.1 _ (by simp)) w q)) rfl rfl rfl ⟨rfl, hw.2.1⟩ (mh_roomd F hd1 hw.2.2)) hpre rfl (by rw [List.length_map]; exact hn) h3.1 (by rw [h0, List.map_append, List.map_cons, List.map_reverse]; show _ = _ ++ Value.ref _ :: _; rw [← mh_ad_lt h1 ha]; rfl) (mh_cat8 h8) hd hc
theorem mh_callS (F : mh_Fr g f own cc nL d) (hd1 : 1 ≤ d) {mc ms ix np mL : Nat} {y : MethodName} {b : ByteArray} {As st0 : List Value} (hM : mh_M g (d - 1) y b mL ret n mc ms As h post) (hw : mh_cS own ix y b mL ret np) (hd : decode cc pc = .ok (.invokestatic ix, 3)) (hn : As.length = np) (h0 : st0 = As.reverse ++ st) (h8 : (st.map fun v => v.category).sum ≤ 8) (hc : cl + mc ≤ (mh_R f).cells ∧ sl + ms ≤ (mh_R f).slots)
    (k : ∀ (r : Option Value) (h' : Nat → Int → Int), post r h' → mh_V g f nL (n + mc) (cl + mc) (sl + ms) (pc + 3) loc (r.toList ++ st) h') : mh_V g f nL n cl sl pc loc st0 h := by
  refine mh_run (a := (As.map (mh_tr g)).toArray) (fun H locs ls h1 h3 => ?_) k
  exact va_runS (mh_fix F) hM (va_cwS np F.wt (mh_gin (fun w hw2 => by
    rcases List.mem_append.mp hw2 with q | q
    · exact hw.1 w (by simp only [List.mem_cons, List.not_mem_nil, or_false] at q ⊢; rcases q with q | q | q <;> simp [q])
    · exact mh_okT (hw.1 _ (by simp)) w q)) rfl rfl rfl hw.2.1 (mh_roomd F hd1 hw.2.2)) (mh_preS F h1 As) rfl (by rw [List.length_map]; exact hn) h3.1 (by rw [h0, List.map_append, List.map_reverse]) (mh_cat8 h8) hd hc
theorem mh_callI (F : mh_Fr g f own cc nL d) (hd1 : 1 ≤ d) {mc ms ix a np mL : Nat} {y : MethodName} {b : ByteArray} {As st0 : List Value} (hM : mh_M g (d - 1) y b mL none n mc ms (.ref a :: As) h post) (hw : mh_cI own ix y b mL np) (hd : decode cc pc = .ok (.invokespecial ix, 3)) (hn : As.length = np) (h0 : st0 = As.reverse ++ .ref a :: st) (h8 : (st.map fun v => v.category).sum ≤ 8) (hc : cl + mc ≤ (mh_R f).cells ∧ sl + ms ≤ (mh_R f).slots)
    (k : ∀ (r : Option Value) (h' : Nat → Int → Int), post r h' → mh_V g f nL (n + mc) (cl + mc) (sl + ms) (pc + 3) loc (r.toList ++ st) h') : mh_V g f nL n cl sl pc loc st0 h := by
  refine mh_run (a := (Value.ref (mh_ad g a) :: As.map (mh_tr g)).toArray) (fun H locs ls h1 h3 => ?_) k
  exact va_runI (mh_fix F) hM (cwI np F.wt (mh_gin (mh_okT (hw.1 _ (by simp)))) rfl rfl rfl (F.wt _ (hw.1 _ (by simp))) (F.wt _ (hw.1 _ (by simp))) (F.wt _ (hw.1 _ (by simp))) hw.2.2.2 hw.2.1 (mh_roomd F hd1 hw.2.2.1)) (mh_preS F h1 (.ref a :: As)) rfl (by rw [List.length_map]; exact hn) h3.1 (by rw [h0, List.map_append, List.map_cons, List.map_reverse]; rfl) (mh_cat8 h8) hd hc
theorem mh_callSU (F : mh_Fr g f own cc nL d) (hd1 : 1 ≤ d) {mc ms ix a ci np mL : Nat} {y : MethodName} {b : ByteArray} {As st0 : List Value} (hM : mh_M g (d - 1) y b mL ret n mc ms (.ref a :: As) h post) (hw : mh_cSU own ix y b mL ret np) (hd : decode cc pc = .ok (.invokespecial ix, 3)) (hs : mh_sh a = .inl ci) (ha : a < n) (hn : As.length = np) (h0 : st0 = As.reverse ++ .ref a :: st) (h8 : (st.map fun v => v.category).sum ≤ 8) (hc : cl + mc ≤ (mh_R f).cells ∧ sl + ms ≤ (mh_R f).slots)
    (k : ∀ (r : Option Value) (h' : Nat → Int → Int), post r h' → mh_V g f nL (n + mc) (cl + mc) (sl + ms) (pc + 3) loc (r.toList ++ st) h') : mh_V g f nL n cl sl pc loc st0 h := by
  refine mh_run (a := (Value.ref (mh_b g + a) :: As.map (mh_tr g)).toArray) (fun H locs ls h1 h3 => ?_) k
  have hpre := mh_preV (As := As) F hs ha h1
  exact va_runSU (F.kk.1.1 ci _ (mh_cl (mh_sh_ci hs))).2 (mh_fix F) hM (va_cwSU np F.wt (mh_gin (fun w hw2 => by
    rcases List.mem_append.mp hw2 with q | q
    · exact hw.1 w (by simp only [List.mem_cons, List.not_mem_nil, or_false] at q ⊢; rcases q with q | q | q | q | q <;> simp [q])
    · exact mh_okT (hw.1 _ (by simp)) w q)) rfl rfl rfl ⟨hw.2.2.2, hw.2.1.2.2⟩ (mh_roomd F hd1 hw.2.2.1)) hpre rfl (by rw [List.length_map]; exact hn) h3.1 (by rw [h0, List.map_append, List.map_cons, List.map_reverse]; show _ = _ ++ Value.ref _ :: _; rw [← mh_ad_lt h1 ha]; rfl) (mh_cat8 h8) hd hc
theorem mh_callU (F : mh_Fr g f own cc nL d) (hd1 : 1 ≤ d) {mc ms ix a ci np mL m0 : Nat} {x y : MethodName} {owner : String} {b b0 : ByteArray} {r0 : Option FieldType} {As st0 : List Value} (hM : mh_M g (d - 1) y b mL ret n mc ms (.ref a :: As) h post) (hw : mh_cU own ix (mh_C ci) owner x y b mL ret np b0 m0 r0) (hd : decode cc pc = .ok (.invokevirtual ix, 3)) (hs : mh_sh a = .inl ci) (ha : a < n) (hn : As.length = np) (h0 : st0 = As.reverse ++ .ref a :: st) (h8 : (st.map fun v => v.category).sum ≤ 8) (hc : cl + mc ≤ (mh_R f).cells ∧ sl + ms ≤ (mh_R f).slots)
    (k : ∀ (r : Option Value) (h' : Nat → Int → Int), post r h' → mh_V g f nL (n + mc) (cl + mc) (sl + ms) (pc + 3) loc (r.toList ++ st) h') : mh_V g f nL n cl sl pc loc st0 h := by
  refine mh_run (a := (Value.ref (mh_b g + a) :: As.map (mh_tr g)).toArray) (fun H locs ls h1 h3 => ?_) k
  have hpre := mh_preV (As := As) F hs ha h1
  exact va_runU (mh_fix F) hM (va_cwO np F.wt (mh_gin (fun w hw2 => by
    rcases List.mem_append.mp hw2 with q | q
    · exact hw.1 w (by simp only [List.mem_cons, List.not_mem_nil, or_false] at q ⊢; rcases q with q | q | q | q | q | q <;> simp [q])
    · exact mh_okT (hw.1 _ (by simp)) w q)) rfl rfl rfl (hw.1 (.code ⟨owner, x.name, x.desc⟩ b0 m0 r0) (by simp)) hw.2.1 (mh_roomd F hd1 hw.2.2)) hpre rfl (by rw [List.length_map]; exact hn) h3.1 (by rw [h0, List.map_append, List.map_cons, List.map_reverse]; show _ = _ ++ Value.ref _ :: _; rw [← mh_ad_lt h1 ha]; rfl) (mh_cat8 h8) hd hc
end
