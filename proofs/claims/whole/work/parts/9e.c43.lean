/-! rows of rows: four of forty ints each -/
def mr_c (cA : ClassId) (q i : Nat) : Cell := arrV cA 4 (fun j => if j < i then .ref (q + (j + 1)) else .null)
def mr_i (cC : ClassId) : Cell := arrV cC 40 (fun _ => .int 0)
theorem mr_c_set (cA : ClassId) (q i : Nat) : (mr_c cA q i).setSlot i (.ref (q + (i + 1))) = mr_c cA q (i + 1) := by
  unfold mr_c
  rw [arrV_store]
  congr 1
  funext j
  unfold updV
  by_cases z : j = i
  · rw [if_pos z, if_pos (by omega), z]
  · rw [if_neg z]
    show (if j < i then Value.ref (q + (j + 1)) else Value.null) = _
    by_cases y : j < i
    · rw [if_pos y, if_pos (by omega)]
    · rw [if_neg y, if_neg (by omega)]
def mr_t (s : State) (cA cC : ClassId) : Nat → State
  | 0 => s.pushCell (mr_c cA s.heap.size 0)
  | i + 1 => ((mr_t s cA cC i).pushCell (mr_i cC)).setCell s.heap.size (mr_c cA s.heap.size (i + 1))
theorem mr_t_ok (s : State) (cA cC : ClassId) (i : Nat) : (mr_t s cA cC i).heap.size = s.heap.size + 1 + i ∧ (mr_t s cA cC i).heap[s.heap.size]? = some (mr_c cA s.heap.size i) ∧ (mr_t s cA cC i).vm = s.vm ∧ (mr_t s cA cC i).slotsUsed = s.slotsUsed + 4 + i * 40 ∧
    (∀ a, a < s.heap.size → (mr_t s cA cC i).heap[a]? = s.heap[a]?) ∧ ∀ j, j < i → (mr_t s cA cC i).heap[s.heap.size + 1 + j]? = some (mr_i cC) := by
  induction i with
  | zero => exact ⟨by simp [mr_t], by simp [mr_t], rfl, by simp [mr_t, mr_c, arrV_size], fun a ha => State.heap_pushCell_of_lt _ _ ha, fun j hj => absurd hj (Nat.not_lt_zero _)⟩
  | succ i ih =>
    obtain ⟨a1, a2, a3, a4, a5, a6⟩ := ih
    have hlt : s.heap.size < (mr_t s cA cC i).heap.size := by omega
    have hb : ((mr_t s cA cC i).pushCell (mr_i cC)).heap[s.heap.size]? = some (mr_c cA s.heap.size i) := by rw [State.heap_pushCell_of_lt (h := hlt)]; exact a2
    refine ⟨?_, State.heap_setCell_self hb, by simp [mr_t, a3], ?_, fun a ha => ?_, fun j hj => ?_⟩
    · simp [mr_t, State.setCell, a1]; omega
    · simp [mr_t, a4, mr_i, arrV_size, Nat.succ_mul]; omega
    · show (((mr_t s cA cC i).pushCell (mr_i cC)).setCell s.heap.size _).heap[a]? = _
      have hla : a < (mr_t s cA cC i).heap.size := by rw [a1]; omega
      rw [State.heap_setCell_other (Nat.ne_of_gt ha), State.heap_pushCell_of_lt (h := hla)]
      exact a5 a ha
    · show (((mr_t s cA cC i).pushCell (mr_i cC)).setCell s.heap.size _).heap[s.heap.size + 1 + j]? = _
      rw [State.heap_setCell_other (show s.heap.size ≠ s.heap.size + 1 + j by omega)]
      by_cases z : j < i
      · have hla : s.heap.size + 1 + j < (mr_t s cA cC i).heap.size := by rw [a1]; omega
        rw [State.heap_pushCell_of_lt (h := hla)]
        exact a6 j z
      · have e : j = i := by omega
        subst e
        rw [← a1]
        exact State.heap_pushCell_size _ _
theorem mr_t_top (s : State) (fr : JFrame) (cA cC : ClassId) (i : Nat) : mr_t (s.setTop fr) cA cC i = (mr_t s cA cC i).setTop fr := by
  induction i with
  | zero => rfl
  | succ i ih => simp only [mr_t, ih, State.heap_setTop, State.pushCell_setTop, State.setCell_setTop]
theorem mr_40 : (40 : Int32).toNatClampNeg = 40 := by decide +kernel
theorem mr_4 : (4 : Int32).toNatClampNeg = 4 := by decide +kernel
section
variable {E : CtlPost} {e : Env} {d : Bool} {acts : List Action} {s : State}
theorem mr_make1 {cC cc : ClassId} {kC : Class} (hk : s.vm.classes[cC]? = some kC) (hkind : kC.kind = .array cc .int) (hl : ¬ 40 > e.platform.arrayLengthLimit) (hh : ¬ 40 * componentBytes .int > e.platform.maxHeapBytes) (h1 : s.heap.size < e.platform.maxCells) (h2 : s.slotsUsed + 40 ≤ e.platform.maxSlots)
    {Q : Addr → Pre} (hq : ∀ acts', Q s.heap.size d acts' (s.pushCell (mr_i cC))) : wp (multianewarray.make cC [(40 : Int32)]) Q E e d acts s := by
  rw [multianewarray.make]
  simp only [wp_bind', W.ite, show ¬ (40 : Int32) < 0 from by decide, if_false, wp_pure', W.theClass, hk, hkind, Option.some.injEq, exists_eq_left']
  rw [mr_40]
  refine W.newArray_of hk hkind hl hh h1 h2 rfl (fun acts' => ?_)
  have := hq acts'
  unfold mr_i at this
  rw [← arrV_new] at this
  exact this
theorem mr_make2 {cA cC cc : ClassId} {kA kC : Class} (hkA : s.vm.classes[cA]? = some kA) (hkindA : kA.kind = .array cC (.array .int)) (hkC : s.vm.classes[cC]? = some kC) (hkindC : kC.kind = .array cc .int)
    (hl : ¬ 40 > e.platform.arrayLengthLimit) (hh : ¬ 160 > e.platform.maxHeapBytes) (hc : s.heap.size + 5 ≤ e.platform.maxCells) (hs : s.slotsUsed + 164 ≤ e.platform.maxSlots)
    {Q : Addr → Pre} (hq : ∀ d' acts', Q s.heap.size d' acts' (mr_t s cA cC 4)) : wp (multianewarray.make cA [(4 : Int32), (40 : Int32)]) Q E e d acts s := by
  have hfind : ([(40 : Int32)].find? (· < 0)) = none := by decide
  rw [multianewarray.make]
  simp only [wp_bind', W.ite, show ¬ (4 : Int32) < 0 from by decide, if_false, wp_pure', W.theClass, hkA, hkindA, Option.some.injEq, exists_eq_left']
  rw [mr_4]
  refine W.newArray_of hkA hkindA (by omega) (by show ¬ 4 * 4 > _; omega) (by omega) (by omega) rfl (fun acts1 => ?_)
  simp only [hfind]
  rw [ite_self, wp_bind', Std.Legacy.Range.forIn_eq_forIn_range']
  have hsz : ([:4] : Std.Legacy.Range).size = 4 := by simp [Std.Legacy.Range.size]
  rw [hsz]
  show wp (forIn (List.range' 0 4 1) PUnit.unit _) _ E e d acts1 _
  refine wp_forIn_inv (fun rest s' => ∃ i, i ≤ 4 ∧ rest = List.range' i (4 - i) ∧ s' = mr_t s cA cC i) _ _ ⟨0, Nat.zero_le _, rfl, ?_⟩ ?_ ?_
  · show s.pushCell _ = s.pushCell (mr_c cA s.heap.size 0)
    unfold mr_c
    rw [show (fun j : Nat => if j < 0 then Value.ref (s.heap.size + (j + 1)) else Value.null) = fun _ => Value.null from by funext j; rw [if_neg (by omega)], ← arrV_new]
  · rintro x rest s' d' acts' Q' ⟨i, hi, hlr, rfl⟩ hnext
    have hlt : i < 4 := by
      rcases Nat.lt_or_ge i 4 with z | z
      · exact z
      · rw [show 4 - i = 0 by omega] at hlr; cases hlr
    obtain ⟨rfl, hrest⟩ : x = i ∧ rest = List.range' (i + 1) (4 - (i + 1)) := by
      rw [show 4 - i = (4 - (i + 1)) + 1 by omega, List.range'_succ] at hlr
      exact ⟨(List.cons.inj hlr).1, (List.cons.inj hlr).2⟩
    obtain ⟨f1, f2, f3, f4, f5, f6⟩ := mr_t_ok s cA cC x
    simp only [wp_bind']
    refine mr_make1 (by rw [f3]; exact hkC) hkindC hl (by show ¬ 40 * 4 > _; omega) (by rw [f1]; omega) (by rw [f4]; omega) (fun acts2 => ?_)
    simp only [wp_bind', W.writeLoc, wp_pure']
    have hla : s.heap.size < (mr_t s cA cC x).heap.size := by rw [f1]; omega
    refine ⟨mr_c cA s.heap.size x, by rw [State.heap_pushCell_of_lt (h := hla)]; exact f2, by simp [mr_c, arrV], by show x < (arrV _ _ _).slots.size; rw [arrV_size]; exact hlt, ?_, hnext _ _ _ ⟨x + 1, hlt, hrest, ?_⟩⟩
    · show State.fitsSlot _ cA .none x _ = true
      simp [State.fitsSlot, State.slotType?, f3, hkA, hkindA, fits]
    · rw [f1, show s.heap.size + 1 + x = s.heap.size + (x + 1) by omega, mr_c_set]; rfl
  · rintro s' d' acts' ⟨i, hi, hlr, rfl⟩
    have hi4 : i = 4 := by
      rcases Nat.lt_or_ge i 4 with z | z
      · rw [show 4 - i = (4 - (i + 1)) + 1 by omega, List.range'_succ] at hlr; cases hlr
      · omega
    subst hi4
    simp only [wp_pure']
    exact hq _ _
end

theorem mr_ext {c : ClassId} {N : Nat} {f1 f2 : Nat → Value} (h : ∀ j, j < N → f1 j = f2 j) : arrV c N f1 = arrV c N f2 := by
  unfold arrV
  have e : (fun j : Fin N => f1 j.val) = fun j : Fin N => f2 j.val := by funext j; exact h j.val j.isLt
  rw [e]
/-- the classes of rows of rows, and of what stands in them -/
def mh_AA (g : mh_G) (U : State) : Prop := ∃ kA, U.vm.classes[mh_ct g 5]? = some kA ∧ kA.kind = .array (mh_ct g 0) (.array .int)
theorem mh_AA.moved {g : mh_G} {u U : State} (hvm : u.vm.Alike U.vm) (h : mh_AA g u) : mh_AA g U := by
  obtain ⟨kA, h1, h2⟩ := h
  obtain ⟨k', hk', he⟩ := hvm.2.2 _ _ h1
  exact ⟨k', hk', by rw [he]; exact h2⟩
theorem mr_stand {p : Program} {l : Launch} {e : Env} {R : Room} {s : State} {m : MethodId} {args : Array Value} {below : List Frame} {meth : Method} {c : Code} {T : State} {locs : List Loc} {cells slots : Nat} (X : Stand p l e R s m args below meth c T locs cells slots) (cA cC : ClassId) (i : Nat) :
    Stand p l e R s m args below meth c (mr_t T cA cC i) (locs ++ (List.range i).map fun j => ⟨T.heap.size, j⟩) (cells + 1 + i) (slots + 4 + i * 40) := by
  induction i with
  | zero =>
    have h := X.pushed (mr_c cA T.heap.size 0)
    rw [show (mr_c cA T.heap.size 0).slots.size = 4 from arrV_size _ _ _] at h
    simpa [mr_t] using h
  | succ i ih =>
    obtain ⟨a1, a2, a3, a4, a5, a6⟩ := mr_t_ok T cA cC i
    have hla : T.heap.size < (mr_t T cA cC i).heap.size := by rw [a1]; omega
    have hb : ((mr_t T cA cC i).pushCell (mr_i cC)).heap[T.heap.size]? = some (mr_c cA T.heap.size i) := by rw [State.heap_pushCell_of_lt (h := hla)]; exact a2
    have h := (ih.pushed (mr_i cC)).stored hb i (.ref (T.heap.size + (i + 1)))
    rw [show (mr_i cC).slots.size = 40 from arrV_size _ _ _, mr_c_set] at h
    have e2 : (locs ++ (List.range (i + 1)).map fun j => (⟨T.heap.size, j⟩ : Loc)) = (locs ++ (List.range i).map fun j => (⟨T.heap.size, j⟩ : Loc)) ++ [⟨T.heap.size, i⟩] := by simp [List.range_succ, List.append_assoc]
    rw [e2, show slots + 4 + (i + 1) * 40 = slots + 4 + i * 40 + 40 by omega]
    exact h
def mh_mz (h : Nat → Int → Int) (n : Nat) : Nat → Int → Int := fun x j => if x = n then (if 0 ≤ j ∧ j < 4 then (n : Int) + 1 + j + 1 else 0) else if n < x ∧ x ≤ n + 4 then 0 else h x j
section
variable {g : mh_G} {f : mh_F} {own : String} {cc : ByteArray} {nL d n cl sl pc : Nat} {loc : List (Option Value)} {st : List Value} {h : Nat → Int → Int}
theorem mh_multi (F : mh_Fr g f own cc nL d) {ix n1 cl1 sl1 : Nat} (hs0 : mh_sh n = .inr (5, 4)) (hs : ∀ j, j < 4 → mh_sh (n + 1 + j) = .inr (0, 40)) (hn : n + 5 ≤ 1000) (w : Cond.classLink own ix "[[I" ∈ mh_WT) (hAA : mh_AA g (mh_s f)) (e : n + 5 = n1 ∧ cl + 5 = cl1 ∧ sl + 164 = sl1) (hc : cl1 ≤ (mh_R f).cells ∧ sl1 ≤ (mh_R f).slots) (hd : decode cc pc = .ok (.multianewarray ix 2, 4)) (k : mh_V g f nL n1 cl1 sl1 (pc + 4) loc (.ref n :: st) (mh_mz h n)) : mh_V g f nL n cl sl pc loc (.int (Int32.ofInt 40) :: .int (Int32.ofInt 4) :: st) h := by
  obtain ⟨rfl, rfl, rfl⟩ := e
  intro H locs ls h1 h2 h3 T hT X
  have hsz : T.heap.size = mh_b g + n := by rw [hT]; exact h1.2.1
  have hexec := F.exec
  have hpl : (mh_e f).platform.magicAccessors = ({} : Platform).magicAccessors := by rw [X.admits.platform]
  obtain ⟨kA, hkA, hkindA⟩ := hAA
  have hK5 : (mh_s f).vm.findClass ("[" ++ (FieldType.array .int).toString) = some (mh_ct g 5) := (F.kk.1.2 5 _ (mh_tyk (by decide))).2
  obtain ⟨-, kC, hkC, cc0, hkindC⟩ := (F.kk.1.2 0 _ (mh_tyk (by decide))).1 40 (fun _ => .int 0)
  change (mh_s f).vm.classes[mh_ct g 0]? = some kC at hkC
  obtain ⟨c0, hfc0, hcl⟩ := Cond.classLink_spec F.own (F.wt _ w) (mh_e f).platform hpl
  cases hfc0.symm.trans hK5
  obtain ⟨hg₁, hwarm₁, hready₁⟩ := State.classEntry (e := mh_e f) X.warmed hcl
  generalize T.vm.noted (mh_m f).cls ix (.cls (mh_ct g 5)) = vm₁ at hg₁ hwarm₁ hready₁
  have hal := hwarm₁.alike
  obtain ⟨kA₁, hkA₁, heA⟩ := hal.2.2 _ _ hkA
  obtain ⟨kC₁, hkC₁, heC⟩ := hal.2.2 _ _ hkC
  have X₁ := X.noted hwarm₁
  obtain ⟨hr1, hr2⟩ := X.roomAbove hc.1 hc.2
  have XF := mr_stand X₁ (mh_ct g 5) (mh_ct g 0) 4
  obtain ⟨a1, a2, a3, a4, a5, a6⟩ := mr_t_ok (T.setVm vm₁) (mh_ct g 5) (mh_ct g 0) 4
  have esz : (T.setVm vm₁).heap.size = mh_b g + n := hsz
  have hWd : mh_Wd g (n + 5) (mh_mz h n) (mr_t (T.setVm vm₁) (mh_ct g 5) (mh_ct g 0) 4).heap := by
    refine ⟨fun b hb => ?_, by rw [a1, esz]; omega, fun q hq => by rw [a5 q (by rw [esz]; omega)]; show T.heap[q]? = _; rw [hT]; exact h1.2.2.1 q hq, hn⟩
    by_cases z : b < n
    · refine mh_at_of (by funext j; unfold mh_mz; rw [if_neg (by omega), if_neg (by omega)]) (h1.1 b z) ?_
      rw [a5 _ (by rw [esz]; omega)]
      show T.heap[_]? = _
      rw [hT]
    · by_cases y : b = n
      · subst y
        unfold mh_at
        rw [hs0]
        show _ = some (arrV (mh_ct g 5) 4 (fun j => mh_ev g 5 (mh_mz h b b (j : Int))))
        rw [← esz, a2]
        unfold mr_c
        refine congrArg some (mr_ext (fun j hj4 => ?_))
        rw [if_pos hj4]
        rw [show mh_mz h b b (j : Int) = ((b + 1 + j : Nat) : Int) + 1 from by unfold mh_mz; rw [if_pos rfl, if_pos ⟨by omega, by omega⟩]; omega]
        unfold mh_ev
        rw [if_neg (by decide), if_neg (by decide), mh_ro_pos]
        show _ = Value.ref (mh_ad g (b + 1 + j))
        rw [show mh_ad g (b + 1 + j) = mh_b g + (b + 1 + j) from if_pos (by omega), esz]
        exact congrArg Value.ref (show mh_b g + b + (j + 1) = mh_b g + (b + 1 + j) by omega)
      · obtain ⟨j, rfl⟩ : ∃ j, b = n + 1 + j := ⟨b - (n + 1), by omega⟩
        unfold mh_at
        rw [hs j (by omega)]
        show _ = some (arrV (mh_ct g 0) 40 (fun k => mh_ev g 0 (mh_mz h n (n + 1 + j) (k : Int))))
        have := a6 j (by omega)
        rw [esz, show mh_b g + n + 1 + j = mh_b g + (n + 1 + j) by omega] at this
        rw [this]
        unfold mr_i
        refine congrArg some (mr_ext (fun i hi1 => ?_))
        unfold mh_mz
        rw [if_neg (by omega), if_pos (by omega)]
        exact (mh_ev0 g 0).symm
  have hS : va_S (fun q => mh_b g ≤ q) (mh_s f).heap (mr_t (T.setVm vm₁) (mh_ct g 5) (mh_ct g 0) 4).heap (locs ++ (List.range 4).map fun j => ⟨(T.setVm vm₁).heap.size, j⟩) := by
    have hq0 := h2.1
    refine ⟨by rw [a1, esz]; have := h1.2.1; omega, fun q q1 q2 => ?_, fun q hq => ?_⟩
    · rw [a5 q (by rw [esz]; have := h1.2.1; omega)]
      show T.heap[q]? = _
      rw [hT]; exact h2.2.1 q q1 q2
    · rcases List.mem_append.mp hq with z | z
      · exact h2.2.2 q z
      · obtain ⟨j, -, rfl⟩ := List.mem_map.mp z
        show mh_b g ≤ (T.setVm vm₁).heap.size
        rw [esz]; omega
  have k3 := k _ _ ls hWd hS h3 _ rfl (by simpa using XF)
  obtain ⟨t, b1, b2⟩ := k3
  refine ⟨t, ?_, b2⟩
  have ea : mh_ad g n = T.heap.size := by rw [hsz]; exact if_pos (by omega)
  have hl1 : ¬ 40 > (mh_e f).platform.arrayLengthLimit := by rw [Launch.admits_arrayLengthLimit X.admits]; omega
  have hh1 : ¬ 160 > (mh_e f).platform.maxHeapBytes := by rw [Launch.admits_maxHeapBytes X.admits]; omega
  have hdg : decode (mh_c f).code pc = .ok (.multianewarray ix 2, 4) := by rw [F.code]; exact hd
  obtain ⟨G, eG⟩ : ∃ G : JFrame, G = F0 (mh_m f) pc ls ((Value.int (Int32.ofInt 40) :: .int (Int32.ofInt 4) :: st).map (mh_tr g)) := ⟨_, rfl⟩
  have hGm : G.method = mh_m f := by rw [eG]
  have hGs : G.stack = [.int (Int32.ofInt 4), .int (Int32.ofInt 40)].reverse ++ st.map (mh_tr g) := by rw [eG]; rfl
  have r1 : ∀ {E : CtlPost} {Q' : ClassId → Pre} {d' : Bool} {a' : List Action}, wp (Jvm.resolveClassAt ix) Q' E (mh_e f) d' a' (T.setTop G) ↔ Q' (mh_ct g 5) d' a' ((T.setVm vm₁).setTop G) := W.resolveClassAt_links (t := T.setTop G) (State.method?_setTop G X.here.top) (by rw [hGm]; exact hg₁)
  have hdG : decode (mh_c f).code G.pc = .ok (.multianewarray ix 2, 4) := by rw [eG]; exact hdg
  have XH := X.here
  rw [← hGm] at XH
  rw [← eG]
  jvm_step XH [hexec, hdG]
  simp only [multianewarray.sem, wp_bind', r1]
  rw [W.popN, if_neg (by decide)]
  refine ⟨G, State.topJava?_setTop' (s := T.setVm vm₁) G X.here.top, [.int (Int32.ofInt 4), .int (Int32.ofInt 40)], st.map (mh_tr g), rfl, hGs, ?_⟩
  simp only [List.mapM_cons, List.mapM_nil, wp_bind', wp_pure', State.setTop_setTop]
  rw [show Int32.ofInt 4 = 4 from rfl, show Int32.ofInt 40 = 40 from rfl]
  refine mr_make2 (kA := kA₁) (kC := kC₁) (cC := mh_ct g 0) (cc := cc0) hkA₁ (by rw [heA]; exact hkindA) hkC₁ (by rw [heC]; exact hkindC) hl1 hh1 (by show T.heap.size + 5 ≤ _; omega) (by show T.slotsUsed + 164 ≤ _; omega) (fun d' acts' => ?_)
  have XT := XF.here.top
  rw [mr_t_top]
  simp only [wp_bind', W.mark, W.pushRef, State.topJava?_setTop' _ XT, Option.some.injEq, exists_eq_left', State.setTop_setTop, State.heap_setTop]
  intro acts
  simp [jvm, XT]
  rw [show (List.map (mh_tr g) (.ref n :: st)) = .ref (mh_ad g n) :: st.map (mh_tr g) from rfl, ea] at b1
  rw [eG]
  exact b1
end
