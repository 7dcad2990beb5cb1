/-! making: objects and arrays come at the world's end -/
def mh_zr (h : Nat → Int → Int) (n : Nat) : Nat → Int → Int := fun x j => if x = n then 0 else h x j
theorem mh_zr_row {h : Nat → Int → Int} {n x : Nat} (q : x ≠ n) : mh_zr h n x = h x := by
  funext j; unfold mh_zr; rw [if_neg q]
theorem mh_zr_rs {h : Nat → Int → Int} {n : Nat} : mh_zr h n n = fun _ => 0 := by
  funext j; unfold mh_zr; rw [if_pos rfl]
theorem mh_at_of {g : mh_G} {h h2 : Nat → Int → Int} {b : Nat} {H H1 : Heap} (e : h2 b = h b) (hw : mh_at g h b H) (hq : H1[mh_b g + b]? = H[mh_b g + b]?) : mh_at g h2 b H1 := by
  unfold mh_at at hw ⊢
  rw [e]
  split at hw
  · exact hw.kept hq
  · rw [hq]; exact hw
theorem mh_Wd_push {g : mh_G} {n : Nat} {h h2 : Nat → Int → Int} {H H1 : Heap} (hw : mh_Wd g n h H) (hn : n + 1 ≤ 1000) (eh : ∀ a, a ≠ n → h2 a = h a) (e1 : mh_at g h2 n H1) (e2 : H1.size = H.size + 1) (e3 : ∀ q, q < H.size → H1[q]? = H[q]?) : mh_Wd g (n + 1) h2 H1 := by
  have hs := hw.2.1
  refine ⟨fun b hb => ?_, by rw [e2, hs]; omega, fun q hq => ?_, hn⟩
  · by_cases c : b = n
    · rw [c]; exact e1
    · exact mh_at_of (eh b c) (hw.1 b (by omega)) (e3 _ (by omega))
  · rw [e3 q (by omega)]; exact hw.2.2.1 q hq
theorem mh_fv0 (g : mh_G) (t : FieldType) (ht : t = .int ∨ t = .boolean ∨ mh_ir t = true) : defaultValue t = mh_fv g t 0 := by
  have e : mh_ro g 0 = none := if_pos (by decide)
  rcases ht with rfl | rfl | h
  · rfl
  · rfl
  · unfold mh_fv
    rw [if_pos h, e]
    cases t <;> first | rfl | exact absurd h Bool.false_ne_true
theorem mh_ftk : ∀ ci, ci < 13 → ∀ k, k < mh_N ci → (mh_ft ci k = .int ∨ mh_ft ci k = .boolean ∨ mh_ir (mh_ft ci k) = true) := by decide +kernel
section
variable {g : mh_G} {f : mh_F} {own : String} {cc : ByteArray} {nL d n cl sl pc : Nat} {loc : List (Option Value)} {st : List Value} {h : Nat → Int → Int} {ret : Option FieldType} {post : Option Value → (Nat → Int → Int) → Prop}
theorem mh_new (F : mh_Fr g f own cc nL d) {ix ci n1 cl1 sl1 : Nat} (hs : mh_sh n = .inl ci) (hn : n + 1 ≤ 1000) (w1 : Cond.classLink own ix (mh_C ci) ∈ mh_WT) (w2 : Cond.instantiable (mh_C ci) (mh_N ci) ∈ mh_WT) (w3 : Cond.initialized (mh_C ci) ∈ mh_WT) (e : n + 1 = n1 ∧ cl + 1 = cl1 ∧ sl + mh_N ci = sl1) (hc : cl1 ≤ (mh_R f).cells ∧ sl1 ≤ (mh_R f).slots) (hd : decode cc pc = .ok (.new ix, 3)) (k : mh_V g f nL n1 cl1 sl1 (pc + 3) loc (.ref n :: st) (mh_zr h n)) : mh_V g f nL n cl sl pc loc st h := by
  obtain ⟨rfl, rfl, rfl⟩ := e
  intro H locs ls h1 h2 h3
  have hci := mh_sh_ci hs
  have hKn := F.kk.1.1 ci _ (mh_cl hci)
  have hsz : H.size = mh_b g + n := h1.2.1
  refine W.newcK F.exec F.code F.own (F.wt _ w1) (F.wt _ w2) (F.wt _ w3) rfl hd hc.1 hc.2 hKn.2.1 hsz fun H1 kC hkC e1 z1 o1 => ?_
  have hob := u_born (mh_ft ci) F.wt (mh_inWT ci hci) hKn hkC e1 (mh_ft_ok ci hci)
  have hat : mh_at g (mh_zr h n) n H1 := by
    unfold mh_at
    rw [hs]
    refine hob.to (fun k hk => ?_)
    rw [mh_zr_rs]
    exact mh_fv0 g _ (mh_ftk ci hci k hk)
  have hW := mh_Wd_push h1 hn (fun a ha => mh_zr_row ha) hat (by rw [z1, hsz]) (fun q hq => o1 q (by omega))
  have k3 := k H1 locs ls hW ⟨by rw [z1]; have := h2.1; omega, fun q q1 q2 => (o1 q (by have := h2.1; omega)).trans (h2.2.1 q q1 q2), h2.2.2⟩ h3
  have ea : mh_ad g n = mh_b g + n := if_pos (by omega)
  show W _ _ _ _ _ _ _ _ _ _ _ _ _ _ _ (F0 _ _ _ (.ref (mh_b g + n) :: _))
  rw [← ea]
  exact k3
theorem mh_ev0 (g : mh_G) (t : Nat) : mh_ev g t 0 = (if t < 3 then .int 0 else if t = 6 then .long 0 else .null) := by
  have e : mh_ro g 0 = none := if_pos (by decide)
  unfold mh_ev
  split
  · rfl
  · split
    · rfl
    · rw [e]; rfl
theorem mh_tyk {t : Nat} (ht : t < 7) : (mh_tys g)[t]? = some (mh_ct g t, mh_ty t) := by
  match t, ht with
  | 0, _ => rfl
  | 1, _ => rfl
  | 2, _ => rfl
  | 3, _ => rfl
  | 4, _ => rfl
  | 5, _ => rfl
  | 6, _ => rfl
  | n + 7, h => exact absurd h (by omega)
theorem mh_newarr (F : mh_Fr g f own cc nL d) {t len n1 cl1 sl1 : Nat} {x : Int} {atype : ArrayType} (hs : mh_sh n = .inr (t, len)) (ht : t < 3) (hn : n + 1 ≤ 1000) (hx : (len : Int) = x) (hat : newarray.typeOf atype = mh_ty t) (w : Cond.arrayClass (mh_ty t) ∈ mh_WT) (e : n + 1 = n1 ∧ cl + 1 = cl1 ∧ sl + len = sl1) (hc : cl1 ≤ (mh_R f).cells ∧ sl1 ≤ (mh_R f).slots) (hd : decode cc pc = .ok (.newarray atype, 2)) (k : mh_V g f nL n1 cl1 sl1 (pc + 2) loc (.ref n :: st) (mh_zr h n)) : mh_V g f nL n cl sl pc loc (.int (Int32.ofInt x) :: st) h := by
  obtain ⟨rfl, rfl, rfl⟩ := e
  subst hx
  intro H locs ls h1 h2 h3
  have hl := (mh_sh_len hs).1
  have hsz : H.size = mh_b g + n := h1.2.1
  have hK := (F.kk.1.2 t _ (mh_tyk (by omega))).2
  have hbt : len * componentBytes (mh_ty t) ≤ 536870912 := by
    have : componentBytes (mh_ty t) ≤ 8 := by
      match t, ht with
      | 0, _ => decide
      | 1, _ => decide
      | 2, _ => decide
      | n + 3, h => exact absurd h (by omega)
    have := Nat.mul_le_mul hl this
    omega
  refine va_newaK F.exec F.code (atype := atype) (by rw [hat]; exact F.wt _ w) rfl hd rfl (fun q => by
    have := mh_clamp (i := (len : Int)) (by omega) (by omega)
    have q2 := Int32.lt_iff_toInt_lt.mp q
    rw [Int32.toInt_ofInt_of_le (by omega) (by omega)] at q2
    have h2 : (0 : Int32).toInt = 0 := rfl
    omega) (N := len) (by rw [mh_clamp (by omega) (by omega)]; exact Int.toNat_natCast len) (by rw [hat]; exact hbt) hc.1 hc.2 hsz fun H1 cA e1 z1 o1 hAr hNm => ?_
  have hcA : cA = mh_ct g t := by
    rw [hat] at hNm
    match t, ht, hK, hNm with
    | 0, _, hK, hNm => exact Option.some.inj (hNm.symm.trans hK)
    | 1, _, hK, hNm => exact Option.some.inj (hNm.symm.trans hK)
    | 2, _, hK, hNm => exact Option.some.inj (hNm.symm.trans hK)
    | n + 3, h, _, _ => exact absurd h (by omega)
  have hdv : defaultValue (newarray.typeOf atype) = .int 0 := by
    rw [hat]
    match t, ht with
    | 0, _ => rfl
    | 1, _ => rfl
    | 2, _ => rfl
    | n + 3, h => exact absurd h (by omega)
  have hat2 : mh_at g (mh_zr h n) n H1 := by
    unfold mh_at
    rw [hs]
    show H1[mh_b g + n]? = some (arrV (mh_ct g t) len (fun j => mh_ev g t (mh_zr h n n (j : Int))))
    rw [e1, hcA, hdv, mh_zr_rs]
    congr 2
    funext j
    rw [mh_ev0, if_pos ht]
  have hW := mh_Wd_push h1 hn (fun a ha => mh_zr_row ha) hat2 (by rw [z1, hsz]) (fun q hq => o1 q (by omega))
  have k3 := k H1 locs ls hW ⟨by rw [z1]; have := h2.1; omega, fun q q1 q2 => (o1 q (by have := h2.1; omega)).trans (h2.2.1 q q1 q2), h2.2.2⟩ h3
  have ea : mh_ad g n = mh_b g + n := if_pos (by omega)
  show W _ _ _ _ _ _ _ _ _ _ _ _ _ _ _ (F0 _ _ _ (.ref (mh_b g + n) :: _))
  rw [← ea]
  exact k3
theorem mh_newarrL (F : mh_Fr g f own cc nL d) {len n1 cl1 sl1 : Nat} {x : Int} {atype : ArrayType} (hs : mh_sh n = .inr (6, len)) (hn : n + 1 ≤ 1000) (hx : (len : Int) = x) (hat : newarray.typeOf atype = .long) (w : Cond.arrayClass .long ∈ mh_WT) (e : n + 1 = n1 ∧ cl + 1 = cl1 ∧ sl + len = sl1) (hc : cl1 ≤ (mh_R f).cells ∧ sl1 ≤ (mh_R f).slots) (hd : decode cc pc = .ok (.newarray atype, 2)) (k : mh_V g f nL n1 cl1 sl1 (pc + 2) loc (.ref n :: st) (mh_zr h n)) : mh_V g f nL n cl sl pc loc (.int (Int32.ofInt x) :: st) h := by
  obtain ⟨rfl, rfl, rfl⟩ := e
  subst hx
  intro H locs ls h1 h2 h3
  have hl := (mh_sh_len hs).1
  have hsz : H.size = mh_b g + n := h1.2.1
  have hK := (F.kk.1.2 6 _ (mh_tyk (by omega))).2
  have hbt : len * componentBytes .long ≤ 536870912 := by
    have : componentBytes .long ≤ 8 := by decide
    have := Nat.mul_le_mul hl this
    omega
  refine va_newaK F.exec F.code (atype := atype) (by rw [hat]; exact F.wt _ w) rfl hd rfl (fun q => by
    have := mh_clamp (i := (len : Int)) (by omega) (by omega)
    have q2 := Int32.lt_iff_toInt_lt.mp q
    rw [Int32.toInt_ofInt_of_le (by omega) (by omega)] at q2
    have h2 : (0 : Int32).toInt = 0 := rfl
    omega) (N := len) (by rw [mh_clamp (by omega) (by omega)]; exact Int.toNat_natCast len) (by rw [hat]; exact hbt) hc.1 hc.2 hsz fun H1 cA e1 z1 o1 hAr hNm => ?_
  have hcA : cA = mh_ct g 6 := by
    rw [hat] at hNm
    exact Option.some.inj (hNm.symm.trans hK)
  have hdv : defaultValue (newarray.typeOf atype) = .long 0 := by
    rw [hat]; rfl
  have hat2 : mh_at g (mh_zr h n) n H1 := by
    unfold mh_at
    rw [hs]
    show H1[mh_b g + n]? = some (arrV (mh_ct g 6) len (fun j => mh_ev g 6 (mh_zr h n n (j : Int))))
    rw [e1, hcA, hdv, mh_zr_rs]
    congr 2
  have hW := mh_Wd_push h1 hn (fun a ha => mh_zr_row ha) hat2 (by rw [z1, hsz]) (fun q hq => o1 q (by omega))
  have k3 := k H1 locs ls hW ⟨by rw [z1]; have := h2.1; omega, fun q q1 q2 => (o1 q (by have := h2.1; omega)).trans (h2.2.1 q q1 q2), h2.2.2⟩ h3
  have ea : mh_ad g n = mh_b g + n := if_pos (by omega)
  show W _ _ _ _ _ _ _ _ _ _ _ _ _ _ _ (F0 _ _ _ (.ref (mh_b g + n) :: _))
  rw [← ea]
  exact k3
theorem mh_anew (F : mh_Fr g f own cc nL d) {t len ix n1 cl1 sl1 : Nat} {x : Int} {C : String} (hs : mh_sh n = .inr (t, len)) (ht : t < 6) (hC : mh_ty t = .object C) (hn : n + 1 ≤ 1000) (hx : (len : Int) = x) (w : Cond.classLink own ix C ∈ mh_WT) (hA : va_AO C (mh_s f)) (e : n + 1 = n1 ∧ cl + 1 = cl1 ∧ sl + len = sl1) (hc : cl1 ≤ (mh_R f).cells ∧ sl1 ≤ (mh_R f).slots) (hd : decode cc pc = .ok (.anewarray ix, 3)) (k : mh_V g f nL n1 cl1 sl1 (pc + 3) loc (.ref n :: st) (mh_zr h n)) : mh_V g f nL n cl sl pc loc (.int (Int32.ofInt x) :: st) h := by
  obtain ⟨rfl, rfl, rfl⟩ := e
  subst hx
  intro H locs ls h1 h2 h3
  have hl := (mh_sh_len hs).1
  have hsz : H.size = mh_b g + n := h1.2.1
  have hK := (F.kk.1.2 t _ (mh_tyk (by omega))).2
  have hcl : (Int32.ofInt (len : Int)).toNatClampNeg = len := by rw [mh_clamp (by omega) (by omega)]; exact Int.toNat_natCast len
  refine W.anew F.exec F.code F.own (F.wt _ w) hA.use rfl hd rfl (fun q => by
    have q2 := Int32.lt_iff_toInt_lt.mp q
    rw [Int32.toInt_ofInt_of_le (by omega) (by omega)] at q2
    have h2 : (0 : Int32).toInt = 0 := rfl
    omega) (by rw [hcl]; omega) hc.1 (by rw [hcl]; exact hc.2) fun cA kA comp g1 g2 g3 g4 => ?_
  rw [hcl, arrV_new]
  have hcA : cA = mh_ct g t := by
    rw [hC] at hK
    obtain ⟨kA2, comp2, k1, k2, k3, k4⟩ := hK
    exact Option.some.inj (g1.symm.trans k4)
  have ht3 : ¬ t < 3 := by
    intro z
    match t, z, hC with
    | 0, _, hC => cases hC
    | 1, _, hC => cases hC
    | 2, _, hC => cases hC
    | n + 3, z, _ => exact absurd z (by omega)
  have hat2 : mh_at g (mh_zr h n) n (H.push (arrV cA len (fun _ => .null))) := by
    unfold mh_at
    rw [hs]
    show (H.push _)[mh_b g + n]? = some (arrV (mh_ct g t) len (fun j => mh_ev g t (mh_zr h n n (j : Int))))
    rw [← hsz, hcA, mh_zr_rs]
    simp only [Array.getElem?_push_size]
    congr 2
    funext j
    rw [mh_ev0, if_neg ht3, if_neg (by omega)]
  have hW := mh_Wd_push h1 hn (fun a ha => mh_zr_row ha) hat2 (by simp) (fun q hq => by rw [Array.getElem?_push, if_neg (Nat.ne_of_lt hq)])
  have k3 := k _ locs ls hW ⟨by simp; have := h2.1; omega, fun q q1 q2 => by rw [Array.getElem?_push, if_neg (by have := h2.1; omega)]; exact h2.2.1 q q1 q2, h2.2.2⟩ h3
  have ea : mh_ad g n = H.size := by rw [hsz]; exact if_pos (by omega)
  show W _ _ _ _ _ _ _ _ _ _ _ _ _ _ _ (F0 _ _ _ (.ref H.size :: _))
  rw [← ea]
  exact k3
/-- what stands at b goes into a row of references -/
theorem mh_aastore (F : mh_Fr g f own cc nL d) {a b t len ci : Nat} {i : Int} {C : String} (hs : mh_sh a = .inr (t, len)) (hsb : mh_sh b = .inl ci) (ht : t < 6) (hC : mh_ty t = .object C) (ha : a < n) (hb : b < n) (hi : 0 ≤ i ∧ i < (len : Int)) (hca : mh_C ci = C ∨ Cond.castable (mh_C ci) C ∈ mh_NW) (hd : decode cc pc = .ok (.aastore, 1)) (k : mh_V g f nL n cl sl (pc + 1) loc st (mh_up h a i ((b : Int) + 1))) : mh_V g f nL n cl sl pc loc (.ref b :: .int (Int32.ofInt i) :: .ref a :: st) h := by
  intro H locs ls h1 h2 h3
  have hc := mh_at_arr hs h1 ha
  have hl := (mh_sh_len hs).1
  obtain ⟨cellV, g1, g2, g3, -⟩ := mh_at_obj hsb h1 hb
  have hci := mh_sh_ci hsb
  have hcls := (F.kk.1.1 ci _ (mh_cl hci)).2
  have hK := (F.kk.1.2 t _ (mh_tyk (by omega))).2
  rw [hC] at hK
  obtain ⟨kA, comp, k1, k2, k3, -⟩ := hK
  obtain ⟨kE, hkE, -⟩ := Vm.findClass_spec k3
  obtain ⟨kC, hkC, -⟩ := hcls.2
  have hasg : (mh_s f).vm.assignable ((mh_D g).1 ci) comp = true := by
    rcases hca with z | z
    · have e := hcls.1
      change (mh_s f).vm.findClass (mh_C ci) = _ at e
      rw [z] at e
      rw [Option.some.inj (k3.symm.trans e)]
      exact va_assign hcls
    · obtain ⟨c0, t1, f1, f2, f3⟩ := Cond.castable_spec (va_Nw.use (A := mh_g f) rfl (F.kk.2.1 _ z))
      cases hcls.1.symm.trans f1
      cases k3.symm.trans f2
      exact f3
  show W _ _ _ _ _ _ _ _ _ _ _ _ _ _ _ (F0 _ _ _ (.ref (mh_ad g b) :: .int (Int32.ofInt i) :: .ref (mh_ad g a) :: _))
  rw [mh_ad_lt h1 ha, mh_ad_lt h1 hb]
  refine W.aast F.exec F.code hc (fun q h => by cases h) (fun h => by cases h) k1 k2 rfl hkE ⟨fun z => mh_in hi.1 hi.2 hl (Or.inl z), by rw [arrV_size, mh_clamp hi.1 (by omega)]; omega⟩ g1 (fun q h => by rw [g3] at h; cases h) (by rw [g2]; exact hkC) (by rw [g2]; exact hasg) rfl rfl hd fun H' e1 e2 e3 => ?_
  have ht3 : ¬ t < 3 := by
    intro z
    match t, z, hC with
    | 0, _, hC => cases hC
    | 1, _, hC => cases hC
    | 2, _, hC => cases hC
    | n + 3, z, _ => exact absurd z (by omega)
  have hv : Value.ref (mh_b g + b) = mh_ev g t ((b : Int) + 1) := by
    unfold mh_ev
    rw [if_neg ht3, if_neg (by omega), mh_ro_pos, mh_ad_lt h1 hb]; rfl
  exact k H' _ ls (mh_Wd_up h1 ha (mh_at_sto hs hi hv e1) e2 e3) (h2.put e2 e3 (Nat.le_add_right _ _)) h3
theorem mh_objI (F : mh_Fr g f own cc nL d) (hd1 : 1 ≤ d) {ix a : Nat} (hl : Cond.methodLink own ix Lib.objectInit ∈ mh_WT) (h8 : (st.map fun v => v.category).sum ≤ 8) (hd : decode cc pc = .ok (.invokespecial ix, 3)) (k : mh_V g f nL n cl sl (pc + 3) loc st h) : mh_V g f nL n cl sl pc loc (.ref a :: st) h := by
  intro H locs ls h1 h2 h3
  have hr := F.room
  have h9 := mh_cat8 (f := f) (pc := pc) (g := g) (ls := ls) (st0 := []) h8
  exact W.objInit F.exec F.code F.own (F.wt _ hl) (F.wt _ tw_1_28) (F.wt _ tw_1_29) (g := F0 (mh_m f) pc ls ((Value.ref a :: st).map (mh_tr g))) rfl (by rw [F.maxL]; exact h3.1) rfl hd (by omega) (by show 2 * (F0 (mh_m f) pc ls ([] : List Value)).monitorRoom + _ + 12 ≤ _; omega) (k H locs ls h1 h2 h3)
theorem mh_ldcs (F : mh_Fr g f own cc nL d) {ix i a : Nat} {tx : String} (ha : a = 1000000 + i) (hZ : vk_R own ix tx (mh_sa g i) (mh_s f)) (hd : decode cc pc = .ok (.ldc ix, 2)) (k : mh_V g f nL n cl sl (pc + 2) loc (.ref a :: st) h) : mh_V g f nL n cl sl pc loc st h := by
  intro H locs ls h1 h2 h3
  subst ha
  have k3 := k H locs ls h1 h2 h3
  refine va_ldcS F.exec F.code F.own hZ hd ?_
  rw [← mh_S_ad]
  exact k3
end

