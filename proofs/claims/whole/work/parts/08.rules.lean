section
variable {g : mh_G} {f : mh_F} {own : String} {cc : ByteArray} {nL d n cl sl pc : Nat} {loc : List (Option Value)} {st : List Value} {h : Nat → Int → Int}

theorem mh_iconst (F : mh_Fr g f own cc nL d)  {x : Int} (hd : decode cc pc = .ok (.iconst x, 1)) (k : mh_V g f nL n cl sl (pc + 1) loc (.int (Int32.ofInt x) :: st) h) : mh_V g f nL n cl sl pc loc st h := fun H locs ls h1 h2 h3 => lv_iconst F.exec F.code hd rfl (k H locs ls h1 h2 h3)
theorem mh_bipush (F : mh_Fr g f own cc nL d)  {x : Int} (hd : decode cc pc = .ok (.bipush x, 2)) (hv : (Int8.ofInt x).toInt32 = Int32.ofInt x) (k : mh_V g f nL n cl sl (pc + 2) loc (.int (Int32.ofInt x) :: st) h) : mh_V g f nL n cl sl pc loc st h := fun H locs ls h1 h2 h3 => lv_bipush F.exec F.code hd hv (k H locs ls h1 h2 h3)
theorem mh_sipush (F : mh_Fr g f own cc nL d)  {x : Int} (hd : decode cc pc = .ok (.sipush x, 3)) (hv : (Int16.ofInt x).toInt32 = Int32.ofInt x) (k : mh_V g f nL n cl sl (pc + 3) loc (.int (Int32.ofInt x) :: st) h) : mh_V g f nL n cl sl pc loc st h := fun H locs ls h1 h2 h3 => lv_sipush F.exec F.code hd hv (k H locs ls h1 h2 h3)
theorem mh_ldc (F : mh_Fr g f own cc nL d)  {x : Int} {ix : Nat} (hd : decode cc pc = .ok (.ldc ix, 2)) (hw : Cond.constant own ix (Int32.ofInt x) ∈ mh_WT) (k : mh_V g f nL n cl sl (pc + 2) loc (.int (Int32.ofInt x) :: st) h) : mh_V g f nL n cl sl pc loc st h := fun H locs ls h1 h2 h3 => lv_ldc F.exec F.code F.own (F.wt _ hw) hd (k H locs ls h1 h2 h3)
theorem mh_ldcw (F : mh_Fr g f own cc nL d)  {x : Int} {ix : Nat} (hd : decode cc pc = .ok (.ldc_w ix, 3)) (hw : Cond.constant own ix (Int32.ofInt x) ∈ mh_WT) (k : mh_V g f nL n cl sl (pc + 3) loc (.int (Int32.ofInt x) :: st) h) : mh_V g f nL n cl sl pc loc st h := fun H locs ls h1 h2 h3 => lv_ldcw F.exec F.code F.own (F.wt _ hw) hd (k H locs ls h1 h2 h3)
theorem mh_ldc2 (F : mh_Fr g f own cc nL d)  {x : Int} {ix : Nat} (hd : decode cc pc = .ok (.ldc2_w ix, 3)) (hw : Cond.constantLong own ix (Int64.ofInt x) ∈ mh_WT) (k : mh_V g f nL n cl sl (pc + 3) loc (.long (Int64.ofInt x) :: st) h) : mh_V g f nL n cl sl pc loc st h := fun H locs ls h1 h2 h3 => lv_ldc2 F.exec F.code F.own (F.wt _ hw) hd (k H locs ls h1 h2 h3)
theorem mh_lconst (F : mh_Fr g f own cc nL d)  {i : Fin 2} {x : Int} (hd : decode cc pc = .ok (.lconst i, 1)) (hx : Int64.ofNat (i : Nat) = Int64.ofInt x) (k : mh_V g f nL n cl sl (pc + 1) loc (.long (Int64.ofInt x) :: st) h) : mh_V g f nL n cl sl pc loc st h := fun H locs ls h1 h2 h3 => lv_lconst F.exec F.code hd hx (k H locs ls h1 h2 h3)
theorem mh_has {ls : Array Slot} {i : Nat} {v : Value} (h3 : lv_has ls nL (mh_lo g 0 loc)) (hl : loc[i]? = some (some v)) : ls[i]? = some (.val (mh_tr g v)) := by
  have := mh_lo_at (g := g) loc 0 hl
  rw [Nat.zero_add] at this
  exact h3.2.2 _ this
theorem mh_iload_n (F : mh_Fr g f own cc nL d)  {i : Fin 4} {x : Int32} (hd : decode cc pc = .ok (.iload_n i, 1)) (hl : loc[(i : Nat)]? = some (some (.int x))) (k : mh_V g f nL n cl sl (pc + 1) loc (.int x :: st) h) : mh_V g f nL n cl sl pc loc st h := fun H locs ls h1 h2 h3 => lv_iload_n F.exec F.code hd rfl (x := x) (mh_has h3 hl) (k H locs ls h1 h2 h3)
theorem mh_iload (F : mh_Fr g f own cc nL d)  {i : Nat} {x : Int32} (hd : decode cc pc = .ok (.iload i, 2)) (hl : loc[i]? = some (some (.int x))) (k : mh_V g f nL n cl sl (pc + 2) loc (.int x :: st) h) : mh_V g f nL n cl sl pc loc st h := fun H locs ls h1 h2 h3 => lv_iload F.exec F.code hd (x := x) (mh_has h3 hl) (k H locs ls h1 h2 h3)
theorem mh_aload_n (F : mh_Fr g f own cc nL d)  {i : Fin 4} {x : Nat} (hd : decode cc pc = .ok (.aload_n i, 1)) (hl : loc[(i : Nat)]? = some (some (.ref x))) (k : mh_V g f nL n cl sl (pc + 1) loc (.ref x :: st) h) : mh_V g f nL n cl sl pc loc st h := fun H locs ls h1 h2 h3 => lv_aload_n F.exec F.code hd rfl (x := mh_ad g x) (mh_has h3 hl) (k H locs ls h1 h2 h3)
theorem mh_aload (F : mh_Fr g f own cc nL d)  {i : Nat} {x : Nat} (hd : decode cc pc = .ok (.aload i, 2)) (hl : loc[i]? = some (some (.ref x))) (k : mh_V g f nL n cl sl (pc + 2) loc (.ref x :: st) h) : mh_V g f nL n cl sl pc loc st h := fun H locs ls h1 h2 h3 => lv_aload F.exec F.code hd (x := mh_ad g x) (mh_has h3 hl) (k H locs ls h1 h2 h3)
theorem mh_lload_n (F : mh_Fr g f own cc nL d)  {i : Fin 4} {x : Int64} (hd : decode cc pc = .ok (.lload_n i, 1)) (hl : loc[(i : Nat)]? = some (some (.long x))) (k : mh_V g f nL n cl sl (pc + 1) loc (.long x :: st) h) : mh_V g f nL n cl sl pc loc st h := fun H locs ls h1 h2 h3 => lv_lload_n F.exec F.code hd rfl (x := x) (mh_has h3 hl) (k H locs ls h1 h2 h3)
theorem mh_lload (F : mh_Fr g f own cc nL d)  {i : Nat} {x : Int64} (hd : decode cc pc = .ok (.lload i, 2)) (hl : loc[i]? = some (some (.long x))) (k : mh_V g f nL n cl sl (pc + 2) loc (.long x :: st) h) : mh_V g f nL n cl sl pc loc st h := fun H locs ls h1 h2 h3 => lv_lload F.exec F.code hd (x := x) (mh_has h3 hl) (k H locs ls h1 h2 h3)
def mh_clo (x : Option Value) : Option Value := match x with
  | some w => if w.category = 2 then none else some w
  | none => none
/-- what a store of one slot leaves: a long that began one slot ahead is gone -/
def mh_st1 (loc : List (Option Value)) (i : Nat) (v : Value) : List (Option Value) := match loc, i with
  | [], _ => []
  | _ :: r, 0 => some v :: r
  | x :: r, 1 => mh_clo x :: mh_st1 r 0 v
  | x :: r, i + 2 => x :: mh_st1 r (i + 1) v
theorem mh_st1_at {v : Value} : ∀ (loc : List (Option Value)) (i k : Nat) (w : Value), (mh_st1 loc i v)[k]? = some (some w) → (k = i ∧ w = v) ∨ (k ≠ i ∧ loc[k]? = some (some w) ∧ ¬ (k + 1 = i ∧ w.category = 2)) := by
  intro loc
  induction loc with
  | nil => intro i k w h; simp [mh_st1] at h
  | cons x r ih =>
    intro i k w h
    match i with
    | 0 =>
      cases k with
      | zero => simp [mh_st1] at h; exact Or.inl ⟨rfl, h.symm⟩
      | succ k => simp [mh_st1] at h; exact Or.inr ⟨by omega, by simpa using h, by omega⟩
    | 1 =>
      cases k with
      | zero =>
        cases x with
        | none => simp [mh_st1, mh_clo] at h
        | some y =>
          by_cases hc : y.category = 2
          · simp [mh_st1, mh_clo, hc] at h
          · simp [mh_st1, mh_clo, hc] at h
            subst h
            exact Or.inr ⟨by omega, by simp, fun q => hc q.2⟩
      | succ k =>
        have h2 : (mh_st1 r 0 v)[k]? = some (some w) := by cases x <;> simpa [mh_st1] using h
        rcases ih 0 k w h2 with ⟨e1, e2⟩ | ⟨e1, e2, e3⟩
        · exact Or.inl ⟨by omega, e2⟩
        · exact Or.inr ⟨by omega, by simpa using e2, by omega⟩
    | i + 2 =>
      cases k with
      | zero => simp [mh_st1] at h; exact Or.inr ⟨by omega, by simp [h], by omega⟩
      | succ k =>
        have h2 : (mh_st1 r (i + 1) v)[k]? = some (some w) := by simpa [mh_st1] using h
        rcases ih (i + 1) k w h2 with ⟨e1, e2⟩ | ⟨e1, e2, e3⟩
        · exact Or.inl ⟨by omega, e2⟩
        · exact Or.inr ⟨by omega, by simpa using e2, fun q => e3 ⟨by omega, q.2⟩⟩
theorem mh_trc (g : mh_G) (v : Value) : (mh_tr g v).category = v.category := by cases v <;> rfl
theorem mh_st1_sub {v : Value} {i : Nat} {ls : Array Slot} (h : lv_has ls nL ((i, mh_tr g v) :: (mh_lo g 0 loc).filter (fun q => !(q.1 == i) && !(q.1 + 1 == i && q.2.category == 2)))) : lv_has ls nL (mh_lo g 0 (mh_st1 loc i v)) := by
  refine ⟨h.1, h.2.1, fun q hq => h.2.2 q ?_⟩
  obtain ⟨k, w, rfl, hk⟩ := mh_lo_of _ _ _ hq
  rw [Nat.zero_add]
  rcases mh_st1_at loc i k w hk with ⟨rfl, rfl⟩ | ⟨e1, e2, e3⟩
  · exact List.mem_cons_self
  · refine List.mem_cons_of_mem _ (List.mem_filter.mpr ⟨?_, ?_⟩)
    · have := mh_lo_at (g := g) loc 0 e2
      rwa [Nat.zero_add] at this
    · simp only [mh_trc]
      by_cases hc : w.category = 2
      · have : ¬ k + 1 = i := fun q => e3 ⟨q, hc⟩
        simp [e1, this]
      · simp [e1, hc]
def mh_st2 (loc : List (Option Value)) (i : Nat) (v : Value) : List (Option Value) := (((loc.set i (some v)).set (i + 1) none).modify (i - 1) (fun x => if i = 0 then x else mh_clo x))
theorem mh_st2_at {v : Value} (loc : List (Option Value)) (i k : Nat) (w : Value) (h : (mh_st2 loc i v)[k]? = some (some w)) : (k = i ∧ w = v) ∨ (k ≠ i ∧ k ≠ i + 1 ∧ loc[k]? = some (some w) ∧ ¬ (k + 1 = i ∧ w.category = 2)) := by
  unfold mh_st2 at h
  rw [List.getElem?_modify, List.getElem?_set, List.getElem?_set] at h
  by_cases e0 : k = i
  · subst e0
    refine Or.inl ⟨rfl, ?_⟩
    by_cases z : k = 0
    · subst z
      by_cases q : 0 < loc.length <;> simp [q] at h
      exact h.symm
    · by_cases q : k < loc.length <;> simp [q, show ¬ k - 1 = k by omega] at h
      exact h.symm
  · right
    by_cases e1 : k = i + 1
    · subst e1
      exfalso
      by_cases q : i + 1 < loc.length <;> simp [q, show ¬ i - 1 = i + 1 by omega] at h
    · refine ⟨e0, e1, ?_⟩
      by_cases e2 : k + 1 = i
      · subst e2
        simp [show ¬ k + 1 + 1 = k by omega] at h
        cases hx : loc[k]? with
        | none => rw [hx] at h; simp at h
        | some x =>
          rw [hx] at h
          cases x with
          | none => simp [mh_clo] at h
          | some y =>
            by_cases hc : y.category = 2
            · simp [mh_clo, hc] at h
            · simp [mh_clo, hc] at h
              subst h
              exact ⟨rfl, fun q => hc q.2⟩
      · by_cases z : i - 1 = k
        · have : i = 0 := by omega
          subst this
          have : k = 0 := by omega
          omega
        · simp [Ne.symm e0, Ne.symm e1, z] at h
          exact ⟨h, fun q => e2 q.1⟩
theorem mh_st2_sub {v : Value} {i : Nat} {ls : Array Slot} (h : lv_has ls nL ((i, mh_tr g v) :: (mh_lo g 0 loc).filter (fun q => !(q.1 == i) && (!(q.1 == i + 1) && !(q.1 + 1 == i && q.2.category == 2))))) : lv_has ls nL (mh_lo g 0 (mh_st2 loc i v)) := by
  refine ⟨h.1, h.2.1, fun q hq => h.2.2 q ?_⟩
  obtain ⟨k, w, rfl, hk⟩ := mh_lo_of _ _ _ hq
  rw [Nat.zero_add]
  rcases mh_st2_at loc i k w hk with ⟨rfl, rfl⟩ | ⟨e1, e1', e2, e3⟩
  · exact List.mem_cons_self
  · refine List.mem_cons_of_mem _ (List.mem_filter.mpr ⟨?_, ?_⟩)
    · have := mh_lo_at (g := g) loc 0 e2
      rwa [Nat.zero_add] at this
    · simp only [mh_trc]
      by_cases hc : w.category = 2
      · have : ¬ k + 1 = i := fun q => e3 ⟨q, hc⟩
        simp [e1, e1', this]
      · simp [e1, e1', hc]
theorem mh_istoreg_n (F : mh_Fr g f own cc nL d)  {i : Fin 4} {x : Int32} (hd : decode cc pc = .ok (.istore_n i, 1)) (hn : (i : Nat) < nL) (k : mh_V g f nL n cl sl (pc + 1) (mh_st1 loc (i : Nat) (.int x)) st h) : mh_V g f nL n cl sl pc loc (.int x :: st) h := fun H locs ls h1 h2 h3 => lv_istore_n F.exec F.code (x := x) hd rfl h3 hn rfl (fun ls2 h4 => k H locs ls2 h1 h2 (mh_st1_sub (v := .int x) h4))
theorem mh_istoreg (F : mh_Fr g f own cc nL d)  {i : Nat} {x : Int32} (hd : decode cc pc = .ok (.istore i, 2)) (hn : i < nL) (k : mh_V g f nL n cl sl (pc + 2) (mh_st1 loc i (.int x)) st h) : mh_V g f nL n cl sl pc loc (.int x :: st) h := fun H locs ls h1 h2 h3 => lv_istore F.exec F.code (x := x) hd h3 hn rfl (fun ls2 h4 => k H locs ls2 h1 h2 (mh_st1_sub (v := .int x) h4))
theorem mh_astoreg_n (F : mh_Fr g f own cc nL d)  {i : Fin 4} {x : Nat} (hd : decode cc pc = .ok (.astore_n i, 1)) (hn : (i : Nat) < nL) (k : mh_V g f nL n cl sl (pc + 1) (mh_st1 loc (i : Nat) (.ref x)) st h) : mh_V g f nL n cl sl pc loc (.ref x :: st) h := fun H locs ls h1 h2 h3 => lv_astore_n F.exec F.code (x := mh_ad g x) hd rfl h3 hn rfl (fun ls2 h4 => k H locs ls2 h1 h2 (mh_st1_sub (v := .ref x) h4))
theorem mh_astoreg (F : mh_Fr g f own cc nL d)  {i : Nat} {x : Nat} (hd : decode cc pc = .ok (.astore i, 2)) (hn : i < nL) (k : mh_V g f nL n cl sl (pc + 2) (mh_st1 loc i (.ref x)) st h) : mh_V g f nL n cl sl pc loc (.ref x :: st) h := fun H locs ls h1 h2 h3 => lv_astore F.exec F.code (x := mh_ad g x) hd h3 hn rfl (fun ls2 h4 => k H locs ls2 h1 h2 (mh_st1_sub (v := .ref x) h4))
theorem mh_lstoreg_n (F : mh_Fr g f own cc nL d)  {i : Fin 4} {x : Int64} (hd : decode cc pc = .ok (.lstore_n i, 1)) (hn : (i : Nat) + 1 < nL) (k : mh_V g f nL n cl sl (pc + 1) (mh_st2 loc (i : Nat) (.long x)) st h) : mh_V g f nL n cl sl pc loc (.long x :: st) h := fun H locs ls h1 h2 h3 => lv_lstore_n F.exec F.code (x := x) hd rfl h3 hn rfl (fun ls2 h4 => k H locs ls2 h1 h2 (mh_st2_sub (v := .long x) h4))
theorem mh_lstoreg (F : mh_Fr g f own cc nL d)  {i : Nat} {x : Int64} (hd : decode cc pc = .ok (.lstore i, 2)) (hn : i + 1 < nL) (k : mh_V g f nL n cl sl (pc + 2) (mh_st2 loc i (.long x)) st h) : mh_V g f nL n cl sl pc loc (.long x :: st) h := fun H locs ls h1 h2 h3 => lv_lstore F.exec F.code (x := x) hd h3 hn rfl (fun ls2 h4 => k H locs ls2 h1 h2 (mh_st2_sub (v := .long x) h4))
theorem mh_pop (F : mh_Fr g f own cc nL d)  {v : Value} (hd : decode cc pc = .ok (.pop, 1)) (hc : v.category = 1) (k : mh_V g f nL n cl sl (pc + 1) loc st h) : mh_V g f nL n cl sl pc loc (v :: st) h := fun H locs ls h1 h2 h3 => lv_pop F.exec F.code hd (by rw [mh_trc]; exact hc) (k H locs ls h1 h2 h3)
theorem mh_dup (F : mh_Fr g f own cc nL d)  {v : Value} (hd : decode cc pc = .ok (.dup, 1)) (hc : v.category = 1) (k : mh_V g f nL n cl sl (pc + 1) loc (v :: v :: st) h) : mh_V g f nL n cl sl pc loc (v :: st) h := fun H locs ls h1 h2 h3 => lv_dup F.exec F.code hd (by rw [mh_trc]; exact hc) (k H locs ls h1 h2 h3)
theorem mh_dup2 (F : mh_Fr g f own cc nL d)  {v w : Value} (hd : decode cc pc = .ok (.dup2, 1)) (hc : v.category = 1) (hc2 : w.category = 1) (k : mh_V g f nL n cl sl (pc + 1) loc (v :: w :: v :: w :: st) h) : mh_V g f nL n cl sl pc loc (v :: w :: st) h := fun H locs ls h1 h2 h3 => lv_dup2_11 F.exec F.code hd (by rw [mh_trc]; exact hc) (by rw [mh_trc]; exact hc2) (k H locs ls h1 h2 h3)
theorem mh_iadd (F : mh_Fr g f own cc nL d)  {x y : Int} (hd : decode cc pc = .ok (.iadd, 1)) (k : mh_V g f nL n cl sl (pc + 1) loc (.int (Int32.ofInt (x + y)) :: st) h) : mh_V g f nL n cl sl pc loc (.int (Int32.ofInt y) :: .int (Int32.ofInt x) :: st) h := by
  intro H locs ls h1 h2 h3
  have k := k H locs ls h1 h2 h3
  rw [Int32.ofInt_add] at k
  exact lv_iadd F.exec F.code hd k
theorem mh_isub (F : mh_Fr g f own cc nL d)  {x y : Int} (hd : decode cc pc = .ok (.isub, 1)) (k : mh_V g f nL n cl sl (pc + 1) loc (.int (Int32.ofInt (x - y)) :: st) h) : mh_V g f nL n cl sl pc loc (.int (Int32.ofInt y) :: .int (Int32.ofInt x) :: st) h := by
  intro H locs ls h1 h2 h3
  have k := k H locs ls h1 h2 h3
  rw [Int32.ofInt_sub] at k
  exact lv_isub F.exec F.code hd k
theorem mh_imul (F : mh_Fr g f own cc nL d)  {x y : Int} (hd : decode cc pc = .ok (.imul, 1)) (k : mh_V g f nL n cl sl (pc + 1) loc (.int (Int32.ofInt (x * y)) :: st) h) : mh_V g f nL n cl sl pc loc (.int (Int32.ofInt y) :: .int (Int32.ofInt x) :: st) h := by
  intro H locs ls h1 h2 h3
  have k := k H locs ls h1 h2 h3
  rw [Int32.ofInt_mul] at k
  exact lv_imul F.exec F.code hd k
theorem mh_ineg (F : mh_Fr g f own cc nL d)  {x : Int} (hd : decode cc pc = .ok (.ineg, 1)) (k : mh_V g f nL n cl sl (pc + 1) loc (.int (Int32.ofInt (-x)) :: st) h) : mh_V g f nL n cl sl pc loc (.int (Int32.ofInt x) :: st) h := by
  intro H locs ls h1 h2 h3
  have k := k H locs ls h1 h2 h3
  rw [Int32.ofInt_neg] at k
  exact lv_ineg F.exec F.code hd k
theorem mh_ne0 {x : Int} (hx : -2147483648 ≤ x ∧ x < 2147483648) (h0 : x ≠ 0) : ¬ Int32.ofInt x = 0 := fun q => h0 (by
  have := congrArg Int32.toInt q
  rw [Int32.toInt_ofInt_of_le hx.1 hx.2] at this
  exact this)
theorem mh_idiv (F : mh_Fr g f own cc nL d)  {x y : Int} (hd : decode cc pc = .ok (.idiv, 1)) (hx : -2147483648 ≤ x ∧ x < 2147483648) (hy : -2147483648 ≤ y ∧ y < 2147483648) (h0 : y ≠ 0) (k : mh_V g f nL n cl sl (pc + 1) loc (.int (Int32.ofInt (x.tdiv y)) :: st) h) : mh_V g f nL n cl sl pc loc (.int (Int32.ofInt y) :: .int (Int32.ofInt x) :: st) h := by
  intro H locs ls h1 h2 h3
  have k := k H locs ls h1 h2 h3
  rw [Int32.ofInt_tdiv hx.1 (by have := hx.2; show x ≤ 2147483647; omega) hy.1 (by have := hy.2; show y ≤ 2147483647; omega)] at k
  exact lv_idiv F.exec F.code hd (mh_ne0 hy h0) k
theorem mh_irem (F : mh_Fr g f own cc nL d)  {x y : Int} (hd : decode cc pc = .ok (.irem, 1)) (hx : -2147483648 ≤ x ∧ x < 2147483648) (hy : -2147483648 ≤ y ∧ y < 2147483648) (h0 : y ≠ 0) (k : mh_V g f nL n cl sl (pc + 1) loc (.int (Int32.ofInt (x.tmod y)) :: st) h) : mh_V g f nL n cl sl pc loc (.int (Int32.ofInt y) :: .int (Int32.ofInt x) :: st) h := by
  intro H locs ls h1 h2 h3
  have k := k H locs ls h1 h2 h3
  have e : x.tmod y = x - x.tdiv y * y := by rw [Int.tmod_def, Int.mul_comm]
  rw [e, Int32.ofInt_sub, Int32.ofInt_mul, Int32.ofInt_tdiv hx.1 (by have := hx.2; show x ≤ 2147483647; omega) hy.1 (by have := hy.2; show y ≤ 2147483647; omega)] at k
  exact lv_irem F.exec F.code hd (mh_ne0 hy h0) k
def mh_and (x y : Int) : Int := (Int32.ofInt x &&& Int32.ofInt y).toInt
def mh_or (x y : Int) : Int := (Int32.ofInt x ||| Int32.ofInt y).toInt
def mh_xor (x y : Int) : Int := (Int32.ofInt x ^^^ Int32.ofInt y).toInt
def mh_shl (x y : Int) : Int := (Int32.ofInt x <<< (Int32.ofInt y &&& 31)).toInt
def mh_ushr (x y : Int) : Int := (((Int32.ofInt x).toUInt32 >>> ((Int32.ofInt y).toUInt32 &&& Int32.toUInt32 31)).toInt32).toInt
def mh_i8 (x : Int) : Int := (Int32.ofInt x).toInt8.toInt
def mh_i16 (x : Int) : Int := (Int32.ofInt x).toInt16.toInt
def mh_c16 (x : Int) : Int := (((Int32.ofInt x).toUInt32 % 65536).toInt32).toInt
theorem mh_iand (F : mh_Fr g f own cc nL d)  {x y : Int} (hd : decode cc pc = .ok (.iand, 1)) (k : mh_V g f nL n cl sl (pc + 1) loc (.int (Int32.ofInt (mh_and x y)) :: st) h) : mh_V g f nL n cl sl pc loc (.int (Int32.ofInt y) :: .int (Int32.ofInt x) :: st) h := by
  intro H locs ls h1 h2 h3
  have k := k H locs ls h1 h2 h3
  unfold mh_and at k
  rw [Int32.ofInt_toInt] at k
  exact lv_iand F.exec F.code hd k
theorem mh_ior (F : mh_Fr g f own cc nL d)  {x y : Int} (hd : decode cc pc = .ok (.ior, 1)) (k : mh_V g f nL n cl sl (pc + 1) loc (.int (Int32.ofInt (mh_or x y)) :: st) h) : mh_V g f nL n cl sl pc loc (.int (Int32.ofInt y) :: .int (Int32.ofInt x) :: st) h := by
  intro H locs ls h1 h2 h3
  have k := k H locs ls h1 h2 h3
  unfold mh_or at k
  rw [Int32.ofInt_toInt] at k
  exact lv_ior F.exec F.code hd k
theorem mh_ixor (F : mh_Fr g f own cc nL d)  {x y : Int} (hd : decode cc pc = .ok (.ixor, 1)) (k : mh_V g f nL n cl sl (pc + 1) loc (.int (Int32.ofInt (mh_xor x y)) :: st) h) : mh_V g f nL n cl sl pc loc (.int (Int32.ofInt y) :: .int (Int32.ofInt x) :: st) h := by
  intro H locs ls h1 h2 h3
  have k := k H locs ls h1 h2 h3
  unfold mh_xor at k
  rw [Int32.ofInt_toInt] at k
  exact lv_ixor F.exec F.code hd k
theorem mh_ishl (F : mh_Fr g f own cc nL d)  {x y : Int} (hd : decode cc pc = .ok (.ishl, 1)) (k : mh_V g f nL n cl sl (pc + 1) loc (.int (Int32.ofInt (mh_shl x y)) :: st) h) : mh_V g f nL n cl sl pc loc (.int (Int32.ofInt y) :: .int (Int32.ofInt x) :: st) h := by
  intro H locs ls h1 h2 h3
  have k := k H locs ls h1 h2 h3
  unfold mh_shl at k
  rw [Int32.ofInt_toInt] at k
  exact lv_ishl F.exec F.code hd k
theorem mh_iushr (F : mh_Fr g f own cc nL d)  {x y : Int} (hd : decode cc pc = .ok (.iushr, 1)) (k : mh_V g f nL n cl sl (pc + 1) loc (.int (Int32.ofInt (mh_ushr x y)) :: st) h) : mh_V g f nL n cl sl pc loc (.int (Int32.ofInt y) :: .int (Int32.ofInt x) :: st) h := by
  intro H locs ls h1 h2 h3
  have k := k H locs ls h1 h2 h3
  unfold mh_ushr at k
  rw [Int32.ofInt_toInt] at k
  exact lv_iushr F.exec F.code hd rfl k
theorem mh_i2b (F : mh_Fr g f own cc nL d)  {x : Int} (hd : decode cc pc = .ok (.i2b, 1)) (k : mh_V g f nL n cl sl (pc + 1) loc (.int (Int32.ofInt (mh_i8 x)) :: st) h) : mh_V g f nL n cl sl pc loc (.int (Int32.ofInt x) :: st) h := by
  intro H locs ls h1 h2 h3
  have k := k H locs ls h1 h2 h3
  unfold mh_i8 at k
  rw [Int32.ofInt_int8ToInt] at k
  exact lv_i2b F.exec F.code hd rfl k
theorem mh_i2s (F : mh_Fr g f own cc nL d)  {x : Int} (hd : decode cc pc = .ok (.i2s, 1)) (k : mh_V g f nL n cl sl (pc + 1) loc (.int (Int32.ofInt (mh_i16 x)) :: st) h) : mh_V g f nL n cl sl pc loc (.int (Int32.ofInt x) :: st) h := by
  intro H locs ls h1 h2 h3
  have k := k H locs ls h1 h2 h3
  unfold mh_i16 at k
  rw [Int32.ofInt_int16ToInt] at k
  exact lv_i2s F.exec F.code hd rfl k
theorem mh_i2c (F : mh_Fr g f own cc nL d)  {x : Int} (hd : decode cc pc = .ok (.i2c, 1)) (k : mh_V g f nL n cl sl (pc + 1) loc (.int (Int32.ofInt (mh_c16 x)) :: st) h) : mh_V g f nL n cl sl pc loc (.int (Int32.ofInt x) :: st) h := by
  intro H locs ls h1 h2 h3
  have k := k H locs ls h1 h2 h3
  unfold mh_c16 at k
  rw [Int32.ofInt_toInt] at k
  exact lv_i2c F.exec F.code hd rfl k
theorem mh_i2l (F : mh_Fr g f own cc nL d)  {x : Int} (hd : decode cc pc = .ok (.i2l, 1)) (hx : -2147483648 ≤ x ∧ x < 2147483648) (k : mh_V g f nL n cl sl (pc + 1) loc (.long (Int64.ofInt x) :: st) h) : mh_V g f nL n cl sl pc loc (.int (Int32.ofInt x) :: st) h := by
  intro H locs ls h1 h2 h3
  have k := k H locs ls h1 h2 h3
  have e : (Int32.ofInt x).toInt64 = Int64.ofInt x := by rw [← Int64.ofInt_int32ToInt, Int32.toInt_ofInt_of_le hx.1 hx.2]
  exact lv_i2l F.exec F.code hd e k
def mh_l2i (x : Int) : Int := ((Int64.ofInt x).toInt32).toInt
theorem mh_l2ir (F : mh_Fr g f own cc nL d)  {x : Int} (hd : decode cc pc = .ok (.l2i, 1)) (k : mh_V g f nL n cl sl (pc + 1) loc (.int (Int32.ofInt (mh_l2i x)) :: st) h) : mh_V g f nL n cl sl pc loc (.long (Int64.ofInt x) :: st) h := by
  intro H locs ls h1 h2 h3
  have k := k H locs ls h1 h2 h3
  unfold mh_l2i at k
  rw [Int32.ofInt_toInt] at k
  exact lv_l2i F.exec F.code hd rfl k
theorem mh_ladd (F : mh_Fr g f own cc nL d)  {x y : Int} (hd : decode cc pc = .ok (.ladd, 1)) (k : mh_V g f nL n cl sl (pc + 1) loc (.long (Int64.ofInt (x + y)) :: st) h) : mh_V g f nL n cl sl pc loc (.long (Int64.ofInt y) :: .long (Int64.ofInt x) :: st) h := by
  intro H locs ls h1 h2 h3
  have k := k H locs ls h1 h2 h3
  rw [Int64.ofInt_add] at k
  exact lv_ladd F.exec F.code hd k
theorem mh_lmul (F : mh_Fr g f own cc nL d)  {x y : Int} (hd : decode cc pc = .ok (.lmul, 1)) (k : mh_V g f nL n cl sl (pc + 1) loc (.long (Int64.ofInt (x * y)) :: st) h) : mh_V g f nL n cl sl pc loc (.long (Int64.ofInt y) :: .long (Int64.ofInt x) :: st) h := by
  intro H locs ls h1 h2 h3
  have k := k H locs ls h1 h2 h3
  rw [Int64.ofInt_mul] at k
  exact lv_lmul F.exec F.code hd k
theorem mh_ne0l {x : Int} (hx : -9223372036854775808 ≤ x ∧ x < 9223372036854775808) (h0 : x ≠ 0) : ¬ Int64.ofInt x = 0 := fun q => h0 (by
  have := congrArg Int64.toInt q
  rw [Int64.toInt_ofInt_of_le hx.1 hx.2] at this
  exact this)
theorem mh_ldiv (F : mh_Fr g f own cc nL d)  {x y : Int} (hd : decode cc pc = .ok (.ldiv, 1)) (hx : -9223372036854775808 ≤ x ∧ x < 9223372036854775808) (hy : -9223372036854775808 ≤ y ∧ y < 9223372036854775808) (h0 : y ≠ 0) (k : mh_V g f nL n cl sl (pc + 1) loc (.long (Int64.ofInt (x.tdiv y)) :: st) h) : mh_V g f nL n cl sl pc loc (.long (Int64.ofInt y) :: .long (Int64.ofInt x) :: st) h := by
  intro H locs ls h1 h2 h3
  have k := k H locs ls h1 h2 h3
  rw [Int64.ofInt_tdiv hx.1 (by have := hx.2; show x ≤ 9223372036854775807; omega) hy.1 (by have := hy.2; show y ≤ 9223372036854775807; omega)] at k
  exact lv_ldiv F.exec F.code hd (mh_ne0l hy h0) k
theorem mh_lrem (F : mh_Fr g f own cc nL d)  {x y : Int} (hd : decode cc pc = .ok (.lrem, 1)) (hx : -9223372036854775808 ≤ x ∧ x < 9223372036854775808) (hy : -9223372036854775808 ≤ y ∧ y < 9223372036854775808) (h0 : y ≠ 0) (k : mh_V g f nL n cl sl (pc + 1) loc (.long (Int64.ofInt (x.tmod y)) :: st) h) : mh_V g f nL n cl sl pc loc (.long (Int64.ofInt y) :: .long (Int64.ofInt x) :: st) h := by
  intro H locs ls h1 h2 h3
  have k := k H locs ls h1 h2 h3
  have e : x.tmod y = x - x.tdiv y * y := by rw [Int.tmod_def, Int.mul_comm]
  rw [e, Int64.ofInt_sub, Int64.ofInt_mul, Int64.ofInt_tdiv hx.1 (by have := hx.2; show x ≤ 9223372036854775807; omega) hy.1 (by have := hy.2; show y ≤ 9223372036854775807; omega)] at k
  exact lv_lrem F.exec F.code hd (mh_ne0l hy h0) k
def mh_cmp (x y : Int) : Int := if y < x then 1 else if x = y then 0 else -1
theorem mh_cmp_eq {x y : Int} (hx : -9223372036854775808 ≤ x ∧ x < 9223372036854775808) (hy : -9223372036854775808 ≤ y ∧ y < 9223372036854775808) : lg_cmp (Int64.ofInt x) (Int64.ofInt y) = Int32.ofInt (mh_cmp x y) := by
  unfold lg_cmp mh_cmp
  have e1 : (Int64.ofInt x > Int64.ofInt y) ↔ y < x := by
    show Int64.ofInt y < Int64.ofInt x ↔ _
    rw [Int64.lt_iff_toInt_lt, Int64.toInt_ofInt_of_le hx.1 hx.2, Int64.toInt_ofInt_of_le hy.1 hy.2]
  have e2 : (Int64.ofInt x = Int64.ofInt y) ↔ x = y := by
    rw [← Int64.toInt_inj, Int64.toInt_ofInt_of_le hx.1 hx.2, Int64.toInt_ofInt_of_le hy.1 hy.2]
  by_cases c1 : y < x
  · rw [if_pos (e1.mpr c1), if_pos c1]; rfl
  · rw [if_neg (fun q => c1 (e1.mp q)), if_neg c1]
    by_cases c2 : x = y
    · rw [if_pos (e2.mpr c2), if_pos c2]; rfl
    · rw [if_neg (fun q => c2 (e2.mp q)), if_neg c2]; rfl
theorem mh_lcmp (F : mh_Fr g f own cc nL d)  {x y : Int} (hd : decode cc pc = .ok (.lcmp, 1)) (hx : -9223372036854775808 ≤ x ∧ x < 9223372036854775808) (hy : -9223372036854775808 ≤ y ∧ y < 9223372036854775808) (k : mh_V g f nL n cl sl (pc + 1) loc (.int (Int32.ofInt (mh_cmp x y)) :: st) h) : mh_V g f nL n cl sl pc loc (.long (Int64.ofInt y) :: .long (Int64.ofInt x) :: st) h := by
  intro H locs ls h1 h2 h3
  have k := k H locs ls h1 h2 h3
  rw [← mh_cmp_eq hx hy] at k
  exact W.lcmp F.exec F.code hd k
def mh_land (x y : Int) : Int := (Int64.ofInt x &&& Int64.ofInt y).toInt
def mh_lor (x y : Int) : Int := (Int64.ofInt x ||| Int64.ofInt y).toInt
def mh_lshl (x y : Int) : Int := (Int64.ofInt x <<< ((Int32.ofInt y).toInt64 &&& 63)).toInt
def mh_lshr (x y : Int) : Int := (Int64.ofInt x >>> ((Int32.ofInt y).toInt64 &&& 63)).toInt
def mh_lushr (x y : Int) : Int := (((Int64.ofInt x).toUInt64 >>> ((Int32.ofInt y).toInt64.toUInt64 &&& Int64.toUInt64 63)).toInt64).toInt
theorem mh_rland (F : mh_Fr g f own cc nL d)  {x y : Int} (hd : decode cc pc = .ok (.land, 1)) (k : mh_V g f nL n cl sl (pc + 1) loc (.long (Int64.ofInt (mh_land x y)) :: st) h) : mh_V g f nL n cl sl pc loc (.long (Int64.ofInt y) :: .long (Int64.ofInt x) :: st) h := by
  intro H locs ls h1 h2 h3
  have k := k H locs ls h1 h2 h3
  unfold mh_land at k
  rw [Int64.ofInt_toInt] at k
  exact lv_land F.exec F.code hd k
theorem mh_rlor (F : mh_Fr g f own cc nL d)  {x y : Int} (hd : decode cc pc = .ok (.lor, 1)) (k : mh_V g f nL n cl sl (pc + 1) loc (.long (Int64.ofInt (mh_lor x y)) :: st) h) : mh_V g f nL n cl sl pc loc (.long (Int64.ofInt y) :: .long (Int64.ofInt x) :: st) h := by
  intro H locs ls h1 h2 h3
  have k := k H locs ls h1 h2 h3
  unfold mh_lor at k
  rw [Int64.ofInt_toInt] at k
  exact lv_lor F.exec F.code hd k
theorem mh_rlshl (F : mh_Fr g f own cc nL d)  {x y : Int} (hd : decode cc pc = .ok (.lshl, 1)) (k : mh_V g f nL n cl sl (pc + 1) loc (.long (Int64.ofInt (mh_lshl x y)) :: st) h) : mh_V g f nL n cl sl pc loc (.int (Int32.ofInt y) :: .long (Int64.ofInt x) :: st) h := by
  intro H locs ls h1 h2 h3
  have k := k H locs ls h1 h2 h3
  unfold mh_lshl at k
  rw [Int64.ofInt_toInt] at k
  exact lv_lshl F.exec F.code hd rfl k
theorem mh_rlshr (F : mh_Fr g f own cc nL d)  {x y : Int} (hd : decode cc pc = .ok (.lshr, 1)) (k : mh_V g f nL n cl sl (pc + 1) loc (.long (Int64.ofInt (mh_lshr x y)) :: st) h) : mh_V g f nL n cl sl pc loc (.int (Int32.ofInt y) :: .long (Int64.ofInt x) :: st) h := by
  intro H locs ls h1 h2 h3
  have k := k H locs ls h1 h2 h3
  unfold mh_lshr at k
  rw [Int64.ofInt_toInt] at k
  exact lv_lshr F.exec F.code hd rfl k
theorem mh_rlushr (F : mh_Fr g f own cc nL d)  {x y : Int} (hd : decode cc pc = .ok (.lushr, 1)) (k : mh_V g f nL n cl sl (pc + 1) loc (.long (Int64.ofInt (mh_lushr x y)) :: st) h) : mh_V g f nL n cl sl pc loc (.int (Int32.ofInt y) :: .long (Int64.ofInt x) :: st) h := by
  intro H locs ls h1 h2 h3
  have k := k H locs ls h1 h2 h3
  unfold mh_lushr at k
  rw [Int64.ofInt_toInt] at k
  exact lv_lushr F.exec F.code hd rfl k
theorem mh_lt32 {x y : Int} (hx : -2147483648 ≤ x ∧ x < 2147483648) (hy : -2147483648 ≤ y ∧ y < 2147483648) : Int32.ofInt x < Int32.ofInt y ↔ x < y := by
  rw [Int32.lt_iff_toInt_lt, Int32.toInt_ofInt_of_le hx.1 hx.2, Int32.toInt_ofInt_of_le hy.1 hy.2]
theorem mh_le32 {x y : Int} (hx : -2147483648 ≤ x ∧ x < 2147483648) (hy : -2147483648 ≤ y ∧ y < 2147483648) : Int32.ofInt x ≤ Int32.ofInt y ↔ x ≤ y := by
  rw [Int32.le_iff_toInt_le, Int32.toInt_ofInt_of_le hx.1 hx.2, Int32.toInt_ofInt_of_le hy.1 hy.2]
theorem mh_eq32 {x y : Int} (hx : -2147483648 ≤ x ∧ x < 2147483648) (hy : -2147483648 ≤ y ∧ y < 2147483648) : Int32.ofInt x = Int32.ofInt y ↔ x = y := by
  rw [← Int32.toInt_inj, Int32.toInt_ofInt_of_le hx.1 hx.2, Int32.toInt_ofInt_of_le hy.1 hy.2]
theorem mh_R0 : -2147483648 ≤ (0 : Int) ∧ (0 : Int) < 2147483648 := by decide
theorem mh_icmp_eq (F : mh_Fr g f own cc nL d)  {x y off : Int} {tgt : Nat} (hd : decode cc pc = .ok (.if_icmp .eq off, 3)) (ht : (pc : Int) + off = (tgt : Int)) (hx : -2147483648 ≤ x ∧ x < 2147483648) (hy : -2147483648 ≤ y ∧ y < 2147483648) (kt : x = y → mh_V g f nL n cl sl tgt loc st h) (kf : ¬ (x = y) → mh_V g f nL n cl sl (pc + 3) loc st h) : mh_V g f nL n cl sl pc loc (.int (Int32.ofInt y) :: .int (Int32.ofInt x) :: st) h := fun H locs ls h1 h2 h3 => lv_icmp_eq F.exec F.code hd ht (fun q => kt ((mh_eq32 hx hy).mp q) H locs ls h1 h2 h3) (fun q => kf (fun z => q ((mh_eq32 hx hy).mpr z)) H locs ls h1 h2 h3)
theorem mh_if_eq (F : mh_Fr g f own cc nL d)  {x off : Int} {tgt : Nat} (hd : decode cc pc = .ok (.ifCond .eq off, 3)) (ht : (pc : Int) + off = (tgt : Int)) (hx : -2147483648 ≤ x ∧ x < 2147483648) (kt : x = 0 → mh_V g f nL n cl sl tgt loc st h) (kf : ¬ (x = 0) → mh_V g f nL n cl sl (pc + 3) loc st h) : mh_V g f nL n cl sl pc loc (.int (Int32.ofInt x) :: st) h := fun H locs ls h1 h2 h3 => lv_if_eq F.exec F.code hd ht (fun q => kt ((mh_eq32 hx mh_R0).mp q) H locs ls h1 h2 h3) (fun q => kf (fun z => q ((mh_eq32 hx mh_R0).mpr z)) H locs ls h1 h2 h3)
theorem mh_icmp_ne (F : mh_Fr g f own cc nL d)  {x y off : Int} {tgt : Nat} (hd : decode cc pc = .ok (.if_icmp .ne off, 3)) (ht : (pc : Int) + off = (tgt : Int)) (hx : -2147483648 ≤ x ∧ x < 2147483648) (hy : -2147483648 ≤ y ∧ y < 2147483648) (kt : x ≠ y → mh_V g f nL n cl sl tgt loc st h) (kf : x = y → mh_V g f nL n cl sl (pc + 3) loc st h) : mh_V g f nL n cl sl pc loc (.int (Int32.ofInt y) :: .int (Int32.ofInt x) :: st) h := fun H locs ls h1 h2 h3 => lv_icmp_ne F.exec F.code hd ht (fun q => kt ((not_congr (mh_eq32 hx hy)).mp q) H locs ls h1 h2 h3) (fun q => kf ((mh_eq32 hx hy).mp q) H locs ls h1 h2 h3)
theorem mh_if_ne (F : mh_Fr g f own cc nL d)  {x off : Int} {tgt : Nat} (hd : decode cc pc = .ok (.ifCond .ne off, 3)) (ht : (pc : Int) + off = (tgt : Int)) (hx : -2147483648 ≤ x ∧ x < 2147483648) (kt : x ≠ 0 → mh_V g f nL n cl sl tgt loc st h) (kf : x = 0 → mh_V g f nL n cl sl (pc + 3) loc st h) : mh_V g f nL n cl sl pc loc (.int (Int32.ofInt x) :: st) h := fun H locs ls h1 h2 h3 => lv_if_ne F.exec F.code hd ht (fun q => kt ((not_congr (mh_eq32 hx mh_R0)).mp q) H locs ls h1 h2 h3) (fun q => kf ((mh_eq32 hx mh_R0).mp q) H locs ls h1 h2 h3)
theorem mh_icmp_lt (F : mh_Fr g f own cc nL d)  {x y off : Int} {tgt : Nat} (hd : decode cc pc = .ok (.if_icmp .lt off, 3)) (ht : (pc : Int) + off = (tgt : Int)) (hx : -2147483648 ≤ x ∧ x < 2147483648) (hy : -2147483648 ≤ y ∧ y < 2147483648) (kt : x < y → mh_V g f nL n cl sl tgt loc st h) (kf : ¬ (x < y) → mh_V g f nL n cl sl (pc + 3) loc st h) : mh_V g f nL n cl sl pc loc (.int (Int32.ofInt y) :: .int (Int32.ofInt x) :: st) h := fun H locs ls h1 h2 h3 => lv_icmp_lt F.exec F.code hd ht (fun q => kt ((mh_lt32 hx hy).mp q) H locs ls h1 h2 h3) (fun q => kf (fun z => q ((mh_lt32 hx hy).mpr z)) H locs ls h1 h2 h3)
theorem mh_if_lt (F : mh_Fr g f own cc nL d)  {x off : Int} {tgt : Nat} (hd : decode cc pc = .ok (.ifCond .lt off, 3)) (ht : (pc : Int) + off = (tgt : Int)) (hx : -2147483648 ≤ x ∧ x < 2147483648) (kt : x < 0 → mh_V g f nL n cl sl tgt loc st h) (kf : ¬ (x < 0) → mh_V g f nL n cl sl (pc + 3) loc st h) : mh_V g f nL n cl sl pc loc (.int (Int32.ofInt x) :: st) h := fun H locs ls h1 h2 h3 => lv_if_lt F.exec F.code hd ht (fun q => kt ((mh_lt32 hx mh_R0).mp q) H locs ls h1 h2 h3) (fun q => kf (fun z => q ((mh_lt32 hx mh_R0).mpr z)) H locs ls h1 h2 h3)
theorem mh_icmp_ge (F : mh_Fr g f own cc nL d)  {x y off : Int} {tgt : Nat} (hd : decode cc pc = .ok (.if_icmp .ge off, 3)) (ht : (pc : Int) + off = (tgt : Int)) (hx : -2147483648 ≤ x ∧ x < 2147483648) (hy : -2147483648 ≤ y ∧ y < 2147483648) (kt : y ≤ x → mh_V g f nL n cl sl tgt loc st h) (kf : ¬ (y ≤ x) → mh_V g f nL n cl sl (pc + 3) loc st h) : mh_V g f nL n cl sl pc loc (.int (Int32.ofInt y) :: .int (Int32.ofInt x) :: st) h := fun H locs ls h1 h2 h3 => lv_icmp_ge F.exec F.code hd ht (fun q => kt ((mh_le32 hy hx).mp q) H locs ls h1 h2 h3) (fun q => kf (fun z => q ((mh_le32 hy hx).mpr z)) H locs ls h1 h2 h3)
theorem mh_if_ge (F : mh_Fr g f own cc nL d)  {x off : Int} {tgt : Nat} (hd : decode cc pc = .ok (.ifCond .ge off, 3)) (ht : (pc : Int) + off = (tgt : Int)) (hx : -2147483648 ≤ x ∧ x < 2147483648) (kt : 0 ≤ x → mh_V g f nL n cl sl tgt loc st h) (kf : ¬ (0 ≤ x) → mh_V g f nL n cl sl (pc + 3) loc st h) : mh_V g f nL n cl sl pc loc (.int (Int32.ofInt x) :: st) h := fun H locs ls h1 h2 h3 => lv_if_ge F.exec F.code hd ht (fun q => kt ((mh_le32 mh_R0 hx).mp q) H locs ls h1 h2 h3) (fun q => kf (fun z => q ((mh_le32 mh_R0 hx).mpr z)) H locs ls h1 h2 h3)
theorem mh_icmp_gt (F : mh_Fr g f own cc nL d)  {x y off : Int} {tgt : Nat} (hd : decode cc pc = .ok (.if_icmp .gt off, 3)) (ht : (pc : Int) + off = (tgt : Int)) (hx : -2147483648 ≤ x ∧ x < 2147483648) (hy : -2147483648 ≤ y ∧ y < 2147483648) (kt : y < x → mh_V g f nL n cl sl tgt loc st h) (kf : ¬ (y < x) → mh_V g f nL n cl sl (pc + 3) loc st h) : mh_V g f nL n cl sl pc loc (.int (Int32.ofInt y) :: .int (Int32.ofInt x) :: st) h := fun H locs ls h1 h2 h3 => lv_icmp_gt F.exec F.code hd ht (fun q => kt ((mh_lt32 hy hx).mp q) H locs ls h1 h2 h3) (fun q => kf (fun z => q ((mh_lt32 hy hx).mpr z)) H locs ls h1 h2 h3)
theorem mh_if_gt (F : mh_Fr g f own cc nL d)  {x off : Int} {tgt : Nat} (hd : decode cc pc = .ok (.ifCond .gt off, 3)) (ht : (pc : Int) + off = (tgt : Int)) (hx : -2147483648 ≤ x ∧ x < 2147483648) (kt : 0 < x → mh_V g f nL n cl sl tgt loc st h) (kf : ¬ (0 < x) → mh_V g f nL n cl sl (pc + 3) loc st h) : mh_V g f nL n cl sl pc loc (.int (Int32.ofInt x) :: st) h := fun H locs ls h1 h2 h3 => lv_if_gt F.exec F.code hd ht (fun q => kt ((mh_lt32 mh_R0 hx).mp q) H locs ls h1 h2 h3) (fun q => kf (fun z => q ((mh_lt32 mh_R0 hx).mpr z)) H locs ls h1 h2 h3)
theorem mh_icmp_le (F : mh_Fr g f own cc nL d)  {x y off : Int} {tgt : Nat} (hd : decode cc pc = .ok (.if_icmp .le off, 3)) (ht : (pc : Int) + off = (tgt : Int)) (hx : -2147483648 ≤ x ∧ x < 2147483648) (hy : -2147483648 ≤ y ∧ y < 2147483648) (kt : x ≤ y → mh_V g f nL n cl sl tgt loc st h) (kf : ¬ (x ≤ y) → mh_V g f nL n cl sl (pc + 3) loc st h) : mh_V g f nL n cl sl pc loc (.int (Int32.ofInt y) :: .int (Int32.ofInt x) :: st) h := fun H locs ls h1 h2 h3 => lv_icmp_le F.exec F.code hd ht (fun q => kt ((mh_le32 hx hy).mp q) H locs ls h1 h2 h3) (fun q => kf (fun z => q ((mh_le32 hx hy).mpr z)) H locs ls h1 h2 h3)
theorem mh_if_le (F : mh_Fr g f own cc nL d)  {x off : Int} {tgt : Nat} (hd : decode cc pc = .ok (.ifCond .le off, 3)) (ht : (pc : Int) + off = (tgt : Int)) (hx : -2147483648 ≤ x ∧ x < 2147483648) (kt : x ≤ 0 → mh_V g f nL n cl sl tgt loc st h) (kf : ¬ (x ≤ 0) → mh_V g f nL n cl sl (pc + 3) loc st h) : mh_V g f nL n cl sl pc loc (.int (Int32.ofInt x) :: st) h := fun H locs ls h1 h2 h3 => lv_if_le F.exec F.code hd ht (fun q => kt ((mh_le32 hx mh_R0).mp q) H locs ls h1 h2 h3) (fun q => kf (fun z => q ((mh_le32 hx mh_R0).mpr z)) H locs ls h1 h2 h3)
theorem mh_goto (F : mh_Fr g f own cc nL d)  {off : Int} {tgt : Nat} (hd : decode cc pc = .ok (.goto off, 3)) (ht : (pc : Int) + off = (tgt : Int)) (k : mh_V g f nL n cl sl tgt loc st h) : mh_V g f nL n cl sl pc loc st h := fun H locs ls h1 h2 h3 => lv_goto F.exec F.code hd ht (k H locs ls h1 h2 h3)
theorem mh_tabIn (F : mh_Fr g f own cc nL d)  {x dflt lo hi off : Int} {offs : Array Int} {len tgt : Nat} (hd : decode cc pc = .ok (.tableswitch dflt lo hi offs, len)) (hx : -2147483648 ≤ x ∧ x < 2147483648) (hlo : lo ≤ x) (hhi : x ≤ hi) (ho : offs[(x - lo).toNat]? = some off) (ht : (pc : Int) + off = (tgt : Int)) (k : mh_V g f nL n cl sl tgt loc st h) : mh_V g f nL n cl sl pc loc (.int (Int32.ofInt x) :: st) h := fun H locs ls h1 h2 h3 => lv_tableIn F.exec F.code hd (by rw [Int32.toInt_ofInt_of_le hx.1 hx.2]; omega) (by rw [Int32.toInt_ofInt_of_le hx.1 hx.2]; omega) (by rw [Int32.toInt_ofInt_of_le hx.1 hx.2]; exact ho) ht (k H locs ls h1 h2 h3)
theorem mh_tabOut (F : mh_Fr g f own cc nL d)  {x dflt lo hi : Int} {offs : Array Int} {len tgt : Nat} (hd : decode cc pc = .ok (.tableswitch dflt lo hi offs, len)) (hx : -2147483648 ≤ x ∧ x < 2147483648) (hlo : x < lo ∨ hi < x) (ht : (pc : Int) + dflt = (tgt : Int)) (k : mh_V g f nL n cl sl tgt loc st h) : mh_V g f nL n cl sl pc loc (.int (Int32.ofInt x) :: st) h := fun H locs ls h1 h2 h3 => lv_tableOut F.exec F.code hd (by rw [Int32.toInt_ofInt_of_le hx.1 hx.2]; exact hlo) ht (k H locs ls h1 h2 h3)
theorem mh_lookup (F : mh_Fr g f own cc nL d)  {x dflt off : Int} {ps : Array (Int × Int)} {len tgt : Nat} (hd : decode cc pc = .ok (.lookupswitch dflt ps, len)) (hx : -2147483648 ≤ x ∧ x < 2147483648) (hp : (ps.toList.zip (ps.toList.drop 1)).all (fun (a, next) => a.1 < next.1) = true) (ho : Op.lookupswitch.offset ps.toList dflt x = off) (ht : (pc : Int) + off = (tgt : Int)) (k : mh_V g f nL n cl sl tgt loc st h) : mh_V g f nL n cl sl pc loc (.int (Int32.ofInt x) :: st) h := fun H locs ls h1 h2 h3 => lv_lookup F.exec F.code hd hp (by rw [Int32.toInt_ofInt_of_le hx.1 hx.2]; exact ho) ht (k H locs ls h1 h2 h3)
theorem mh_topi {x : Int} (k : ∀ y : Int, y = x → mh_V g f nL n cl sl pc loc (.int (Int32.ofInt y) :: st) h) : mh_V g f nL n cl sl pc loc (.int (Int32.ofInt x) :: st) h := k x rfl
theorem mh_nmh (k : ∀ h2 : Nat → Int → Int, h2 = h → mh_V g f nL n cl sl pc loc st h2) : mh_V g f nL n cl sl pc loc st h := k h rfl
theorem mh_top {x y : Int} (e : Int32.ofInt x = Int32.ofInt y) (k : mh_V g f nL n cl sl pc loc (.int (Int32.ofInt y) :: st) h) : mh_V g f nL n cl sl pc loc (.int (Int32.ofInt x) :: st) h := by rw [e]; exact k
theorem mh_topl {x y : Int} (e : Int64.ofInt x = Int64.ofInt y) (k : mh_V g f nL n cl sl pc loc (.long (Int64.ofInt y) :: st) h) : mh_V g f nL n cl sl pc loc (.long (Int64.ofInt x) :: st) h := by rw [e]; exact k
end
