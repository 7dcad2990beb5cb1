/-! the heap's rows -/
theorem mh_up_eq (h : Nat → Int → Int) (a : Nat) (k v : Int) : mh_up h a k v a k = v := by simp [mh_up]
theorem mh_up_ne {h : Nat → Int → Int} {a b : Nat} {k j v : Int} (q : ¬ (b = a ∧ j = k)) : mh_up h a k v b j = h b j := by simp only [mh_up, if_neg q]
theorem mh_at_up {g : mh_G} {h : Nat → Int → Int} {a b : Nat} {k v : Int} {H H1 : Heap} (hab : b ≠ a) (hw : mh_at g h b H) (hq : H1[mh_b g + b]? = H[mh_b g + b]?) : mh_at g (mh_up h a k v) b H1 := by
  have e : ∀ j, mh_up h a k v b j = h b j := fun j => mh_up_ne (fun q => hab q.1)
  unfold mh_at at hw ⊢
  split at hw
  · simp only [e]
    exact hw.kept hq
  · simp only [e]
    rw [hq]; exact hw
theorem mh_Wd_up {g : mh_G} {n : Nat} {h : Nat → Int → Int} {a : Nat} {k v : Int} {H H1 : Heap} (hw : mh_Wd g n h H) (ha : a < n) (e1 : mh_at g (mh_up h a k v) a H1) (e2 : H1.size = H.size) (e3 : ∀ q, q ≠ mh_b g + a → H1[q]? = H[q]?) : mh_Wd g n (mh_up h a k v) H1 := by
  refine ⟨fun b hb => ?_, by rw [e2]; exact hw.2.1, fun q hq => ?_, hw.2.2.2⟩
  · by_cases c : b = a
    · rw [c]; exact e1
    · exact mh_at_up c (hw.1 b hb) (e3 _ (by omega))
  · rw [e3 q (by omega)]; exact hw.2.2.1 q hq
theorem mh_inWT : ∀ ci, ci < 13 → ∀ w ∈ u_ws (mh_C ci) (mh_T ci) (mh_N ci), w ∈ mh_WT := by decide +kernel
theorem mh_ft_ok : ∀ ci, ci < 13 → ∀ k, k < mh_N ci → parseFieldDescriptor (mh_T ci k).2.2.1 = some (mh_ft ci k) := by decide +kernel
theorem mh_nm_ok : ∀ ci, ci < 13 → ∀ a, a < mh_N ci → ∀ b, b < mh_N ci → a ≠ b → (mh_T ci a).2.1 ≠ (mh_T ci b).2.1 := by decide +kernel
/-- place z of class ci, of type ty, as own's entry ix names it -/
def mh_fw (own : String) (ix ci : Nat) (z : Int) (ty : FieldType) : Prop := ∃ k : Nat, (k : Int) = z ∧ k < mh_N ci ∧ Cond.fieldLink own ix (mh_T ci k).1 (mh_T ci k).2.1 (mh_T ci k).2.2.1 ∈ mh_WT ∧ mh_ft ci k = ty
/-- .. and not final; or final, and of own's -/
def mh_pw (own : String) (ix ci : Nat) (z : Int) (ty : FieldType) : Prop := ∃ k : Nat, (k : Int) = z ∧ k < mh_N ci ∧ Cond.fieldLink own ix (mh_T ci k).1 (mh_T ci k).2.1 (mh_T ci k).2.2.1 ∈ mh_WT ∧ mh_ft ci k = ty ∧ (mh_T ci k).2.2.2 = false
def mh_qw (own : String) (ix ci : Nat) (z : Int) (ty : FieldType) : Prop := ∃ k : Nat, (k : Int) = z ∧ k < mh_N ci ∧ Cond.fieldLink own ix (mh_T ci k).1 (mh_T ci k).2.1 (mh_T ci k).2.2.1 ∈ mh_WT ∧ mh_ft ci k = ty ∧ (mh_T ci k).2.2.2 = true ∧ (mh_T ci k).1 = own
theorem mh_ro_pos (g : mh_G) (b : Nat) : mh_ro g ((b : Int) + 1) = some (mh_ad g b) := by
  unfold mh_ro
  rw [if_neg (by omega), show ((b : Int) + 1).toNat - 1 = b by omega]
section
variable {g : mh_G} {f : mh_F} {own : String} {cc : ByteArray} {nL d n cl sl pc : Nat} {loc : List (Option Value)} {st : List Value} {h : Nat → Int → Int}
theorem mh_at_obj {a ci : Nat} {H : Heap} (hs : mh_sh a = .inl ci) (h1 : mh_Wd g n h H) (ha : a < n) : t_OB (mh_b g + a) ((mh_D g).1 ci) (mh_N ci) ((mh_D g).2 ci) H (fun k => mh_fv g (mh_ft ci k) (h a (k : Int))) := by
  have := h1.1 a ha
  unfold mh_at at this
  rw [hs] at this
  exact this
theorem mh_at_arr {a t len : Nat} {H : Heap} (hs : mh_sh a = .inr (t, len)) (h1 : mh_Wd g n h H) (ha : a < n) : H[mh_b g + a]? = some (arrV (mh_ct g t) len (fun j => mh_ev g t (h a (j : Int)))) := by
  have := h1.1 a ha
  unfold mh_at at this
  rw [hs] at this
  exact this
theorem mh_ad_lt {a : Nat} {H : Heap} (h1 : mh_Wd g n h H) (ha : a < n) : mh_ad g a = mh_b g + a := by
  have := h1.2.2.2
  unfold mh_ad
  rw [if_pos (by omega)]
theorem mh_getv (F : mh_Fr g f own cc nL d) {a ci ix : Nat} {z : Int} {ty : FieldType} (hs : mh_sh a = .inl ci) (ha : a < n) (hw : mh_fw own ix ci z ty) (hd : decode cc pc = .ok (.getfield ix, 3)) {v : Value} (hv : mh_fv g ty (h a z) = mh_tr g v) (k : mh_V g f nL n cl sl (pc + 3) loc (v :: st) h) : mh_V g f nL n cl sl pc loc (.ref a :: st) h := by
  intro H locs ls h1 h2 h3
  obtain ⟨i, rfl, hi, hl, rfl⟩ := hw
  have hci := mh_sh_ci hs
  have hob := mh_at_obj hs h1 ha
  show W _ _ _ _ _ _ _ _ _ _ _ _ _ _ _ (F0 _ _ _ (.ref (mh_ad g a) :: _))
  rw [mh_ad_lt h1 ha]
  refine va_get (D := mh_D g) (cl := vwCl) (ws := [(mh_b g + a, .inr (ci, (List.range (mh_N ci)).map (fun k => mh_fv g (mh_ft ci k) (h a (k : Int)))))]) F.exec F.code F.wt (mh_inWT ci hci) F.own F.kk.1 (fun x q hx => ?_) 0 rfl (mh_cl hci) i hi (F.wt _ hl) (fun _ h9 => h9) (v := mh_tr g v) ?_ hd (k H locs ls h1 h2 h3)
  · have hx0 : x < 1 := (List.getElem?_eq_some_iff.mp hx).1
    rw [show x = 0 by omega] at hx
    cases hx
    exact ⟨_, mh_cl hci, hob.to (fun k hk => by simp [vp_V, hk])⟩
  · simp [hi, hv]
theorem mh_geti (F : mh_Fr g f own cc nL d) {a ci ix : Nat} {z : Int} {ty : FieldType} (hs : mh_sh a = .inl ci) (ha : a < n) (hw : mh_fw own ix ci z ty) (hd : decode cc pc = .ok (.getfield ix, 3)) (hi : mh_ir ty = false) (k : mh_V g f nL n cl sl (pc + 3) loc (.int (Int32.ofInt (h a z)) :: st) h) : mh_V g f nL n cl sl pc loc (.ref a :: st) h :=
  mh_getv F hs ha hw hd (by simp [mh_fv, hi, mh_tr]) k
theorem mh_getr (F : mh_Fr g f own cc nL d) {a ci ix b : Nat} {z : Int} {ty : FieldType} (hs : mh_sh a = .inl ci) (ha : a < n) (hw : mh_fw own ix ci z ty) (hd : decode cc pc = .ok (.getfield ix, 3)) (hi : mh_ir ty = true) (hv : h a z = (b : Int) + 1) (k : mh_V g f nL n cl sl (pc + 3) loc (.ref b :: st) h) : mh_V g f nL n cl sl pc loc (.ref a :: st) h :=
  mh_getv F hs ha hw hd (by rw [hv]; simp [mh_fv, hi, mh_tr, mh_ro_pos, va_rf]) k
theorem mh_putv (F : mh_Fr g f own cc nL d) {a ci ix : Nat} {z x : Int} {ty : FieldType} (hs : mh_sh a = .inl ci) (ha : a < n) (hw : mh_pw own ix ci z ty) (hd : decode cc pc = .ok (.putfield ix, 3)) {v : Value} (hv : mh_tr g v = mh_fv g ty x) (hn : narrow ty (mh_fv g ty x) = mh_fv g ty x) (hf : fits ty (mh_fv g ty x) = true) (k : mh_V g f nL n cl sl (pc + 3) loc st (mh_up h a z x)) : mh_V g f nL n cl sl pc loc (v :: .ref a :: st) h := by
  intro H locs ls h1 h2 h3
  obtain ⟨i, rfl, hi, hl, rfl, hfin⟩ := hw
  have hci := mh_sh_ci hs
  obtain ⟨cell, q1, q2, q3, q4⟩ := mh_at_obj hs h1 ha
  have hKc := F.kk.1.1 ci _ (mh_cl hci)
  have hap := va_apart (own := own) F.wt (mh_inWT ci hci) (mh_ft ci) (mh_ft_ok ci hci) (mh_nm_ok ci hci) F.kk.1 (mh_cl hci)
  obtain ⟨hS, hfc, kC, hkC, hkind⟩ := hKc
  obtain ⟨cf, kf, fi, fd, hi2, hsl⟩ := hS i hi
  have hlay := F.wt _ (mh_inWT ci hci _ (u_in_lay hi))
  unfold u_lay at hlay
  rw [if_neg (by rw [hfin]; decide)] at hlay
  have hst := (u_facts hfc hkC (u_lays F.wt (mh_inWT ci hci) hi) hi2).1
  have h6 := u_store hfc hkC hkind hlay hi2 (mh_ft_ok ci hci i hi) hn hf
  show W _ _ _ _ _ _ _ _ _ _ _ _ _ _ _ (F0 _ _ _ (mh_tr g v :: .ref (mh_ad g a) :: _))
  rw [mh_ad_lt h1 ha, hv]
  refine W.putK F.exec F.code (f := fd) ⟨F.own, F.wt _ hl, ⟨_, _, _, hi2⟩, hst⟩ (by rw [q2]; exact h6) q1 q3 (by rw [hsl]; exact k2_hasslot (q4 i hi)) rfl rfl hd fun H' e1 e2 e3 => ?_
  rw [hsl] at e1 ⊢
  refine k H' _ ls (mh_Wd_up h1 ha ?_ e2 e3) (h2.put e2 e3 (Nat.le_add_right _ _)) h3
  unfold mh_at
  rw [hs]
  refine t_OB.to (V := updV (fun k => mh_fv g (mh_ft ci k) (h a (k : Int))) i (mh_fv g (mh_ft ci i) x)) ⟨_, e1, q2, q3, t_set q4 hap hi _⟩ (fun j _ => ?_)
  by_cases c : j = i
  · subst c; simp [updV, mh_up]
  · simp only [updV, if_neg c]
    rw [mh_up_ne (fun q => c (by have := q.2; omega))]
theorem mh_putF (F : mh_Fr g f own cc nL d) (hin : (mh_h f).name = "<init>") {a ci ix : Nat} {z x : Int} {ty : FieldType} (hs : mh_sh a = .inl ci) (ha : a < n) (hw : mh_qw own ix ci z ty) (hd : decode cc pc = .ok (.putfield ix, 3)) {v : Value} (hv : mh_tr g v = mh_fv g ty x) (hn : narrow ty (mh_fv g ty x) = mh_fv g ty x) (hf : fits ty (mh_fv g ty x) = true) (k : mh_V g f nL n cl sl (pc + 3) loc st (mh_up h a z x)) : mh_V g f nL n cl sl pc loc (v :: .ref a :: st) h := by
  intro H locs ls h1 h2 h3
  obtain ⟨i, rfl, hi, hl, rfl, hfin, hdecl⟩ := hw
  have hci := mh_sh_ci hs
  obtain ⟨cell, q1, q2, q3, q4⟩ := mh_at_obj hs h1 ha
  have hKc := F.kk.1.1 ci _ (mh_cl hci)
  have hap := va_apart (own := own) F.wt (mh_inWT ci hci) (mh_ft ci) (mh_ft_ok ci hci) (mh_nm_ok ci hci) F.kk.1 (mh_cl hci)
  obtain ⟨hS, hfc, kC, hkC, hkind⟩ := hKc
  obtain ⟨cf, kf, fi, fd, hi2, hsl⟩ := hS i hi
  have hlay := F.wt _ (mh_inWT ci hci _ (u_in_lay hi))
  unfold u_lay at hlay
  rw [if_pos hfin] at hlay
  have hst := (u_facts hfc hkC (u_lays F.wt (mh_inWT ci hci) hi) hi2).1
  have hcf : (mh_m f).cls = cf := by
    obtain ⟨_, _, c', _, _, _, -, -, hf', -, -, -, hown2, -⟩ := Cond.laysFinal_spec hlay
    have e1 : c' = cf := by have := hi2.symm.trans hf'; simp at this; exact this.1.symm
    rw [hdecl] at hown2
    rw [← e1]; exact Option.some.inj (F.own.symm.trans hown2)
  have h6 := u_fits hfc hkC hkind (Or.inr hlay) hi2 (mh_ft_ok ci hci i hi) hn hf
  show W _ _ _ _ _ _ _ _ _ _ _ _ _ _ _ (F0 _ _ _ (mh_tr g v :: .ref (mh_ad g a) :: _))
  rw [mh_ad_lt h1 ha, hv]
  refine W.putFinK F.exec F.code F.own (F.wt _ hl) hi2 hst hcf hin (by rw [q2]; exact h6) q1 q3 (by rw [hsl]; exact k2_hasslot (q4 i hi)) rfl rfl hd fun H' e1 e2 e3 => ?_
  rw [hsl] at e1 ⊢
  refine k H' _ ls (mh_Wd_up h1 ha ?_ e2 e3) (h2.put e2 e3 (Nat.le_add_right _ _)) h3
  unfold mh_at
  rw [hs]
  refine t_OB.to (V := updV (fun k => mh_fv g (mh_ft ci k) (h a (k : Int))) i (mh_fv g (mh_ft ci i) x)) ⟨_, e1, q2, q3, t_set q4 hap hi _⟩ (fun j _ => ?_)
  by_cases c : j = i
  · subst c; simp [updV, mh_up]
  · simp only [updV, if_neg c]
    rw [mh_up_ne (fun q => c (by have := q.2; omega))]
/-- a put of an int, of a truth, of a reference; of a final one in a constructor -/
theorem mh_puti (F : mh_Fr g f own cc nL d) {a ci ix : Nat} {z x : Int} (hs : mh_sh a = .inl ci) (ha : a < n) (hw : mh_pw own ix ci z .int) (hd : decode cc pc = .ok (.putfield ix, 3)) (k : mh_V g f nL n cl sl (pc + 3) loc st (mh_up h a z x)) : mh_V g f nL n cl sl pc loc (.int (Int32.ofInt x) :: .ref a :: st) h :=
  mh_putv F hs ha hw hd rfl rfl rfl k
theorem mh_putz (F : mh_Fr g f own cc nL d) {a ci ix : Nat} {z x : Int} (hs : mh_sh a = .inl ci) (ha : a < n) (hw : mh_pw own ix ci z .boolean) (hd : decode cc pc = .ok (.putfield ix, 3)) (hx : x = 0 ∨ x = 1) (k : mh_V g f nL n cl sl (pc + 3) loc st (mh_up h a z x)) : mh_V g f nL n cl sl pc loc (.int (Int32.ofInt x) :: .ref a :: st) h :=
  mh_putv F hs ha hw hd rfl (by rcases hx with rfl | rfl <;> rfl) (by rcases hx with rfl | rfl <;> rfl) k
theorem mh_putr (F : mh_Fr g f own cc nL d) {a ci ix b : Nat} {z : Int} {ty : FieldType} (hs : mh_sh a = .inl ci) (ha : a < n) (hw : mh_pw own ix ci z ty) (hd : decode cc pc = .ok (.putfield ix, 3)) (hi : mh_ir ty = true) (k : mh_V g f nL n cl sl (pc + 3) loc st (mh_up h a z ((b : Int) + 1))) : mh_V g f nL n cl sl pc loc (.ref b :: .ref a :: st) h := by
  refine mh_putv F hs ha hw hd (by simp [mh_fv, hi, mh_tr, mh_ro_pos, va_rf]) ?_ ?_ k
  · simp only [mh_fv, hi, mh_ro_pos, va_rf]
    cases ty <;> first | rfl | exact absurd hi Bool.false_ne_true
  · simp only [mh_fv, hi, mh_ro_pos, va_rf]
    cases ty <;> first | rfl | exact absurd hi Bool.false_ne_true
theorem mh_putFi (F : mh_Fr g f own cc nL d) (hin : (mh_h f).name = "<init>") {a ci ix : Nat} {z x : Int} (hs : mh_sh a = .inl ci) (ha : a < n) (hw : mh_qw own ix ci z .int) (hd : decode cc pc = .ok (.putfield ix, 3)) (k : mh_V g f nL n cl sl (pc + 3) loc st (mh_up h a z x)) : mh_V g f nL n cl sl pc loc (.int (Int32.ofInt x) :: .ref a :: st) h :=
  mh_putF F hin hs ha hw hd rfl rfl rfl k
theorem mh_putFr (F : mh_Fr g f own cc nL d) (hin : (mh_h f).name = "<init>") {a ci ix b : Nat} {z : Int} {ty : FieldType} (hs : mh_sh a = .inl ci) (ha : a < n) (hw : mh_qw own ix ci z ty) (hd : decode cc pc = .ok (.putfield ix, 3)) (hi : mh_ir ty = true) (k : mh_V g f nL n cl sl (pc + 3) loc st (mh_up h a z ((b : Int) + 1))) : mh_V g f nL n cl sl pc loc (.ref b :: .ref a :: st) h := by
  refine mh_putF F hin hs ha hw hd (by simp [mh_fv, hi, mh_tr, mh_ro_pos, va_rf]) ?_ ?_ k
  · simp only [mh_fv, hi, mh_ro_pos, va_rf]
    cases ty <;> first | rfl | exact absurd hi Bool.false_ne_true
  · simp only [mh_fv, hi, mh_ro_pos, va_rf]
    cases ty <;> first | rfl | exact absurd hi Bool.false_ne_true
/-- arrays -/
theorem mh_arrOf (hK : mh_K g (mh_s f)) {t : Nat} (ht : t < 7) : ArrOfT (mh_s f) (mh_ct g t) (mh_ty t) ∧ va_RA (mh_s f) (mh_ct g t) (mh_ty t) := by
  have : (mh_tys g)[t]? = some (mh_ct g t, mh_ty t) := by
    match t, ht with
    | 0, _ => rfl
    | 1, _ => rfl
    | 2, _ => rfl
    | 3, _ => rfl
    | 4, _ => rfl
    | 5, _ => rfl
    | 6, _ => rfl
    | n + 7, h => exact absurd h (by omega)
  exact hK.1.2 t _ this
theorem mh_alen (F : mh_Fr g f own cc nL d) {a t len : Nat} (hs : mh_sh a = .inr (t, len)) (ha : a < n) (hd : decode cc pc = .ok (.arraylength, 1)) (k : mh_V g f nL n cl sl (pc + 1) loc (.int (Int32.ofInt (len : Int)) :: st) h) : mh_V g f nL n cl sl pc loc (.ref a :: st) h := by
  intro H locs ls h1 h2 h3
  have hc := mh_at_arr hs h1 ha
  show W _ _ _ _ _ _ _ _ _ _ _ _ _ _ _ (F0 _ _ _ (.ref (mh_ad g a) :: _))
  rw [mh_ad_lt h1 ha]
  refine W.alen F.exec F.code hc ((mh_arrOf F.kk (mh_sh_len hs).2).1 _ _) (n := Int32.ofInt (len : Int)) ?_ rfl rfl hd (k H locs ls h1 h2 h3)
  rw [arrV_size]
  exact (Int32.ofInt_eq_ofNat).symm

theorem mh_iaload (F : mh_Fr g f own cc nL d) {a len : Nat} {i : Int} (hs : mh_sh a = .inr (0, len)) (ha : a < n) (hi : 0 ≤ i ∧ i < (len : Int)) (hd : decode cc pc = .ok (.iaload, 1)) (k : mh_V g f nL n cl sl (pc + 1) loc (.int (Int32.ofInt (h a i)) :: st) h) : mh_V g f nL n cl sl pc loc (.int (Int32.ofInt i) :: .ref a :: st) h := by
  intro H locs ls h1 h2 h3
  have hc := mh_at_arr hs h1 ha
  have hl := (mh_sh_len hs).1
  show W _ _ _ _ _ _ _ _ _ _ _ _ _ _ _ (F0 _ _ _ (.int (Int32.ofInt i) :: .ref (mh_ad g a) :: _))
  rw [mh_ad_lt h1 ha]
  refine W.iald F.exec F.code hc ((mh_arrOf F.kk (mh_sh_len hs).2).1 _ _) (fun q => by cases q) (by rw [arrV_size]; exact mh_in hi.1 hi.2 hl) (v := .int (Int32.ofInt (h a i))) ?_ rfl rfl hd (k H locs ls h1 h2 h3)
  rw [mh_clamp hi.1 (by omega), arrV_read _ _ (by omega)]
  simp [mh_ev, Int.toNat_of_nonneg hi.1]
theorem mh_baload (F : mh_Fr g f own cc nL d) {a len : Nat} {i : Int} (hs : mh_sh a = .inr (2, len)) (ha : a < n) (hi : 0 ≤ i ∧ i < (len : Int)) (hd : decode cc pc = .ok (.baload, 1)) (k : mh_V g f nL n cl sl (pc + 1) loc (.int (Int32.ofInt (h a i)) :: st) h) : mh_V g f nL n cl sl pc loc (.int (Int32.ofInt i) :: .ref a :: st) h := by
  intro H locs ls h1 h2 h3
  have hc := mh_at_arr hs h1 ha
  have hl := (mh_sh_len hs).1
  show W _ _ _ _ _ _ _ _ _ _ _ _ _ _ _ (F0 _ _ _ (.int (Int32.ofInt i) :: .ref (mh_ad g a) :: _))
  rw [mh_ad_lt h1 ha]
  refine W.bald F.exec F.code hc ((mh_arrOf F.kk (mh_sh_len hs).2).1 _ _) (fun q => by cases q) (by rw [arrV_size]; exact mh_in hi.1 hi.2 hl) (v := .int (Int32.ofInt (h a i))) ?_ rfl rfl hd (k H locs ls h1 h2 h3)
  rw [mh_clamp hi.1 (by omega), arrV_read _ _ (by omega)]
  simp [mh_ev, Int.toNat_of_nonneg hi.1]
theorem mh_zaload (F : mh_Fr g f own cc nL d) {a len : Nat} {i : Int} (hs : mh_sh a = .inr (1, len)) (ha : a < n) (hi : 0 ≤ i ∧ i < (len : Int)) (hd : decode cc pc = .ok (.baload, 1)) (k : mh_V g f nL n cl sl (pc + 1) loc (.int (Int32.ofInt (h a i)) :: st) h) : mh_V g f nL n cl sl pc loc (.int (Int32.ofInt i) :: .ref a :: st) h := by
  intro H locs ls h1 h2 h3
  have hc := mh_at_arr hs h1 ha
  have hl := (mh_sh_len hs).1
  show W _ _ _ _ _ _ _ _ _ _ _ _ _ _ _ (F0 _ _ _ (.int (Int32.ofInt i) :: .ref (mh_ad g a) :: _))
  rw [mh_ad_lt h1 ha]
  refine W.zald F.exec F.code hc ((mh_arrOf F.kk (mh_sh_len hs).2).1 _ _) (fun q => by cases q) (by rw [arrV_size]; exact mh_in hi.1 hi.2 hl) (v := .int (Int32.ofInt (h a i))) ?_ rfl rfl hd (k H locs ls h1 h2 h3)
  rw [mh_clamp hi.1 (by omega), arrV_read _ _ (by omega)]
  simp [mh_ev, Int.toNat_of_nonneg hi.1]
theorem mh_aaload (F : mh_Fr g f own cc nL d) {a t len b : Nat} {i : Int} (hs : mh_sh a = .inr (t, len)) (ht : ¬ t < 3 ∧ t ≠ 6) (ha : a < n) (hi : 0 ≤ i ∧ i < (len : Int)) (hd : decode cc pc = .ok (.aaload, 1)) (hv : h a i = (b : Int) + 1) (k : mh_V g f nL n cl sl (pc + 1) loc (.ref b :: st) h) : mh_V g f nL n cl sl pc loc (.int (Int32.ofInt i) :: .ref a :: st) h := by
  intro H locs ls h1 h2 h3
  have hc := mh_at_arr hs h1 ha
  have hl := (mh_sh_len hs).1
  show W _ _ _ _ _ _ _ _ _ _ _ _ _ _ _ (F0 _ _ _ (.int (Int32.ofInt i) :: .ref (mh_ad g a) :: _))
  rw [mh_ad_lt h1 ha]
  refine W.aald F.exec F.code hc ((mh_arrOf F.kk (mh_sh_len hs).2).1 _ _) ?_ (fun q => by cases q) (by rw [arrV_size]; exact mh_in hi.1 hi.2 hl) (v := .ref (mh_ad g b)) ?_ rfl rfl hd (k H locs ls h1 h2 h3)
  · have := (mh_sh_len hs).2
    match t, ht, this with
    | 3, _, _ => rfl
    | 4, _, _ => rfl
    | 5, _, _ => rfl
    | 0, h, _ => exact absurd (by decide) h.1
    | 1, h, _ => exact absurd (by decide) h.1
    | 2, h, _ => exact absurd (by decide) h.1
    | 6, h, _ => exact absurd rfl h.2
    | n + 7, _, h => exact absurd h (by omega)
  · rw [mh_clamp hi.1 (by omega), arrV_read _ _ (by omega)]
    simp [mh_ev, ht.1, ht.2, Int.toNat_of_nonneg hi.1, hv, mh_ro_pos, va_rf]
theorem mh_at_sto {a t len : Nat} {i x : Int} {H' : Heap} {v : Value} (hs : mh_sh a = .inr (t, len)) (hi : 0 ≤ i ∧ i < (len : Int)) (hv : v = mh_ev g t x) (e1 : H'[mh_b g + a]? = some ((arrV (mh_ct g t) len (fun j => mh_ev g t (h a (j : Int)))).setSlot (Int32.ofInt i).toNatClampNeg v)) : mh_at g (mh_up h a i x) a H' := by
  have hl := (mh_sh_len hs).1
  unfold mh_at
  rw [hs]
  show H'[mh_b g + a]? = some (arrV (mh_ct g t) len (fun j => mh_ev g t (mh_up h a i x a (j : Int))))
  rw [e1, mh_clamp hi.1 (by omega), arrV_store, hv]
  congr 2
  funext j
  by_cases c : j = i.toNat
  · subst c
    simp [updV, mh_up, Int.toNat_of_nonneg hi.1]
  · simp only [updV, if_neg c]
    rw [mh_up_ne (fun q => c (by have := q.2; omega))]
theorem mh_iastore (F : mh_Fr g f own cc nL d) {a len : Nat} {i x : Int} (hs : mh_sh a = .inr (0, len)) (ha : a < n) (hi : 0 ≤ i ∧ i < (len : Int)) (hd : decode cc pc = .ok (.iastore, 1)) (k : mh_V g f nL n cl sl (pc + 1) loc st (mh_up h a i x)) : mh_V g f nL n cl sl pc loc (.int (Int32.ofInt x) :: .int (Int32.ofInt i) :: .ref a :: st) h := by
  intro H locs ls h1 h2 h3
  have hc := mh_at_arr hs h1 ha
  have hl := (mh_sh_len hs).1
  show W _ _ _ _ _ _ _ _ _ _ _ _ _ _ _ (F0 _ _ _ (.int (Int32.ofInt x) :: .int (Int32.ofInt i) :: .ref (mh_ad g a) :: _))
  rw [mh_ad_lt h1 ha]
  refine W.iast F.exec F.code hc ((mh_arrOf F.kk (mh_sh_len hs).2).1 _ _) (fun q => by cases q) (by rw [arrV_size]; exact mh_in hi.1 hi.2 hl) rfl rfl hd fun H' e1 e2 e3 => ?_
  exact k H' _ ls (mh_Wd_up h1 ha (mh_at_sto hs hi rfl e1) e2 e3) (h2.put e2 e3 (Nat.le_add_right _ _)) h3
theorem mh_nar8 {x : Int} (hx : -128 ≤ x ∧ x < 128) : narrow .byte (.int (Int32.ofInt x)) = .int (Int32.ofInt x) := by
  show Value.int _ = Value.int _
  congr 1
  have e : (Int32.ofInt x).toInt8.toInt = x := by
    rw [Int32.toInt_toInt8, Int32.toInt_ofInt_of_le (by omega) (by omega)]
    exact Int.bmod_eq_of_le (by simp [Int8.size]; omega) (by simp [Int8.size]; omega)
  rw [← Int32.toInt_inj]
  simp only [Int8.toInt_toInt32, e]
  rw [Int32.toInt_ofInt_of_le (by omega) (by omega)]
theorem mh_bastore (F : mh_Fr g f own cc nL d) {a len : Nat} {i x : Int} (hs : mh_sh a = .inr (2, len)) (ha : a < n) (hi : 0 ≤ i ∧ i < (len : Int)) (hd : decode cc pc = .ok (.bastore, 1)) (hx : -128 ≤ x ∧ x < 128) (k : mh_V g f nL n cl sl (pc + 1) loc st (mh_up h a i x)) : mh_V g f nL n cl sl pc loc (.int (Int32.ofInt x) :: .int (Int32.ofInt i) :: .ref a :: st) h := by
  intro H locs ls h1 h2 h3
  have hc := mh_at_arr hs h1 ha
  have hl := (mh_sh_len hs).1
  show W _ _ _ _ _ _ _ _ _ _ _ _ _ _ _ (F0 _ _ _ (.int (Int32.ofInt x) :: .int (Int32.ofInt i) :: .ref (mh_ad g a) :: _))
  rw [mh_ad_lt h1 ha]
  refine W.bast F.exec F.code hc ((mh_arrOf F.kk (mh_sh_len hs).2).1 _ _) (fun q => by cases q) (by rw [arrV_size]; exact mh_in hi.1 hi.2 hl) rfl rfl hd fun H' e1 e2 e3 => ?_
  exact k H' _ ls (mh_Wd_up h1 ha (mh_at_sto hs hi (mh_nar8 hx) e1) e2 e3) (h2.put e2 e3 (Nat.le_add_right _ _)) h3
theorem mh_zastore (F : mh_Fr g f own cc nL d) {a len : Nat} {i x : Int} (hs : mh_sh a = .inr (1, len)) (ha : a < n) (hi : 0 ≤ i ∧ i < (len : Int)) (hd : decode cc pc = .ok (.bastore, 1)) (hx : x = 0 ∨ x = 1) (k : mh_V g f nL n cl sl (pc + 1) loc st (mh_up h a i x)) : mh_V g f nL n cl sl pc loc (.int (Int32.ofInt x) :: .int (Int32.ofInt i) :: .ref a :: st) h := by
  intro H locs ls h1 h2 h3
  have hc := mh_at_arr hs h1 ha
  have hl := (mh_sh_len hs).1
  show W _ _ _ _ _ _ _ _ _ _ _ _ _ _ _ (F0 _ _ _ (.int (Int32.ofInt x) :: .int (Int32.ofInt i) :: .ref (mh_ad g a) :: _))
  rw [mh_ad_lt h1 ha]
  refine W.zast F.exec F.code hc ((mh_arrOf F.kk (mh_sh_len hs).2).1 _ _) (fun q => by cases q) (by rw [arrV_size]; exact mh_in hi.1 hi.2 hl) rfl rfl hd fun H' e1 e2 e3 => ?_
  exact k H' _ ls (mh_Wd_up h1 ha (mh_at_sto hs hi (by rcases hx with rfl | rfl <;> rfl) e1) e2 e3) (h2.put e2 e3 (Nat.le_add_right _ _)) h3
theorem mh_laload (F : mh_Fr g f own cc nL d) {a len : Nat} {i : Int} (hs : mh_sh a = .inr (6, len)) (ha : a < n) (hi : 0 ≤ i ∧ i < (len : Int)) (hd : decode cc pc = .ok (.laload, 1)) (k : mh_V g f nL n cl sl (pc + 1) loc (.long (Int64.ofInt (h a i)) :: st) h) : mh_V g f nL n cl sl pc loc (.int (Int32.ofInt i) :: .ref a :: st) h := by
  intro H locs ls h1 h2 h3
  have hc := mh_at_arr hs h1 ha
  have hl := (mh_sh_len hs).1
  show W _ _ _ _ _ _ _ _ _ _ _ _ _ _ _ (F0 _ _ _ (.int (Int32.ofInt i) :: .ref (mh_ad g a) :: _))
  rw [mh_ad_lt h1 ha]
  refine W.lald F.exec F.code hc ((mh_arrOf F.kk (mh_sh_len hs).2).1 _ _) (fun q => by cases q) (by rw [arrV_size]; exact mh_in hi.1 hi.2 hl) (v := .long (Int64.ofInt (h a i))) ?_ rfl rfl hd (k H locs ls h1 h2 h3)
  rw [mh_clamp hi.1 (by omega), arrV_read _ _ (by omega)]
  simp [mh_ev, Int.toNat_of_nonneg hi.1]
theorem mh_lastore (F : mh_Fr g f own cc nL d) {a len : Nat} {i x : Int} (hs : mh_sh a = .inr (6, len)) (ha : a < n) (hi : 0 ≤ i ∧ i < (len : Int)) (hd : decode cc pc = .ok (.lastore, 1)) (k : mh_V g f nL n cl sl (pc + 1) loc st (mh_up h a i x)) : mh_V g f nL n cl sl pc loc (.long (Int64.ofInt x) :: .int (Int32.ofInt i) :: .ref a :: st) h := by
  intro H locs ls h1 h2 h3
  have hc := mh_at_arr hs h1 ha
  have hl := (mh_sh_len hs).1
  show W _ _ _ _ _ _ _ _ _ _ _ _ _ _ _ (F0 _ _ _ (.long (Int64.ofInt x) :: .int (Int32.ofInt i) :: .ref (mh_ad g a) :: _))
  rw [mh_ad_lt h1 ha]
  refine W.last F.exec F.code hc ((mh_arrOf F.kk (mh_sh_len hs).2).1 _ _) (fun q => by cases q) (by rw [arrV_size]; exact mh_in hi.1 hi.2 hl) rfl rfl hd fun H' e1 e2 e3 => ?_
  exact k H' _ ls (mh_Wd_up h1 ha (mh_at_sto hs hi rfl e1) e2 e3) (h2.put e2 e3 (Nat.le_add_right _ _)) h3
end
