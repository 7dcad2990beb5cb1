/-! System.arraycopy -/
def mh_cpH (h : Nat → Int → Int) (a0 a1 : Nat) (sp dp n : Int) : Nat → Int → Int := fun x j => if x = a1 ∧ dp ≤ j ∧ j < dp + n then h a0 (sp + (j - dp)) else h x j
theorem mh_cpH_row {h : Nat → Int → Int} {a0 a1 b : Nat} {sp dp n : Int} (q : b ≠ a1) : mh_cpH h a0 a1 sp dp n b = h b := by
  funext j; unfold mh_cpH; rw [if_neg (fun z => q z.1)]
def mh_cpR (u v : Int → Int) (sp dp n : Int) : Int → Int := fun j => if dp ≤ j ∧ j < dp + n then u (sp + (j - dp)) else v j
theorem mh_cpH_rs {h : Nat → Int → Int} {a0 a1 : Nat} {sp dp n : Int} : mh_cpH h a0 a1 sp dp n a1 = mh_cpR (h a0) (h a1) sp dp n := by
  funext j; unfold mh_cpH mh_cpR; simp
section
variable {g : mh_G} {f : mh_F} {own : String} {cc : ByteArray} {nL d n cl sl pc : Nat} {loc : List (Option Value)} {st : List Value} {h : Nat → Int → Int}
theorem mh_copy (F : mh_Fr g f own cc nL d) (hd1 : 1 ≤ d) {ix a0 a1 t n0 n1 : Nat} {sp dp m : Int} (hs0 : mh_sh a0 = .inr (t, n0)) (hs1 : mh_sh a1 = .inr (t, n1)) (ha0 : a0 < n) (ha1 : a1 < n) (ht : t < 3)
    (hl : Cond.methodLink own ix arraycopyName ∈ mh_WT) (hnat : Cond.native arraycopyName ∈ mh_WT) (hstat : Cond.static arraycopyName ∈ mh_WT) (hini : Cond.initialized "java/lang/System" ∈ mh_WT)
    (h0 : 0 ≤ sp) (h0d : 0 ≤ dp) (h0n : 0 ≤ m) (hb0 : sp + m ≤ n0) (hb1 : dp + m ≤ n1) (hfit : ∀ i, sp ≤ i → i < sp + m → fits (mh_ty t) (.int (Int32.ofInt (h a0 i))) = true)
    (hd : decode cc pc = .ok (.invokestatic ix, 3)) (h8 : (st.map fun v => v.category).sum ≤ 8) (k : mh_V g f nL n cl sl (pc + 3) loc st (mh_cpH h a0 a1 sp dp m)) :
    mh_V g f nL n cl sl pc loc (.int (Int32.ofInt m) :: .int (Int32.ofInt dp) :: .ref a1 :: .int (Int32.ofInt sp) :: .ref a0 :: st) h := by
  intro H locs ls h1 h2 h3 T hT X
  have hl0 := (mh_sh_len hs0).1
  have hl1 := (mh_sh_len hs1).1
  have ev : ∀ x : Int, mh_ev g t x = .int (Int32.ofInt x) := fun x => if_pos ht
  have hc0 : H[mh_b g + a0]? = some (arrV (mh_ct g t) n0 (fun j => .int (Int32.ofInt (h a0 (j : Int))))) := by
    have q := mh_at_arr hs0 h1 ha0
    simp only [ev] at q; exact q
  have hc1 : H[mh_b g + a1]? = some (arrV (mh_ct g t) n1 (fun j => .int (Int32.ofInt (h a1 (j : Int))))) := by
    have q := mh_at_arr hs1 h1 ha1
    simp only [ev] at q; exact q
  have hA := (mh_arrOf F.kk (show t < 7 by omega)).1
  obtain ⟨-, k0, hk0, cm0, hkk0⟩ := hA n0 (fun j => .int (Int32.ofInt (h a0 (j : Int))))
  obtain ⟨-, k1, hk1, cm1, hkk1⟩ := hA n1 (fun j => .int (Int32.ofInt (h a1 (j : Int))))
  have cn : ∀ {x : Int}, 0 ≤ x → x < 2147483648 → (Int32.ofInt x).toNatClampNeg = x.toNat := fun a b => mh_clamp a b
  have nn : ∀ {x : Int}, 0 ≤ x → x < 2147483648 → ¬ Int32.ofInt x < 0 := fun {x} a b => by
    rw [show (0 : Int32) = Int32.ofInt 0 from rfl, mh_lt32 (by omega) (by decide)]; omega
  have tn : ∀ {x : Int}, 0 ≤ x → x < 2147483648 → (Int32.ofInt x).toInt = x := fun a b => Int32.toInt_ofInt_of_le (by omega) (by omega)
  have hrp : refKind (mh_ty t) = false := by
    match t, ht with
    | 0, _ => rfl
    | 1, _ => rfl
    | 2, _ => rfl
  have W1 : ∀ w ∈ mh_WT, w.before (mh_g f) (mh_s f) = true := F.wt
  have ea0 := mh_ad_lt h1 ha0
  have ea1 := mh_ad_lt h1 ha1
  obtain ⟨vm', X', step⟩ := X.arraycopy F.exec F.own (W1 _ hl) (W1 _ hnat) (W1 _ hstat) (W1 _ hini) (src := mh_b g + a0) (dst := mh_b g + a1) (cs := arrV (mh_ct g t) n0 (fun j => .int (Int32.ofInt (h a0 (j : Int))))) (cd := arrV (mh_ct g t) n1 (fun j => .int (Int32.ofInt (h a1 (j : Int))))) (srcPos := Int32.ofInt sp) (destPos := Int32.ofInt dp) (n := Int32.ofInt m) (by rw [hT]; exact hc0) (by rw [hT]; exact hc1)
    (fun _ q => by cases q) (fun _ q => by cases q) (fun q => by cases q) (fun q => by cases q) hk0 hk1 hkk0 hkk1 (by simp [hrp]) (nn h0 (by omega)) (nn h0d (by omega)) (nn h0n (by omega))
    (by rw [tn h0 (by omega), tn h0n (by omega), arrV_size]; omega)
    (by rw [tn h0d (by omega), tn h0n (by omega), arrV_size]; omega)
    (fun vm₁ _ i hi => by
      rw [cn h0n (by omega)] at hi
      have e : (arrV (mh_ct g t) n0 (fun j => .int (Int32.ofInt (h a0 (j : Int))))).slots.getD ((Int32.ofInt sp).toNatClampNeg + i) .null = .int (Int32.ofInt (h a0 (sp + (i : Int)))) := by
        rw [cn h0 (by omega), Array.getD_eq_getD_getElem?, arrV_read _ _ (by omega), show ((sp.toNat + i : Nat) : Int) = sp + (i : Int) by omega]
        rfl
      rw [e]
      exact ⟨hfit _ (by omega) (by omega), trivial⟩)
    (g := F0 (mh_m f) pc ls (.int (Int32.ofInt m) :: .int (Int32.ofInt dp) :: .ref (mh_b g + a1) :: .int (Int32.ofInt sp) :: .ref (mh_b g + a0) :: st.map (mh_tr g))) rfl (by show ls.size = _; rw [h3.1, F.maxL]) (rest := st.map (mh_tr g)) rfl (by rw [F.code]; exact hd) (by have := F.room.1; omega)
    (by
      have e9 : (st.map (mh_tr g)).map (fun v => v.category) = st.map (fun v => v.category) := by
        rw [List.map_map]; exact List.map_congr_left (fun v _ => mh_trc g v)
      have e8 : nativeFrameWords "java/lang/System" "arraycopy" 5 = 7 := by decide +kernel
      have e7 := F.room.2
      show 2 * 0 + _ + _ ≤ _
      rw [e9, e8]; omega)
  have e1 : copied (arrV (mh_ct g t) n0 (fun j => .int (Int32.ofInt (h a0 (j : Int))))) (arrV (mh_ct g t) n1 (fun j => .int (Int32.ofInt (h a1 (j : Int))))) (Int32.ofInt sp) (Int32.ofInt dp) (Int32.ofInt m) = arrV (mh_ct g t) n1 (fun j => .int (va_cpy (fun j : Nat => Int32.ofInt (h a0 (j : Int))) (fun j : Nat => Int32.ofInt (h a1 (j : Int))) (Int32.ofInt sp).toNatClampNeg (Int32.ofInt dp).toNatClampNeg (Int32.ofInt m).toNatClampNeg j)) := va_copied (fun z => .int z) (mh_ct g t) (mh_ct g t) _ _ (by rw [cn h0 (by omega), cn h0n (by omega)]; omega)
  rw [e1] at X' step
  have hlt : mh_b g + a1 < H.size := (Array.getElem?_eq_some_iff.mp hc1).1
  have hheap : ∀ c : Cell, ((T.setVm vm').setCell (mh_b g + a1) c).heap = H.setIfInBounds (mh_b g + a1) c := fun c => by rw [← hT]; rfl
  have oq : ∀ (c : Cell) (q : Nat), q ≠ mh_b g + a1 → (H.setIfInBounds (mh_b g + a1) c)[q]? = H[q]? := fun c q hq => by simp [Array.getElem?_setIfInBounds, Ne.symm hq]
  have osz : ∀ c : Cell, (H.setIfInBounds (mh_b g + a1) c).size = H.size := fun c => by simp
  have hat : ∀ (c : Cell), c = arrV (mh_ct g t) n1 (fun j => .int (va_cpy (fun j : Nat => Int32.ofInt (h a0 (j : Int))) (fun j : Nat => Int32.ofInt (h a1 (j : Int))) (Int32.ofInt sp).toNatClampNeg (Int32.ofInt dp).toNatClampNeg (Int32.ofInt m).toNatClampNeg j)) → mh_Wd g n (mh_cpH h a0 a1 sp dp m) (H.setIfInBounds (mh_b g + a1) c) := fun c hcell => by
    refine ⟨fun b hb => ?_, by rw [osz]; exact h1.2.1, fun q hq => ?_, h1.2.2.2⟩
    · by_cases z : b = a1
      · subst z
        unfold mh_at
        rw [hs1]
        show (H.setIfInBounds (mh_b g + b) c)[mh_b g + b]? = some (arrV (mh_ct g t) n1 (fun j => mh_ev g t (mh_cpH h a0 b sp dp m b (j : Int))))
        rw [Array.getElem?_setIfInBounds_self, if_pos hlt, hcell]
        congr 2
        funext j
        rw [ev, mh_cpH_rs, cn h0 (by omega), cn h0d (by omega), cn h0n (by omega)]
        unfold va_cpy mh_cpR
        by_cases y : dp.toNat ≤ j ∧ j < dp.toNat + m.toNat
        · rw [if_pos y, if_pos (by omega)]
          show Value.int (Int32.ofInt (h a0 ((sp.toNat + (j - dp.toNat) : Nat) : Int))) = _
          rw [show ((sp.toNat + (j - dp.toNat) : Nat) : Int) = sp + ((j : Int) - dp) by omega]
        · rw [if_neg y, if_neg (by omega)]
      · have q1 := h1.1 b hb
        unfold mh_at at q1 ⊢
        rw [mh_cpH_row z]
        split at q1
        · exact q1.kept (oq c _ (by omega))
        · rw [oq c _ (by omega)]; exact q1
    · rw [oq c q (by omega)]; exact h1.2.2.1 q hq
  have K := fun (L : List Loc) (hL : ∀ q ∈ L, q ∈ locs ∨ q.base = mh_b g + a1) => k (H.setIfInBounds (mh_b g + a1) (arrV (mh_ct g t) n1 (fun j => .int (va_cpy (fun j : Nat => Int32.ofInt (h a0 (j : Int))) (fun j : Nat => Int32.ofInt (h a1 (j : Int))) (Int32.ofInt sp).toNatClampNeg (Int32.ofInt dp).toNatClampNeg (Int32.ofInt m).toNatClampNeg j)))) L ls (hat _ rfl) ⟨by rw [osz]; exact h2.1, fun q g1 g2 => by
      rw [oq _ q (fun z => g2 (by show mh_b g ≤ q; omega))]
      exact h2.2.1 q g1 g2, fun q hq => by
      rcases hL q hq with y | y
      · exact h2.2.2 q y
      · rw [y]; show mh_b g ≤ mh_b g + a1; omega⟩ h3
  obtain ⟨t', b1, b2⟩ := K _ (fun q hq => by
    rcases List.mem_append.mp hq with y | y
    · exact Or.inl y
    · obtain ⟨z, -, hz⟩ := List.mem_map.mp y
      exact Or.inr (by rw [← hz])) _ (hheap _) X'
  refine ⟨t', ?_, b2⟩
  have := step t' b1
  rw [← ea0, ← ea1] at this
  exact this
end

theorem cw_nat : Cond.native arraycopyName ∈ mh_WT := List.mem_filter.mpr ⟨List.mem_append_right _ (List.mem_of_getElem? (i := 316) (by decide +kernel)), rfl⟩
theorem cw_stat : Cond.static arraycopyName ∈ mh_WT := tw_2_75
theorem cw_ini : Cond.initialized "java/lang/System" ∈ mh_WT := tw_1_18
theorem cw_RX9 : Cond.methodLink RX9 43 arraycopyName ∈ mh_WT := tw_2_74
theorem cw_RX11 : Cond.methodLink RX11 286 arraycopyName ∈ mh_WT := tw_5_61
theorem cw_RX10 : Cond.methodLink RX10 73 arraycopyName ∈ mh_WT := tw_5_79
