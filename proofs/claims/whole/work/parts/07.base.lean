/-! the heap as ONE function: address (from the law's start on), place -> number; a reference to object b is the number b + 1, null is 0 -/
abbrev mh_G : Type := Launch × va_G × Nat × (Nat → Nat) × (Nat → ClassId) × Heap
def mh_l (g : mh_G) : Launch := g.1
def mh_D (g : mh_G) : va_G := g.2.1
def mh_b (g : mh_G) : Nat := g.2.2.1
def mh_sa (g : mh_G) : Nat → Nat := g.2.2.2.1
def mh_ct (g : mh_G) : Nat → ClassId := g.2.2.2.2.1
def mh_H0 (g : mh_G) : Heap := g.2.2.2.2.2
def mh_ad (g : mh_G) (k : Nat) : Nat := if k < 1000000 then mh_b g + k else mh_sa g (k - 1000000)
def mh_tr (g : mh_G) (v : Value) : Value := match v with
  | .ref a => .ref (mh_ad g a)
  | v => v
def mh_ro (g : mh_G) (x : Int) : Option Nat := if x ≤ 0 then none else some (mh_ad g (x.toNat - 1))
def mh_up (h : Nat → Int → Int) (a : Nat) (k v : Int) : Nat → Int → Int := fun x j => if x = a ∧ j = k then v else h x j
def mh_ty (t : Nat) : FieldType := match t with
  | 0 => .int
  | 1 => .boolean
  | 2 => .byte
  | 3 => .object "MilkHills$Kind"
  | 4 => .object "MilkHills$Churn"
  | 5 => .array .int
  | _ => .long
def mh_N (ci : Nat) : Nat := match ci with
  | 0 => 10
  | 1 => 1
  | 2 => 1
  | 3 => 1
  | 4 => 1
  | 5 => 1
  | 6 => 11
  | 7 => 1
  | 8 => 1
  | 9 => 10
  | 10 => 16
  | 11 => 11
  | 12 => 30
  | _ => 0
def mh_C (ci : Nat) : String := match ci with
  | 0 => RX0
  | 1 => RX1
  | 2 => RX2
  | 3 => RX3
  | 4 => RX4
  | 5 => RX5
  | 6 => RX6
  | 7 => RX7
  | 8 => RX8
  | 9 => RX9
  | 10 => RX10
  | 11 => RX11
  | 12 => RX12
  | _ => ""
def mh_T (ci : Nat) : u_T := match ci with
  | 0 => TX0
  | 1 => TX1
  | 2 => TX2
  | 3 => TX3
  | 4 => TX4
  | 5 => TX5
  | 6 => TX6
  | 7 => TX7
  | 8 => TX8
  | 9 => TX9
  | 10 => TX10
  | 11 => TX11
  | 12 => TX12
  | _ => TX0
def mh_ft (ci : Nat) : Nat → FieldType := match ci with
  | 0 => tyX0
  | 1 => tyX1
  | 2 => tyX2
  | 3 => tyX3
  | 4 => tyX4
  | 5 => tyX5
  | 6 => tyX6
  | 7 => tyX7
  | 8 => tyX8
  | 9 => tyX9
  | 10 => tyX10
  | 11 => tyX11
  | 12 => tyX12
  | _ => tyX0
def mh_ir (t : FieldType) : Bool := match t with
  | .object _ => true
  | .array _ => true
  | _ => false
def mh_fv (g : mh_G) (t : FieldType) (x : Int) : Value := if mh_ir t = true then va_rf (mh_ro g x) else .int (Int32.ofInt x)
def mh_ev (g : mh_G) (t : Nat) (x : Int) : Value := if t < 3 then .int (Int32.ofInt x) else if t = 6 then .long (Int64.ofInt x) else va_rf (mh_ro g x)
def mh_tys (g : mh_G) : List (ClassId × FieldType) := [(mh_ct g 0, mh_ty 0), (mh_ct g 1, mh_ty 1), (mh_ct g 2, mh_ty 2), (mh_ct g 3, mh_ty 3), (mh_ct g 4, mh_ty 4), (mh_ct g 5, mh_ty 5), (mh_ct g 6, mh_ty 6)]
def mh_shL : List (Nat ⊕ (Nat × Nat)) := [.inl 11, .inr (3, 7), .inl 3, .inl 2, .inl 4, .inl 1, .inl 7, .inl 8, .inl 5, .inr (4, 6), .inl 6, .inr (6, 6588), .inr (0, 549), .inr (1, 9), .inr (0, 4), .inr (0, 4), .inr (0, 41), .inr (5, 4), .inr (0, 40), .inr (0, 40), .inr (0, 40), .inr (0, 40), .inr (0, 4), .inr (0, 4), .inr (0, 6), .inl 10, .inr (0, 9), .inr (0, 9), .inr (0, 9), .inr (0, 4), .inr (0, 4), .inr (4, 6), .inr (2, 50), .inl 9, .inr (0, 50), .inr (0, 50), .inr (0, 50), .inr (2, 3), .inl 9, .inr (0, 50), .inr (0, 50), .inr (0, 50), .inr (2, 17), .inr (0, 20), .inl 0, .inl 0, .inl 0, .inl 0, .inl 0, .inl 0, .inl 10, .inr (0, 9), .inr (0, 9), .inr (0, 9), .inr (0, 4), .inr (0, 4), .inr (4, 6), .inr (2, 50), .inl 9, .inr (0, 50), .inr (0, 50), .inr (0, 50), .inr (2, 3), .inl 9, .inr (0, 50), .inr (0, 50), .inr (0, 50), .inr (2, 17), .inr (0, 20), .inl 0, .inl 0, .inl 0, .inl 0, .inl 0, .inl 0, .inl 0, .inl 0, .inl 0, .inl 0, .inl 0, .inl 0, .inl 12, .inr (0, 267), .inr (0, 267), .inr (0, 267), .inr (0, 6), .inr (0, 3), .inr (0, 50), .inr (0, 50), .inr (0, 36600), .inr (0, 549), .inr (0, 40), .inr (0, 4), .inr (0, 4), .inr (0, 160), .inr (0, 40)]
def mh_sh (a : Nat) : Nat ⊕ (Nat × Nat) := mh_shL.getD a (.inl 0)
theorem sh_0 : mh_sh 0 = .inl 11 := by decide +kernel
theorem sh_1 : mh_sh 1 = .inr (3, 7) := by decide +kernel
theorem sh_2 : mh_sh 2 = .inl 3 := by decide +kernel
theorem sh_3 : mh_sh 3 = .inl 2 := by decide +kernel
theorem sh_4 : mh_sh 4 = .inl 4 := by decide +kernel
theorem sh_5 : mh_sh 5 = .inl 1 := by decide +kernel
theorem sh_6 : mh_sh 6 = .inl 7 := by decide +kernel
theorem sh_7 : mh_sh 7 = .inl 8 := by decide +kernel
theorem sh_8 : mh_sh 8 = .inl 5 := by decide +kernel
theorem sh_9 : mh_sh 9 = .inr (4, 6) := by decide +kernel
theorem sh_10 : mh_sh 10 = .inl 6 := by decide +kernel
theorem sh_11 : mh_sh 11 = .inr (6, 6588) := by decide +kernel
theorem sh_12 : mh_sh 12 = .inr (0, 549) := by decide +kernel
theorem sh_13 : mh_sh 13 = .inr (1, 9) := by decide +kernel
theorem sh_14 : mh_sh 14 = .inr (0, 4) := by decide +kernel
theorem sh_15 : mh_sh 15 = .inr (0, 4) := by decide +kernel
theorem sh_16 : mh_sh 16 = .inr (0, 41) := by decide +kernel
theorem sh_17 : mh_sh 17 = .inr (5, 4) := by decide +kernel
theorem sh_18 : mh_sh 18 = .inr (0, 40) := by decide +kernel
theorem sh_19 : mh_sh 19 = .inr (0, 40) := by decide +kernel
theorem sh_20 : mh_sh 20 = .inr (0, 40) := by decide +kernel
theorem sh_21 : mh_sh 21 = .inr (0, 40) := by decide +kernel
theorem sh_22 : mh_sh 22 = .inr (0, 4) := by decide +kernel
theorem sh_23 : mh_sh 23 = .inr (0, 4) := by decide +kernel
theorem sh_24 : mh_sh 24 = .inr (0, 6) := by decide +kernel
theorem sh_25 : mh_sh 25 = .inl 10 := by decide +kernel
theorem sh_26 : mh_sh 26 = .inr (0, 9) := by decide +kernel
theorem sh_27 : mh_sh 27 = .inr (0, 9) := by decide +kernel
theorem sh_28 : mh_sh 28 = .inr (0, 9) := by decide +kernel
theorem sh_29 : mh_sh 29 = .inr (0, 4) := by decide +kernel
theorem sh_30 : mh_sh 30 = .inr (0, 4) := by decide +kernel
theorem sh_31 : mh_sh 31 = .inr (4, 6) := by decide +kernel
theorem sh_32 : mh_sh 32 = .inr (2, 50) := by decide +kernel
theorem sh_33 : mh_sh 33 = .inl 9 := by decide +kernel
theorem sh_34 : mh_sh 34 = .inr (0, 50) := by decide +kernel
theorem sh_35 : mh_sh 35 = .inr (0, 50) := by decide +kernel
theorem sh_36 : mh_sh 36 = .inr (0, 50) := by decide +kernel
theorem sh_37 : mh_sh 37 = .inr (2, 3) := by decide +kernel
theorem sh_38 : mh_sh 38 = .inl 9 := by decide +kernel
theorem sh_39 : mh_sh 39 = .inr (0, 50) := by decide +kernel
theorem sh_40 : mh_sh 40 = .inr (0, 50) := by decide +kernel
theorem sh_41 : mh_sh 41 = .inr (0, 50) := by decide +kernel
theorem sh_42 : mh_sh 42 = .inr (2, 17) := by decide +kernel
theorem sh_43 : mh_sh 43 = .inr (0, 20) := by decide +kernel
theorem sh_44 : mh_sh 44 = .inl 0 := by decide +kernel
theorem sh_45 : mh_sh 45 = .inl 0 := by decide +kernel
theorem sh_46 : mh_sh 46 = .inl 0 := by decide +kernel
theorem sh_47 : mh_sh 47 = .inl 0 := by decide +kernel
theorem sh_48 : mh_sh 48 = .inl 0 := by decide +kernel
theorem sh_49 : mh_sh 49 = .inl 0 := by decide +kernel
theorem sh_50 : mh_sh 50 = .inl 10 := by decide +kernel
theorem sh_51 : mh_sh 51 = .inr (0, 9) := by decide +kernel
theorem sh_52 : mh_sh 52 = .inr (0, 9) := by decide +kernel
theorem sh_53 : mh_sh 53 = .inr (0, 9) := by decide +kernel
theorem sh_54 : mh_sh 54 = .inr (0, 4) := by decide +kernel
theorem sh_55 : mh_sh 55 = .inr (0, 4) := by decide +kernel
theorem sh_56 : mh_sh 56 = .inr (4, 6) := by decide +kernel
theorem sh_57 : mh_sh 57 = .inr (2, 50) := by decide +kernel
theorem sh_58 : mh_sh 58 = .inl 9 := by decide +kernel
theorem sh_59 : mh_sh 59 = .inr (0, 50) := by decide +kernel
theorem sh_60 : mh_sh 60 = .inr (0, 50) := by decide +kernel
theorem sh_61 : mh_sh 61 = .inr (0, 50) := by decide +kernel
theorem sh_62 : mh_sh 62 = .inr (2, 3) := by decide +kernel
theorem sh_63 : mh_sh 63 = .inl 9 := by decide +kernel
theorem sh_64 : mh_sh 64 = .inr (0, 50) := by decide +kernel
theorem sh_65 : mh_sh 65 = .inr (0, 50) := by decide +kernel
theorem sh_66 : mh_sh 66 = .inr (0, 50) := by decide +kernel
theorem sh_67 : mh_sh 67 = .inr (2, 17) := by decide +kernel
theorem sh_68 : mh_sh 68 = .inr (0, 20) := by decide +kernel
theorem sh_69 : mh_sh 69 = .inl 0 := by decide +kernel
theorem sh_70 : mh_sh 70 = .inl 0 := by decide +kernel
theorem sh_71 : mh_sh 71 = .inl 0 := by decide +kernel
theorem sh_72 : mh_sh 72 = .inl 0 := by decide +kernel
theorem sh_73 : mh_sh 73 = .inl 0 := by decide +kernel
theorem sh_74 : mh_sh 74 = .inl 0 := by decide +kernel
theorem sh_75 : mh_sh 75 = .inl 0 := by decide +kernel
theorem sh_76 : mh_sh 76 = .inl 0 := by decide +kernel
theorem sh_77 : mh_sh 77 = .inl 0 := by decide +kernel
theorem sh_78 : mh_sh 78 = .inl 0 := by decide +kernel
theorem sh_79 : mh_sh 79 = .inl 0 := by decide +kernel
theorem sh_80 : mh_sh 80 = .inl 0 := by decide +kernel
theorem sh_81 : mh_sh 81 = .inl 12 := by decide +kernel
theorem sh_82 : mh_sh 82 = .inr (0, 267) := by decide +kernel
theorem sh_83 : mh_sh 83 = .inr (0, 267) := by decide +kernel
theorem sh_84 : mh_sh 84 = .inr (0, 267) := by decide +kernel
theorem sh_85 : mh_sh 85 = .inr (0, 6) := by decide +kernel
theorem sh_86 : mh_sh 86 = .inr (0, 3) := by decide +kernel
theorem sh_87 : mh_sh 87 = .inr (0, 50) := by decide +kernel
theorem sh_88 : mh_sh 88 = .inr (0, 50) := by decide +kernel
theorem sh_89 : mh_sh 89 = .inr (0, 36600) := by decide +kernel
theorem sh_90 : mh_sh 90 = .inr (0, 549) := by decide +kernel
theorem sh_91 : mh_sh 91 = .inr (0, 40) := by decide +kernel
theorem sh_92 : mh_sh 92 = .inr (0, 4) := by decide +kernel
theorem sh_93 : mh_sh 93 = .inr (0, 4) := by decide +kernel
theorem sh_94 : mh_sh 94 = .inr (0, 160) := by decide +kernel
theorem sh_95 : mh_sh 95 = .inr (0, 40) := by decide +kernel
theorem mh_shL_ok : ∀ x ∈ mh_shL, (match x with | .inl ci => decide (ci < 13) | .inr q => decide (q.2 ≤ 40000 ∧ q.1 < 7)) = true := by decide +kernel
theorem mh_sh_mem (a : Nat) : mh_sh a ∈ mh_shL ∨ mh_sh a = .inl 0 := by
  unfold mh_sh
  rw [List.getD_eq_getElem?_getD]
  cases e : mh_shL[a]? with
  | none => exact Or.inr rfl
  | some x => exact Or.inl (List.mem_of_getElem? e)

theorem mh_sh_len {a t len : Nat} (h : mh_sh a = .inr (t, len)) : len ≤ 40000 ∧ t < 7 := by
  rcases mh_sh_mem a with q | q
  · have := mh_shL_ok _ q
    rw [h] at this
    simpa using this
  · rw [h] at q; cases q
theorem mh_sh_ci {a ci : Nat} (h : mh_sh a = .inl ci) : ci < 13 := by
  rcases mh_sh_mem a with q | q
  · have := mh_shL_ok _ q
    rw [h] at this
    simpa using this
  · rw [h] at q; cases q; decide
theorem mh_cl {ci : Nat} (h : ci < 13) : vwCl[ci]? = some (mh_C ci, mh_T ci, mh_N ci) := by
  match ci, h with
  | 0, _ => rfl
  | 1, _ => rfl
  | 2, _ => rfl
  | 3, _ => rfl
  | 4, _ => rfl
  | 5, _ => rfl
  | 6, _ => rfl
  | 7, _ => rfl
  | 8, _ => rfl
  | 9, _ => rfl
  | 10, _ => rfl
  | 11, _ => rfl
  | 12, _ => rfl
  | n + 13, h => exact absurd h (by omega)
def mh_at (g : mh_G) (h : Nat → Int → Int) (a : Nat) (H : Heap) : Prop := match mh_sh a with
  | .inl ci => t_OB (mh_b g + a) ((mh_D g).1 ci) (mh_N ci) ((mh_D g).2 ci) H (fun k => mh_fv g (mh_ft ci k) (h a (k : Int)))
  | .inr x => H[mh_b g + a]? = some (arrV (mh_ct g x.1) x.2 (fun j => mh_ev g x.1 (h a (j : Int))))
/-- the world: n cells from the base on, the rest of the old heap as it was -/
def mh_Wd (g : mh_G) (n : Nat) (h : Nat → Int → Int) (H : Heap) : Prop := (∀ a, a < n → mh_at g h a H) ∧ H.size = mh_b g + n ∧ (∀ q, q < mh_b g → H[q]? = (mh_H0 g)[q]?) ∧ n ≤ 1000
def mh_isN (w : Cond) : Bool := match w with
  | .methodLinkNest _ _ _ _ => true
  | .castable _ _ => true
  | _ => false
def mh_NW : List Cond := lw_tbl.filter mh_isN
/-- the claim's literals, and the JDK's statics, in the heap at the start: places 0 .. 3 the texts, 4 .. 7 their bytes, 8 the formatter (if there is one) -/
def mh_sl : List Nat := [2, 3, 3, 17]
def mh_sb : List (List Int32) := [[116, 113], [115, 114, 109], [116, 47, 52], [40, 115, 61, 48, 41, 42, 53, 48, 43, 40, 115, 61, 49, 41, 42, 51, 48]]
def mh_SIO : String := "Ljava/util/function/BiFunction;"
def mh_SK (g : mh_G) (U : State) : Prop :=
  (vk_S 4 mh_sl mh_sb (mh_sa g) (fun i => mh_sa g (4 + i)) (fun q => mh_b g ≤ q) U (mh_H0 g) ∧ va_Z "java/lang/String" "COMPACT_STRINGS" "Z" (.int 1) (fun q => mh_b g ≤ q) U (mh_H0 g) ∧ (va_Z "jdk/internal/util/Preconditions" "SIOOBE_FORMATTER" mh_SIO .null (fun q => mh_b g ≤ q) U (mh_H0 g) ∨ va_Z "jdk/internal/util/Preconditions" "SIOOBE_FORMATTER" mh_SIO (.ref (mh_sa g 8)) (fun q => mh_b g ≤ q) U (mh_H0 g)) ∧ (mh_H0 g).size = mh_b g) ∧
  (vk_R "MilkHills$World" 39 "tq" (mh_sa g 0) U ∧ vk_R "MilkHills$World" 50 "srm" (mh_sa g 1) U ∧ vk_R "MilkHills$World" 41 "t/4" (mh_sa g 2) U ∧ vk_R "MilkHills$World" 52 "(s=0)*50+(s=1)*30" (mh_sa g 3) U)
theorem mh_SK.warm {g : mh_G} {s U : State} (hW : s.WarmedH U.vm) (h : mh_SK g s) : mh_SK g U :=
  ⟨⟨vk_S.moved hW.alike h.1.1, va_Z.moved hW.alike h.1.2.1, h.1.2.2.1.elim (fun z => Or.inl (va_Z.moved hW.alike z)) (fun z => Or.inr (va_Z.moved hW.alike z)), h.1.2.2.2⟩, vk_R.warm hW h.2.1, vk_R.warm hW h.2.2.1, vk_R.warm hW h.2.2.2.1, vk_R.warm hW h.2.2.2.2⟩
theorem mh_SK.same {g : mh_G} {s U : State} (hv : U.vm = s.vm) (hA : s.vm.Alike U.vm) (h : mh_SK g s) : mh_SK g U :=
  ⟨⟨vk_S.moved hA h.1.1, va_Z.moved hA h.1.2.1, h.1.2.2.1.elim (fun z => Or.inl (va_Z.moved hA z)) (fun z => Or.inr (va_Z.moved hA z)), h.1.2.2.2⟩, vk_R.same hv h.2.1, vk_R.same hv h.2.2.1, vk_R.same hv h.2.2.2.1, vk_R.same hv h.2.2.2.2⟩
/-- what holds of the tables, and stays -/
def mh_K (g : mh_G) (U : State) : Prop := va_K (mh_D g) vwCl (mh_tys g) U ∧ (∀ w ∈ mh_NW, va_Nw w U) ∧ va_AO "MilkHills$Kind" U ∧ va_AO "MilkHills$Churn" U ∧ mh_SK g U
theorem mh_NW_warm {s U : State} (hW : s.WarmedH U.vm) {w : Cond} (hw : mh_isN w = true) (h : va_Nw w s) : va_Nw w U := by
  cases w <;> first | exact va_Nw.warmM hW h | exact va_Nw.warmC hW h | exact absurd hw Bool.false_ne_true
theorem mh_NW_same {s U : State} (hv : s.vm = U.vm) {w : Cond} (hw : mh_isN w = true) (h : va_Nw w s) : va_Nw w U := by
  cases w <;> first | exact va_tabs rfl hv h | exact absurd hw Bool.false_ne_true
theorem mh_K.warm {g : mh_G} {s U : State} (hW : s.WarmedH U.vm) (h : mh_K g s) : mh_K g U :=
  ⟨va_K.moved hW.alike h.1, fun w hw => mh_NW_warm hW (List.mem_filter.mp hw).2 (h.2.1 w hw), va_AO.moved hW.alike h.2.2.1, va_AO.moved hW.alike h.2.2.2.1, mh_SK.warm hW h.2.2.2.2⟩
theorem mh_fits (v : Int32) : True := trivial
theorem mh_clamp {i : Int} (h0 : 0 ≤ i) (h1 : i < 2147483648) : (Int32.ofInt i).toNatClampNeg = i.toNat := by
  unfold Int32.toNatClampNeg
  rw [Int32.toInt_ofInt_of_le (by omega) (by omega)]
theorem mh_in {i : Int} {n : Nat} (h0 : 0 ≤ i) (h1 : i < n) (hn : n ≤ 40000) : ¬ (Int32.ofInt i < 0 ∨ n ≤ (Int32.ofInt i).toNatClampNeg) := by
  rw [mh_clamp h0 (by omega)]
  intro q
  rcases q with q | q
  · have := Int32.lt_iff_toInt_lt.mp q
    rw [Int32.toInt_ofInt_of_le (by omega) (by omega)] at this
    have h2 : (0 : Int32).toInt = 0 := rfl
    omega
  · omega
/-- locals by place -/
def mh_lo (g : mh_G) : Nat → List (Option Value) → List (Nat × Value)
  | _, [] => []
  | i, none :: r => mh_lo g (i + 1) r
  | i, some v :: r => (i, mh_tr g v) :: mh_lo g (i + 1) r
theorem mh_lo_at {g : mh_G} {k : Nat} {v : Value} : ∀ (loc : List (Option Value)) (i : Nat), loc[k]? = some (some v) → (i + k, mh_tr g v) ∈ mh_lo g i loc := by
  induction k with
  | zero =>
    intro loc i h
    cases loc with
    | nil => simp at h
    | cons x r =>
      simp at h
      subst h
      simp [mh_lo]
  | succ k ih =>
    intro loc i h
    cases loc with
    | nil => simp at h
    | cons x r =>
      have h2 := ih r (i + 1) (by simpa using h)
      rw [show i + (k + 1) = i + 1 + k by omega]
      cases x with
      | none => exact h2
      | some w => exact List.mem_cons_of_mem _ h2
theorem mh_lo_of {g : mh_G} : ∀ (loc : List (Option Value)) (i : Nat) (q : Nat × Value), q ∈ mh_lo g i loc → ∃ k v, q = (i + k, mh_tr g v) ∧ loc[k]? = some (some v) := by
  intro loc
  induction loc with
  | nil => intro i q h; cases h
  | cons x r ih =>
    intro i q h
    cases x with
    | none =>
      obtain ⟨k, v, h1, h2⟩ := ih (i + 1) q h
      exact ⟨k + 1, v, by rw [h1, show i + 1 + k = i + (k + 1) by omega], by simpa using h2⟩
    | some w =>
      rcases List.mem_cons.mp h with h | h
      · exact ⟨0, w, h, by simp⟩
      · obtain ⟨k, v, h1, h2⟩ := ih (i + 1) q h
        exact ⟨k + 1, v, by rw [h1, show i + 1 + k = i + (k + 1) by omega], by simpa using h2⟩
/-- the frame at hand: program, env, room, state, method id, args, frames below, method, code, what is to come -/
abbrev mh_F : Type := Program × Env × Room × State × MethodId × Array Value × List Frame × Method × Code × (State → Prop)
def mh_p (f : mh_F) : Program := f.1
def mh_e (f : mh_F) : Env := f.2.1
def mh_R (f : mh_F) : Room := f.2.2.1
def mh_s (f : mh_F) : State := f.2.2.2.1
def mh_m (f : mh_F) : MethodId := f.2.2.2.2.1
def mh_g (f : mh_F) : Array Value := f.2.2.2.2.2.1
def mh_w (f : mh_F) : List Frame := f.2.2.2.2.2.2.1
def mh_h (f : mh_F) : Method := f.2.2.2.2.2.2.2.1
def mh_c (f : mh_F) : Code := f.2.2.2.2.2.2.2.2.1
def mh_q (f : mh_F) : State → Prop := f.2.2.2.2.2.2.2.2.2
/-- at pc, with these locals, this stack and this world (n cells, cl and sl made so far): what is to come comes -/
def mh_V (g : mh_G) (f : mh_F) (nL n cl sl pc : Nat) (loc : List (Option Value)) (st : List Value) (h : Nat → Int → Int) : Prop :=
  ∀ (H : Heap) (locs : List Loc) (ls : Array Slot), mh_Wd g n h H → va_S (fun q => mh_b g ≤ q) (mh_s f).heap H locs → lv_has ls nL (mh_lo g 0 loc) →
    W (mh_p f) (mh_l g) (mh_e f) (mh_R f) (mh_s f) (mh_m f) (mh_g f) (mh_w f) (mh_h f) (mh_c f) H locs cl sl (mh_q f) (F0 (mh_m f) pc ls (st.map (mh_tr g)))
/-- what holds of the frame -/
def mh_Fr (g : mh_G) (f : mh_F) (own : String) (cc : ByteArray) (nL d : Nat) : Prop :=
  (mh_p f).tables.exec = Jvm.exec ∧ (mh_c f).code = cc ∧ (mh_c f).maxLocals = nL ∧ (mh_s f).vm.findClass own = some (mh_m f).cls ∧ (∀ w ∈ mh_WT, w.before (mh_g f) (mh_s f) = true) ∧ mh_K g (mh_s f) ∧ (mh_h f).locks = false ∧ mh_b g ≤ (mh_s f).heap.size ∧
  (d ≤ (mh_R f).frames ∧ 64 * d ≤ (mh_R f).locals)
theorem mh_Fr.exec {g : mh_G} {f : mh_F} {own : String} {cc : ByteArray} {nL d : Nat} (F : mh_Fr g f own cc nL d) : (mh_p f).tables.exec = Jvm.exec := F.1
theorem mh_Fr.code {g : mh_G} {f : mh_F} {own : String} {cc : ByteArray} {nL d : Nat} (F : mh_Fr g f own cc nL d) : (mh_c f).code = cc := F.2.1
theorem mh_Fr.maxL {g : mh_G} {f : mh_F} {own : String} {cc : ByteArray} {nL d : Nat} (F : mh_Fr g f own cc nL d) : (mh_c f).maxLocals = nL := F.2.2.1
theorem mh_Fr.own {g : mh_G} {f : mh_F} {own : String} {cc : ByteArray} {nL d : Nat} (F : mh_Fr g f own cc nL d) : (mh_s f).vm.findClass own = some (mh_m f).cls := F.2.2.2.1
theorem mh_Fr.wt {g : mh_G} {f : mh_F} {own : String} {cc : ByteArray} {nL d : Nat} (F : mh_Fr g f own cc nL d) : ∀ w ∈ mh_WT, w.before (mh_g f) (mh_s f) = true := F.2.2.2.2.1
theorem mh_Fr.kk {g : mh_G} {f : mh_F} {own : String} {cc : ByteArray} {nL d : Nat} (F : mh_Fr g f own cc nL d) : mh_K g (mh_s f) := F.2.2.2.2.2.1
theorem mh_Fr.locks {g : mh_G} {f : mh_F} {own : String} {cc : ByteArray} {nL d : Nat} (F : mh_Fr g f own cc nL d) : (mh_h f).locks = false := F.2.2.2.2.2.2.1
theorem mh_Fr.base {g : mh_G} {f : mh_F} {own : String} {cc : ByteArray} {nL d : Nat} (F : mh_Fr g f own cc nL d) : mh_b g ≤ (mh_s f).heap.size := F.2.2.2.2.2.2.2.1
theorem mh_Fr.room {g : mh_G} {f : mh_F} {own : String} {cc : ByteArray} {nL d : Nat} (F : mh_Fr g f own cc nL d) : d ≤ (mh_R f).frames ∧ 64 * d ≤ (mh_R f).locals := F.2.2.2.2.2.2.2.2

