/-! the entry: what the tables and the start give -/
def mh_tm (i : Nat) : Term := .string "MilkHills$World" (match i with | 0 => 39 | 1 => 50 | 2 => 41 | _ => 52)
def mh_flat : List Cond := flatC (Jvm.Cond.and given_1 narrow_1)
theorem mh_fl1 : ∀ i : Nat, i < 4 → Cond.exactly (mh_tm i) "java/lang/String" ∈ mh_flat := by decide +kernel
theorem mh_fl2 : ∀ i : Nat, i < 4 → Cond.eq (.field (mh_tm i) "java/lang/String" "coder" "B") (.int 0) ∈ mh_flat := by decide +kernel
theorem mh_fl3 : ∀ i : Nat, i < 4 → Cond.arrayOf (.field (mh_tm i) "java/lang/String" "value" "[B") .byte ∈ mh_flat := by decide +kernel
theorem mh_fl4 : ∀ i : Nat, i < 4 → Cond.eq (.length (.field (mh_tm i) "java/lang/String" "value" "[B")) (.int (Int32.ofNat (mh_sl.getD i 0))) ∈ mh_flat := by decide +kernel
theorem mh_fl5 : ∀ i : Nat, i < 4 → ∀ j : Nat, j < mh_sl.getD i 0 → Cond.eq (.elem (.field (mh_tm i) "java/lang/String" "value" "[B") (.int (Int32.ofNat j))) (.int ((mh_sb.getD i []).getD j 0)) ∈ mh_flat := by decide +kernel
theorem mh_fl6 : ∀ i : Nat, i < 4 → ∀ j : Nat, j < 4 → i ≠ j → (Cond.not (Cond.eq (mh_tm i) (mh_tm j)) ∈ mh_flat ∨ Cond.not (Cond.eq (mh_tm j) (mh_tm i)) ∈ mh_flat) := by decide +kernel
theorem mh_inI : ∀ ci : Nat, ci < 13 → Cond.instantiable (mh_C ci) (mh_N ci) ∈ mh_WT := by decide +kernel
theorem vk_S_cong {N : Nat} {len : List Nat} {byt : List (List Int32)} {adK adV aK aV : Nat → Nat} {A : Nat → Prop} {U : State} {H : Heap} (h : vk_S N len byt adK adV A U H) (e1 : ∀ i : Nat, i < N → aK i = adK i) (e2 : ∀ i : Nat, i < N → aV i = adV i) : vk_S N len byt aK aV A U H :=
  ⟨fun i hi => by rw [e1 i hi, e2 i hi]; exact h.1 i hi, fun i j hi hj e => h.2 i j hi hj (by rw [← e1 i hi, ← e1 j hj]; exact e)⟩
theorem mh_NW_tab {w : Cond} (hw : mh_isN w = true) : w.onTables = true := by
  cases w <;> first | rfl | exact absurd hw Bool.false_ne_true
theorem mh_lits {s : State} {b : Nat} (hgv : (Jvm.Cond.and given_1 narrow_1).before #[Value.ref b] s = true) : ∃ adK adV : Nat → Nat, vk_S 4 mh_sl mh_sb adK adV (fun q => s.heap.size ≤ q) s s.heap ∧ ∀ i : Nat, i < 4 → (mh_tm i).eval #[Value.ref b] s none [] s = some (.ref (adK i)) := by
  have hs : ∀ w ∈ mh_flat, w.before #[Value.ref b] s = true := flat_of_before _ hgv
  exact vk_Sof (tm := mh_tm) (by decide) (fun i hi => hs _ (mh_fl1 i hi)) (fun i hi => hs _ (mh_fl2 i hi)) (fun i hi => hs _ (mh_fl3 i hi)) (fun i hi => hs _ (mh_fl4 i hi)) (fun i hi j hj => hs _ (mh_fl5 i hi j hj)) (fun i j hi hj hij => (mh_fl6 i hi j hj hij).elim (fun z => Or.inl (hs _ z)) (fun z => Or.inr (hs _ z))) (fun a h => Nat.not_le.mpr h)
theorem mh_clss {s : State} {b : Nat} (hw : ∀ w ∈ mh_WT, w.before #[Value.ref b] s = true) : ∃ D : Nat → ClassId × (Nat → Nat), ∀ ci : Nat, ci < 13 → u_Kn s (mh_C ci) (mh_T ci) (mh_N ci) (D ci).1 (D ci).2 := by
  have hC : ∀ ci : Nat, ∃ q : ClassId × (Nat → Nat), ci < 13 → u_Kn s (mh_C ci) (mh_T ci) (mh_N ci) q.1 q.2 := by
    intro ci
    by_cases h : ci < 13
    · obtain ⟨cC, iS, hk⟩ := u_known (ws := mh_WT) (n := mh_N ci) hw (mh_inWT ci h) (hw _ (mh_inI ci h))
      exact ⟨(cC, iS), fun _ => hk⟩
    · exact ⟨(0, fun _ => 0), fun z => absurd z h⟩
  exact Classical.axiomOfChoice hC
theorem mh_arrOfT {U : State} {c comp : ClassId} {k : Class} {ty : FieldType} (h1 : U.vm.classes[c]? = some k) (h2 : k.kind = .array comp ty) : ArrOfT U c ty := fun n z => ⟨fun k h => (by cases h), k, h1, comp, h2⟩
theorem mh_entry {s : State} {b : Nat} (l : Launch) (hts : ∀ w ∈ lw_tbl, w.before #[Value.ref b] s = true) (hgv : (Jvm.Cond.and given_1 narrow_1).before #[Value.ref b] s = true) : ∃ g : mh_G, mh_l g = l ∧ mh_b g = s.heap.size ∧ mh_H0 g = s.heap ∧ mh_sa g 9 = b ∧ mh_K g s ∧ mh_AA g s := by
  have hs : ∀ w ∈ mh_flat, w.before #[Value.ref b] s = true := flat_of_before _ hgv
  have hw : ∀ w ∈ mh_WT, w.before #[Value.ref b] s = true := fun w hw => hts w (List.mem_filter.mp hw).1
  have hA : ∀ a : Nat, a < s.heap.size → ¬ s.heap.size ≤ a := fun a h => Nat.not_le.mpr h
  obtain ⟨adK, adV, hS, hev⟩ := mh_lits hgv
  obtain ⟨D, hD⟩ := mh_clss hw
  obtain ⟨a0, k0, p0, f0, g0, e0⟩ := Cond.arrayClass_spec (hw _ tw_1_134)
  obtain ⟨a1, k1, p1, f1, g1, e1⟩ := Cond.arrayClass_spec (hw _ tw_1_135)
  obtain ⟨a2, k2, p2, f2, g2, e2⟩ := Cond.arrayClass_spec (hw _ tw_2_108)
  obtain ⟨a6, k6, p6, f6, g6, e6⟩ := Cond.arrayClass_spec (hw _ tw_1_133)
  obtain ⟨p3, a3, k3, c3, i3, g3, e3, f3⟩ := Cond.arrayOver_spec (hts (Cond.arrayOver (.object "MilkHills$Kind")) (by decide +kernel))
  obtain ⟨p4, a4, k4, c4, i4, g4, e4, f4⟩ := Cond.arrayOver_spec (hts (Cond.arrayOver (.object "MilkHills$Churn")) (by decide +kernel))
  obtain ⟨p5, a5, k5, c5, i5, g5, e5, f5⟩ := arrayOverA_spec (hts (Cond.arrayOver (.array .int)) (by decide +kernel))
  obtain ⟨fm, hfm⟩ : ∃ fm : Nat, va_Z "jdk/internal/util/Preconditions" "SIOOBE_FORMATTER" mh_SIO .null (fun q => s.heap.size ≤ q) s s.heap ∨ va_Z "jdk/internal/util/Preconditions" "SIOOBE_FORMATTER" mh_SIO (.ref fm) (fun q => s.heap.size ≤ q) s s.heap := by
    rcases (va_Zqof (A := fun q => s.heap.size ≤ q) (hts (Cond.laysStatic "jdk/internal/util/Preconditions" "SIOOBE_FORMATTER" mh_SIO) (by decide +kernel)) (hts (Cond.initialized "jdk/internal/util/Preconditions") (by decide +kernel)) (hs (Cond.isRef (.static "jdk/internal/util/Preconditions" "SIOOBE_FORMATTER" mh_SIO)) (by decide +kernel)) hA) with z | ⟨t, z⟩
    · exact ⟨0, Or.inl z⟩
    · exact ⟨t, Or.inr z⟩
  have hZ := va_Zof (A := fun q => s.heap.size ≤ q) (hts (Cond.laysStatic "java/lang/String" "COMPACT_STRINGS" "Z") (by decide +kernel)) (hts (Cond.initialized "java/lang/String") (by decide +kernel)) (va_eqt (hs (Cond.eq (.static "java/lang/String" "COMPACT_STRINGS" "Z") (.int 1)) (by decide +kernel))) hA
  refine ⟨(l, (fun c => (D c).1, fun c => (D c).2), s.heap.size, (fun k => if k < 4 then adK k else if k < 8 then adV (k - 4) else if k = 8 then fm else b), (fun k => match k with | 0 => a0 | 1 => a1 | 2 => a2 | 3 => a3 | 4 => a4 | 5 => a5 | _ => a6), s.heap), rfl, rfl, rfl, rfl, ⟨⟨fun c q hq => ?_, fun k q hq => ?_⟩, fun w hw2 => va_Nw.of (mh_NW_tab (List.mem_filter.mp hw2).2) (hts w (List.mem_filter.mp hw2).1), va_AO.of (hts (Cond.arrayOver (.object "MilkHills$Kind")) (by decide +kernel)), va_AO.of (hts (Cond.arrayOver (.object "MilkHills$Churn")) (by decide +kernel)), ⟨vk_S_cong hS (fun i hi => if_pos hi) (fun i hi => ?_), hZ, hfm, rfl⟩, vk_R.of (hts (Cond.stringRef "MilkHills$World" 39 "tq") (by decide +kernel)) (hev 0 (by decide)), vk_R.of (hts (Cond.stringRef "MilkHills$World" 50 "srm") (by decide +kernel)) (hev 1 (by decide)), vk_R.of (hts (Cond.stringRef "MilkHills$World" 41 "t/4") (by decide +kernel)) (hev 2 (by decide)), vk_R.of (hts (Cond.stringRef "MilkHills$World" 52 "(s=0)*50+(s=1)*30") (by decide +kernel)) (hev 3 (by decide))⟩, ?_⟩
  · by_cases hc : c < 13
    · have e := (mh_cl hc).symm.trans hq
      injection e with e
      rw [← e]
      exact hD c hc
    · have hn : vwCl[c]? = none := List.getElem?_eq_none (by show 13 ≤ c; omega)
      rw [hn] at hq
      cases hq
  · match k, hq with
    | 0, hq => cases hq; exact ⟨mh_arrOfT g0 e0, f0⟩
    | 1, hq => cases hq; exact ⟨mh_arrOfT g1 e1, f1⟩
    | 2, hq => cases hq; exact ⟨mh_arrOfT g2 e2, f2⟩
    | 3, hq => cases hq; exact ⟨mh_arrOfT g3 e3, k3, p3, g3, e3, c3, f3⟩
    | 4, hq => cases hq; exact ⟨mh_arrOfT g4 e4, k4, p4, g4, e4, c4, f4⟩
    | 5, hq => cases hq; exact ⟨mh_arrOfT g5 e5, f5⟩
    | 6, hq => cases hq; exact ⟨mh_arrOfT g6 e6, f6⟩
    | k + 7, hq => simp [mh_tys] at hq
  · show (if 4 + i < 4 then adK (4 + i) else if 4 + i < 8 then adV (4 + i - 4) else if 4 + i = 8 then fm else b) = adV i
    rw [if_neg (by omega), if_pos (by omega), Nat.add_sub_cancel_left]
  · refine ⟨k5, g5, ?_⟩
    have e : p5 = a0 := by
      have q : s.vm.findClass ("[" ++ FieldType.toString .int) = some p5 := c5
      rw [f0] at q
      injection q with q
      exact q.symm
    rw [← e]
    exact e5

