/-! the literals: what lies in the heap from before the start -/
section
variable {g : mh_G} {f : mh_F} {own : String} {cc : ByteArray} {nL d n cl sl pc : Nat} {loc : List (Option Value)} {st : List Value} {h : Nat → Int → Int} {ret : Option FieldType} {post : Option Value → (Nat → Int → Int) → Prop}
theorem mh_S_ad (g : mh_G) (i : Nat) : mh_ad g (1000000 + i) = mh_sa g i := by
  unfold mh_ad
  rw [if_neg (by omega), Nat.add_sub_cancel_left]
theorem mh_old (F : mh_Fr g f own cc nL d) {H : Heap} {locs : List Loc} (h1 : mh_Wd g n h H) (h2 : va_S (fun q => mh_b g ≤ q) (mh_s f).heap H locs) : ∀ a : Nat, a < (mh_H0 g).size → ¬ mh_b g ≤ a → (mh_s f).heap[a]? = (mh_H0 g)[a]? := fun a _ ha =>
  (h2.2.1 a (by have := F.base; omega) ha).symm.trans (h1.2.2.1 a (by omega))
theorem mh_old2 {H : Heap} (h1 : mh_Wd g n h H) : ∀ a : Nat, a < (mh_H0 g).size → ¬ mh_b g ≤ a → H[a]? = (mh_H0 g)[a]? := fun a _ ha => h1.2.2.1 a (by omega)
theorem mh_strs (F : mh_Fr g f own cc nL d) {H : Heap} {locs : List Loc} (h1 : mh_Wd g n h H) (h2 : va_S (fun q => mh_b g ≤ q) (mh_s f).heap H locs) : vk_S 4 mh_sl mh_sb (mh_sa g) (fun i => mh_sa g (4 + i)) (fun q => mh_b g ≤ q) (mh_s f) (mh_s f).heap := vk_S.kept F.kk.2.2.2.2.1.1 (mh_old F h1 h2)
theorem mh_getsC (F : mh_Fr g f own cc nL d) (ho : own = RJ0) (hd : decode cc pc = .ok (.getstatic 38, 3)) (k : mh_V g f nL n cl sl (pc + 3) loc (.int (Int32.ofInt 1) :: st) h) : mh_V g f nL n cl sl pc loc st h := by
  intro H locs ls h1 h2 h3
  subst ho
  exact va_gets F.exec F.code (va_Z.kept F.kk.2.2.2.2.1.2.1 (mh_old F h1 h2)) h2 F.own (F.wt _ tw_1_161) (fun _ z => z) hd (k H locs ls h1 h2 h3)
theorem mh_getsI (F : mh_Fr g f own cc nL d) (ho : own = RJ0) (hd : decode cc pc = .ok (.getstatic 1053, 3)) (k1 : mh_V g f nL n cl sl (pc + 3) loc (.null :: st) h) (k2 : mh_V g f nL n cl sl (pc + 3) loc (.ref 1000008 :: st) h) : mh_V g f nL n cl sl pc loc st h := by
  intro H locs ls h1 h2 h3
  subst ho
  rcases F.kk.2.2.2.2.1.2.2.1 with z | z
  · exact va_gets F.exec F.code (va_Z.kept z (mh_old F h1 h2)) h2 F.own (F.wt _ tw_1_177) (fun _ z => z) hd (k1 H locs ls h1 h2 h3)
  · refine va_gets F.exec F.code (va_Z.kept z (mh_old F h1 h2)) h2 F.own (F.wt _ tw_1_177) (fun _ z => z) hd ?_
    have k3 := k2 H locs ls h1 h2 h3
    rw [← mh_S_ad g 8]
    exact k3
theorem mh_strV (F : mh_Fr g f own cc nL d) (ho : own = RJ0) {i a b : Nat} (hi : i < 4) (ha : a = 1000000 + i) (hb : b = 1000000 + (4 + i)) (hd : decode cc pc = .ok (.getfield 9, 3)) (k : mh_V g f nL n cl sl (pc + 3) loc (.ref b :: st) h) : mh_V g f nL n cl sl pc loc (.ref a :: st) h := by
  intro H locs ls h1 h2 h3
  subst ho ha hb
  have k3 := k H locs ls h1 h2 h3
  show W _ _ _ _ _ _ _ _ _ _ _ _ _ _ _ (F0 _ _ _ (.ref (mh_ad g (1000000 + i)) :: _))
  rw [mh_S_ad]
  refine vk_getf F.exec F.code ((mh_strs F h1 h2).1 i hi).2.2.1 h2 F.own (F.wt _ tw_7_235) (fun _ z => z) hd ?_
  show W _ _ _ _ _ _ _ _ _ _ _ _ _ _ _ (F0 _ _ _ (.ref (mh_sa g (4 + i)) :: _))
  rw [← mh_S_ad]
  exact k3
theorem mh_strK (F : mh_Fr g f own cc nL d) (ho : own = RJ0) {i a : Nat} (hi : i < 4) (ha : a = 1000000 + i) (hd : decode cc pc = .ok (.getfield 15, 3)) (k : mh_V g f nL n cl sl (pc + 3) loc (.int (Int32.ofInt 0) :: st) h) : mh_V g f nL n cl sl pc loc (.ref a :: st) h := by
  intro H locs ls h1 h2 h3
  subst ho ha
  show W _ _ _ _ _ _ _ _ _ _ _ _ _ _ _ (F0 _ _ _ (.ref (mh_ad g (1000000 + i)) :: _))
  rw [mh_S_ad]
  exact vk_getf F.exec F.code ((mh_strs F h1 h2).1 i hi).2.1 h2 F.own (F.wt _ tw_7_236) (fun _ z => z) hd (k H locs ls h1 h2 h3)
theorem mh_strL (F : mh_Fr g f own cc nL d) {i b : Nat} {x : Int} (hi : i < 4) (hb : b = 1000000 + (4 + i)) (hx : ((mh_sl.getD i 0 : Nat) : Int) = x) (hd : decode cc pc = .ok (.arraylength, 1)) (k : mh_V g f nL n cl sl (pc + 1) loc (.int (Int32.ofInt x) :: st) h) : mh_V g f nL n cl sl pc loc (.ref b :: st) h := by
  intro H locs ls h1 h2 h3
  subst hb hx
  have k3 := k H locs ls h1 h2 h3
  show W _ _ _ _ _ _ _ _ _ _ _ _ _ _ _ (F0 _ _ _ (.ref (mh_ad g (1000000 + (4 + i))) :: _))
  rw [mh_S_ad]
  exact va_tlen F.exec F.code ((mh_strs F h1 h2).1 i hi).2.2.2 h2 Int32.ofInt_eq_ofNat.symm hd k3
/-- byte j of literal i -/
def mh_sB (i : Nat) (j : Int) : Int := ((mh_sb.getD i []).getD j.toNat 0).toInt
theorem mh_sl_ok : ∀ i, i < 4 → mh_sl.getD i 0 ≤ 17 := by decide
theorem mh_strB (F : mh_Fr g f own cc nL d) {i b : Nat} {j : Int} (hi : i < 4) (hb : b = 1000000 + (4 + i)) (hj : 0 ≤ j ∧ j < ((mh_sl.getD i 0 : Nat) : Int)) (hd : decode cc pc = .ok (.baload, 1)) (k : mh_V g f nL n cl sl (pc + 1) loc (.int (Int32.ofInt (mh_sB i j)) :: st) h) : mh_V g f nL n cl sl pc loc (.int (Int32.ofInt j) :: .ref b :: st) h := by
  intro H locs ls h1 h2 h3
  subst hb
  have k3 := k H locs ls h1 h2 h3
  have hl := mh_sl_ok i hi
  show W _ _ _ _ _ _ _ _ _ _ _ _ _ _ _ (F0 _ _ _ (.int (Int32.ofInt j) :: .ref (mh_ad g (1000000 + (4 + i))) :: _))
  rw [mh_S_ad]
  refine va_tb F.exec F.code ((mh_strs F h1 h2).1 i hi).2.2.2 h2 (mh_in hj.1 hj.2 (by omega)) (v := .int (Int32.ofInt (mh_sB i j))) ?_ hd k3
  rw [mh_clamp hj.1 (by omega)]
  unfold mh_sB
  rw [Int32.ofInt_toInt]
theorem mh_preVS (F : mh_Fr g f own cc nL d) {H : Heap} {i a : Nat} {As : List Value} (hi : i < 4) (ha : a = 1000000 + i) (h1 : mh_Wd g n h H) : PreV (mh_s f) H "java/lang/String" (mh_sa g i) (mh_Pc g (.ref a :: As) n h) (As.map (mh_tr g)) := by
  subst ha
  refine ⟨mh_blind g _ n h, ?_, fun U hU hW => ⟨?_, by rw [hU]; exact h1, mh_K.warm hW F.kk⟩⟩
  · obtain ⟨cell, q1, q2, q3, -⟩ := ((vk_S.kept F.kk.2.2.2.2.1.1 (mh_old2 h1)).1 i hi).1
    exact ⟨cell, q1, q2, q3⟩
  · show (Value.ref (mh_sa g i) :: _).toArray = (Value.ref (mh_ad g (1000000 + i)) :: _).toArray
    rw [mh_S_ad]
theorem mh_callVS (F : mh_Fr g f own cc nL d) (hd1 : 1 ≤ d) {mc ms ix i a np mL : Nat} {y : MethodName} {b : ByteArray} {As st0 : List Value} (hi : i < 4) (ha : a = 1000000 + i) (hM : mh_M g (d - 1) y b mL ret n mc ms (.ref a :: As) h post) (hw : mh_cV own ix y b mL ret np) (hd : decode cc pc = .ok (.invokevirtual ix, 3)) (hC : y.cls = "java/lang/String") (hn : As.length = np) (h0 : st0 = As.reverse ++ .ref a :: st) (h8 : (st.map fun v => v.category).sum ≤ 8) (hc : cl + mc ≤ (mh_R f).cells ∧ sl + ms ≤ (mh_R f).slots)
    (k : ∀ (r : Option Value) (h' : Nat → Int → Int), post r h' → mh_V g f nL (n + mc) (cl + mc) (sl + ms) (pc + 3) loc (r.toList ++ st) h') : mh_V g f nL n cl sl pc loc st0 h := by
  refine mh_run (a := (Value.ref (mh_sa g i) :: As.map (mh_tr g)).toArray) (fun H locs ls h1 h3 => ?_) k
  have hpre := mh_preVS (As := As) F hi ha h1
  rw [← hC] at hpre
  exact va_runV (mh_fix F) hM (cwV np F.wt (mh_gin (fun w hw2 => by
    rcases List.mem_append.mp hw2 with q | q
    · exact hw.1 w (by simp only [List.mem_cons, List.not_mem_nil, or_false] at q ⊢; rcases q with q | q | q | q <;> simp [q])
    · exact mh_okT (hw.1 _ (by simp)) w q)) rfl rfl rfl ⟨rfl, hw.2.1⟩ (mh_roomd F hd1 hw.2.2)) hpre rfl (by rw [List.length_map]; exact hn) h3.1 (by rw [h0, ha, List.map_append, List.map_cons, List.map_reverse]; show _ = _ ++ Value.ref _ :: _; rw [← mh_S_ad]; rfl) (mh_cat8 h8) hd hc
theorem mh_callVSp (F : mh_Fr g f own cc nL d) (hd1 : 1 ≤ d) {ix i a np mL : Nat} {y : MethodName} {b : ByteArray} {As st0 : List Value} {v : Option Value} (hi : i < 4) (ha : a = 1000000 + i) (hM : mh_MP g (d - 1) y b mL ret n (.ref a :: As) h v) (hw : mh_cV own ix y b mL ret np) (hd : decode cc pc = .ok (.invokevirtual ix, 3)) (hC : y.cls = "java/lang/String") (hn : As.length = np) (h0 : st0 = As.reverse ++ .ref a :: st) (h8 : (st.map fun v => v.category).sum ≤ 8) (hc : cl + 0 ≤ (mh_R f).cells ∧ sl + 0 ≤ (mh_R f).slots)
    (k : mh_V g f nL n cl sl (pc + 3) loc (v.toList ++ st) h) : mh_V g f nL n cl sl pc loc st0 h :=
  mh_callVS F hd1 hi ha hM hw hd hC hn h0 h8 hc (fun r h' q => by obtain ⟨rfl, rfl⟩ := q; exact k)
theorem mh_nreturnp (F : mh_Fr g f own cc nL d) {ty : FieldType} {v : Int} {h0 : Nat → Int → Int} (Z : mh_Rt g f n cl sl (some ty) (fun r h' => r = some (.int (Int32.ofInt v)) ∧ h' = h0)) (hd : decode cc pc = .ok (.ireturn, 1)) {x : Int} (hx : x = v) (hn : narrow ty (.int (Int32.ofInt v)) = .int (Int32.ofInt v)) (hh : h = h0) : mh_V g f nL n cl sl pc loc [.int (Int32.ofInt x)] h := by
  intro H locs ls h1 h2 h3
  rw [Z.2]
  subst hx
  exact W.zret F.exec F.code Z.1 hn (fun t ht _ => ⟨some (.int (Int32.ofInt x)), h, rfl, ⟨rfl, hh⟩, by rw [ht]; exact h1⟩) h2.2.2 hd F.locks
theorem mh_ishr0 (F : mh_Fr g f own cc nL d) {x : Int} (hd : decode cc pc = .ok (.ishr, 1)) (k : mh_V g f nL n cl sl (pc + 1) loc (.int (Int32.ofInt x) :: st) h) : mh_V g f nL n cl sl pc loc (.int (Int32.ofInt 0) :: .int (Int32.ofInt x) :: st) h := by
  intro H locs ls h1 h2 h3
  have k := k H locs ls h1 h2 h3
  refine lv_ishr F.exec F.code hd ?_
  have e : Int32.ofInt x >>> (Int32.ofInt 0 &&& 31) = Int32.ofInt x := by
    rw [show (Int32.ofInt 0 &&& 31) = 0 from by decide +kernel]
    apply Int32.toBitVec_inj.mp
    rw [Int32.toBitVec_shiftRight]
    show BitVec.sshiftRight _ _ = _
    simp
  rw [e]
  exact k
end
theorem mh_sBall : ∀ i, i < 4 → ∀ j : Nat, j < mh_sl.getD i 0 → 0 ≤ mh_sB i (j : Int) ∧ mh_sB i (j : Int) < 128 ∧ mh_c16 (mh_and (mh_sB i (j : Int)) 255) = mh_sB i (j : Int) ∧ narrow .char (.int (Int32.ofInt (mh_sB i (j : Int)))) = .int (Int32.ofInt (mh_sB i (j : Int))) := by decide +kernel
theorem mh_sBat {i : Nat} (hi : i < 4) {j : Int} (hj : 0 ≤ j ∧ j < ((mh_sl.getD i 0 : Nat) : Int)) : 0 ≤ mh_sB i j ∧ mh_sB i j < 128 ∧ mh_c16 (mh_and (mh_sB i j) 255) = mh_sB i j ∧ narrow .char (.int (Int32.ofInt (mh_sB i j))) = .int (Int32.ofInt (mh_sB i j)) := by
  have := mh_sBall i hi j.toNat (by omega)
  rw [Int.toNat_of_nonneg hj.1] at this
  exact this
theorem wv_RJ0_335 : mh_cV RJ0 335 yJ0_coder_7d493 cJ0_coder_7d493 1 (some .byte) 0 := ⟨mh_ok5 tw_1_157 tw_1_158 tw_1_159 tw_1_12 tw_1_160, np_yJ0_coder_7d493, by decide⟩
theorem wv_RJ0_492 : mh_cV RJ0 492 yJ0_isLatin1_aae02 cJ0_isLatin1_aae02 1 (some .boolean) 0 := ⟨mh_ok5 tw_1_167 tw_1_168 tw_1_169 tw_1_12 tw_1_170, np_yJ0_isLatin1_aae02, by decide⟩
theorem wv_RJ0_505 : mh_cV RJ0 505 yJ0_length_8abf5 cJ0_length_8abf5 1 (some .int) 0 := ⟨mh_ok5 tw_2_27 tw_1_154 tw_1_155 tw_1_12 tw_1_156, np_yJ0_length_8abf5, by decide⟩
theorem wv_RJ0_633 : mh_cV RJ0 633 yJ0_indexOf_7cf53 cJ0_indexOf_7cf53 3 (some .int) 2 := ⟨mh_ok5 tw_2_23 tw_2_24 tw_2_25 tw_1_12 tw_2_26, np_yJ0_indexOf_7cf53, by decide⟩

set_option maxRecDepth 100000 in
set_option maxHeartbeats 1500000 in
theorem ks_max {g : mh_G} {d : Nat} (hd : 1 ≤ d) {h : Nat → Int → Int} {n : Nat} {a b : Int} (ha : -2147483648 ≤ a ∧ a < 2147483648) (hb : -2147483648 ≤ b ∧ b < 2147483648) : mh_MP g d yJ9_max_7cf53 cJ9_max_7cf53 2 (some .int) n [.int (Int32.ofInt (a)), .int (Int32.ofInt (b))] h (some (.int (Int32.ofInt (if b ≤ a then a else b)))) := by
  refine mh_M_ofJ RJ9 rfl (by decide +kernel) [some (.int (Int32.ofInt (a))), some (.int (Int32.ofInt (b)))] rfl (Nat.le_of_ble_eq_true rfl) (fun f F Z hn0 hR => ?_)
  refine mh_iload0 (pc := 0) F dJ9_max_7cf53_0 ?_
  refine mh_iload1 (pc := 1) F dJ9_max_7cf53_1 ?_
  refine mh_icmp_lt (pc := 2) (tgt := 9) F dJ9_max_7cf53_2 rfl (by omega) (by omega) (fun c_2 => ?_) (fun c_2 => ?_)
  · refine mh_iload1 (pc := 9) F dJ9_max_7cf53_9 ?_
    exact mh_ireturnp F Z dJ9_max_7cf53_10 (by first | (rw [if_pos (by omega)]; done) | (rw [if_neg (by omega)]; done)) rfl
  · refine mh_iload0 (pc := 5) F dJ9_max_7cf53_5 ?_
    refine mh_goto (pc := 6) (tgt := 10) F dJ9_max_7cf53_6 rfl ?_
    exact mh_ireturnp F Z dJ9_max_7cf53_10 (by first | (rw [if_pos (by omega)]; done) | (rw [if_neg (by omega)]; done)) rfl

set_option maxRecDepth 100000 in
set_option maxHeartbeats 1500000 in
theorem ks_min {g : mh_G} {d : Nat} (hd : 1 ≤ d) {h : Nat → Int → Int} {n : Nat} {a b : Int} (ha : -2147483648 ≤ a ∧ a < 2147483648) (hb : -2147483648 ≤ b ∧ b < 2147483648) : mh_MP g d yJ9_min_7cf53 cJ9_min_7cf53 2 (some .int) n [.int (Int32.ofInt (a)), .int (Int32.ofInt (b))] h (some (.int (Int32.ofInt (if a ≤ b then a else b)))) := by
  refine mh_M_ofJ RJ9 rfl (by decide +kernel) [some (.int (Int32.ofInt (a))), some (.int (Int32.ofInt (b)))] rfl (Nat.le_of_ble_eq_true rfl) (fun f F Z hn0 hR => ?_)
  refine mh_iload0 (pc := 0) F dJ9_min_7cf53_0 ?_
  refine mh_iload1 (pc := 1) F dJ9_min_7cf53_1 ?_
  refine mh_icmp_gt (pc := 2) (tgt := 9) F dJ9_min_7cf53_2 rfl (by omega) (by omega) (fun c_2 => ?_) (fun c_2 => ?_)
  · refine mh_iload1 (pc := 9) F dJ9_min_7cf53_9 ?_
    exact mh_ireturnp F Z dJ9_min_7cf53_10 (by first | (rw [if_pos (by omega)]; done) | (rw [if_neg (by omega)]; done)) rfl
  · refine mh_iload0 (pc := 5) F dJ9_min_7cf53_5 ?_
    refine mh_goto (pc := 6) (tgt := 10) F dJ9_min_7cf53_6 rfl ?_
    exact mh_ireturnp F Z dJ9_min_7cf53_10 (by first | (rw [if_pos (by omega)]; done) | (rw [if_neg (by omega)]; done)) rfl

set_option maxRecDepth 100000 in
set_option maxHeartbeats 1500000 in
theorem ks_lat_0 {g : mh_G} {d : Nat} (hd : 1 ≤ d) {h : Nat → Int → Int} {n : Nat}   : mh_MP g d yJ0_isLatin1_aae02 cJ0_isLatin1_aae02 1 (some .boolean) n [.ref 1000000] h (some (.int (Int32.ofInt (mh_B ((1 : Int) = 1))))) := by
  refine mh_M_ofJ RJ0 rfl (by decide +kernel) [some (.ref 1000000)] rfl (Nat.le_of_ble_eq_true rfl) (fun f F Z hn0 hR => ?_)
  refine mh_getsC (pc := 0) F rfl dJ0_isLatin1_aae02_0 ?_
  refine mh_if_eq (pc := 3) (tgt := 17) F dJ0_isLatin1_aae02_3 rfl (by omega) (fun c_3 => ?_) (fun c_3 => ?_)
  · exact absurd c_3 (by decide)
  · refine mh_aload0 (pc := 6) F dJ0_isLatin1_aae02_6 ?_
    refine mh_strK (i := 0) (pc := 7) F rfl (by decide) rfl dJ0_isLatin1_aae02_7 ?_
    refine mh_if_ne (pc := 10) (tgt := 17) F dJ0_isLatin1_aae02_10 rfl (by omega) (fun c_10 => ?_) (fun c_10 => ?_)
    · exact absurd c_10 (by decide)
    · refine mh_iconst (pc := 13) F dJ0_isLatin1_aae02_13 ?_
      refine mh_goto (pc := 14) (tgt := 18) F dJ0_isLatin1_aae02_14 rfl ?_
      exact mh_zreturnp F Z dJ0_isLatin1_aae02_18 (Or.inl ⟨rfl, rfl⟩) rfl

set_option maxRecDepth 100000 in
set_option maxHeartbeats 1500000 in
theorem ks_cod_0 {g : mh_G} {d : Nat} (hd : 1 ≤ d) {h : Nat → Int → Int} {n : Nat}   : mh_MP g d yJ0_coder_7d493 cJ0_coder_7d493 1 (some .byte) n [.ref 1000000] h (some (.int (Int32.ofInt (0)))) := by
  refine mh_M_ofJ RJ0 rfl (by decide +kernel) [some (.ref 1000000)] rfl (Nat.le_of_ble_eq_true rfl) (fun f F Z hn0 hR => ?_)
  refine mh_getsC (pc := 0) F rfl dJ0_coder_7d493_0 ?_
  refine mh_if_eq (pc := 3) (tgt := 13) F dJ0_coder_7d493_3 rfl (by omega) (fun c_3 => ?_) (fun c_3 => ?_)
  · exact absurd c_3 (by decide)
  · refine mh_aload0 (pc := 6) F dJ0_coder_7d493_6 ?_
    refine mh_strK (i := 0) (pc := 7) F rfl (by decide) rfl dJ0_coder_7d493_7 ?_
    refine mh_goto (pc := 10) (tgt := 14) F dJ0_coder_7d493_10 rfl ?_
    exact mh_nreturnp F Z dJ0_coder_7d493_14 rfl (by decide) rfl

set_option maxRecDepth 100000 in
set_option maxHeartbeats 1500000 in
theorem ks_lat_1 {g : mh_G} {d : Nat} (hd : 1 ≤ d) {h : Nat → Int → Int} {n : Nat}   : mh_MP g d yJ0_isLatin1_aae02 cJ0_isLatin1_aae02 1 (some .boolean) n [.ref 1000001] h (some (.int (Int32.ofInt (mh_B ((1 : Int) = 1))))) := by
  refine mh_M_ofJ RJ0 rfl (by decide +kernel) [some (.ref 1000001)] rfl (Nat.le_of_ble_eq_true rfl) (fun f F Z hn0 hR => ?_)
  refine mh_getsC (pc := 0) F rfl dJ0_isLatin1_aae02_0 ?_
  refine mh_if_eq (pc := 3) (tgt := 17) F dJ0_isLatin1_aae02_3 rfl (by omega) (fun c_3 => ?_) (fun c_3 => ?_)
  · exact absurd c_3 (by decide)
  · refine mh_aload0 (pc := 6) F dJ0_isLatin1_aae02_6 ?_
    refine mh_strK (i := 1) (pc := 7) F rfl (by decide) rfl dJ0_isLatin1_aae02_7 ?_
    refine mh_if_ne (pc := 10) (tgt := 17) F dJ0_isLatin1_aae02_10 rfl (by omega) (fun c_10 => ?_) (fun c_10 => ?_)
    · exact absurd c_10 (by decide)
    · refine mh_iconst (pc := 13) F dJ0_isLatin1_aae02_13 ?_
      refine mh_goto (pc := 14) (tgt := 18) F dJ0_isLatin1_aae02_14 rfl ?_
      exact mh_zreturnp F Z dJ0_isLatin1_aae02_18 (Or.inl ⟨rfl, rfl⟩) rfl

set_option maxRecDepth 100000 in
set_option maxHeartbeats 1500000 in
theorem ks_cod_1 {g : mh_G} {d : Nat} (hd : 1 ≤ d) {h : Nat → Int → Int} {n : Nat}   : mh_MP g d yJ0_coder_7d493 cJ0_coder_7d493 1 (some .byte) n [.ref 1000001] h (some (.int (Int32.ofInt (0)))) := by
  refine mh_M_ofJ RJ0 rfl (by decide +kernel) [some (.ref 1000001)] rfl (Nat.le_of_ble_eq_true rfl) (fun f F Z hn0 hR => ?_)
  refine mh_getsC (pc := 0) F rfl dJ0_coder_7d493_0 ?_
  refine mh_if_eq (pc := 3) (tgt := 13) F dJ0_coder_7d493_3 rfl (by omega) (fun c_3 => ?_) (fun c_3 => ?_)
  · exact absurd c_3 (by decide)
  · refine mh_aload0 (pc := 6) F dJ0_coder_7d493_6 ?_
    refine mh_strK (i := 1) (pc := 7) F rfl (by decide) rfl dJ0_coder_7d493_7 ?_
    refine mh_goto (pc := 10) (tgt := 14) F dJ0_coder_7d493_10 rfl ?_
    exact mh_nreturnp F Z dJ0_coder_7d493_14 rfl (by decide) rfl

set_option maxRecDepth 100000 in
set_option maxHeartbeats 1500000 in
theorem ks_lat_2 {g : mh_G} {d : Nat} (hd : 1 ≤ d) {h : Nat → Int → Int} {n : Nat}   : mh_MP g d yJ0_isLatin1_aae02 cJ0_isLatin1_aae02 1 (some .boolean) n [.ref 1000002] h (some (.int (Int32.ofInt (mh_B ((1 : Int) = 1))))) := by
  refine mh_M_ofJ RJ0 rfl (by decide +kernel) [some (.ref 1000002)] rfl (Nat.le_of_ble_eq_true rfl) (fun f F Z hn0 hR => ?_)
  refine mh_getsC (pc := 0) F rfl dJ0_isLatin1_aae02_0 ?_
  refine mh_if_eq (pc := 3) (tgt := 17) F dJ0_isLatin1_aae02_3 rfl (by omega) (fun c_3 => ?_) (fun c_3 => ?_)
  · exact absurd c_3 (by decide)
  · refine mh_aload0 (pc := 6) F dJ0_isLatin1_aae02_6 ?_
    refine mh_strK (i := 2) (pc := 7) F rfl (by decide) rfl dJ0_isLatin1_aae02_7 ?_
    refine mh_if_ne (pc := 10) (tgt := 17) F dJ0_isLatin1_aae02_10 rfl (by omega) (fun c_10 => ?_) (fun c_10 => ?_)
    · exact absurd c_10 (by decide)
    · refine mh_iconst (pc := 13) F dJ0_isLatin1_aae02_13 ?_
      refine mh_goto (pc := 14) (tgt := 18) F dJ0_isLatin1_aae02_14 rfl ?_
      exact mh_zreturnp F Z dJ0_isLatin1_aae02_18 (Or.inl ⟨rfl, rfl⟩) rfl

set_option maxRecDepth 100000 in
set_option maxHeartbeats 1500000 in
theorem ks_cod_2 {g : mh_G} {d : Nat} (hd : 1 ≤ d) {h : Nat → Int → Int} {n : Nat}   : mh_MP g d yJ0_coder_7d493 cJ0_coder_7d493 1 (some .byte) n [.ref 1000002] h (some (.int (Int32.ofInt (0)))) := by
  refine mh_M_ofJ RJ0 rfl (by decide +kernel) [some (.ref 1000002)] rfl (Nat.le_of_ble_eq_true rfl) (fun f F Z hn0 hR => ?_)
  refine mh_getsC (pc := 0) F rfl dJ0_coder_7d493_0 ?_
  refine mh_if_eq (pc := 3) (tgt := 13) F dJ0_coder_7d493_3 rfl (by omega) (fun c_3 => ?_) (fun c_3 => ?_)
  · exact absurd c_3 (by decide)
  · refine mh_aload0 (pc := 6) F dJ0_coder_7d493_6 ?_
    refine mh_strK (i := 2) (pc := 7) F rfl (by decide) rfl dJ0_coder_7d493_7 ?_
    refine mh_goto (pc := 10) (tgt := 14) F dJ0_coder_7d493_10 rfl ?_
    exact mh_nreturnp F Z dJ0_coder_7d493_14 rfl (by decide) rfl

set_option maxRecDepth 100000 in
set_option maxHeartbeats 1500000 in
theorem ks_lat_3 {g : mh_G} {d : Nat} (hd : 1 ≤ d) {h : Nat → Int → Int} {n : Nat}   : mh_MP g d yJ0_isLatin1_aae02 cJ0_isLatin1_aae02 1 (some .boolean) n [.ref 1000003] h (some (.int (Int32.ofInt (mh_B ((1 : Int) = 1))))) := by
  refine mh_M_ofJ RJ0 rfl (by decide +kernel) [some (.ref 1000003)] rfl (Nat.le_of_ble_eq_true rfl) (fun f F Z hn0 hR => ?_)
  refine mh_getsC (pc := 0) F rfl dJ0_isLatin1_aae02_0 ?_
  refine mh_if_eq (pc := 3) (tgt := 17) F dJ0_isLatin1_aae02_3 rfl (by omega) (fun c_3 => ?_) (fun c_3 => ?_)
  · exact absurd c_3 (by decide)
  · refine mh_aload0 (pc := 6) F dJ0_isLatin1_aae02_6 ?_
    refine mh_strK (i := 3) (pc := 7) F rfl (by decide) rfl dJ0_isLatin1_aae02_7 ?_
    refine mh_if_ne (pc := 10) (tgt := 17) F dJ0_isLatin1_aae02_10 rfl (by omega) (fun c_10 => ?_) (fun c_10 => ?_)
    · exact absurd c_10 (by decide)
    · refine mh_iconst (pc := 13) F dJ0_isLatin1_aae02_13 ?_
      refine mh_goto (pc := 14) (tgt := 18) F dJ0_isLatin1_aae02_14 rfl ?_
      exact mh_zreturnp F Z dJ0_isLatin1_aae02_18 (Or.inl ⟨rfl, rfl⟩) rfl

set_option maxRecDepth 100000 in
set_option maxHeartbeats 1500000 in
theorem ks_cod_3 {g : mh_G} {d : Nat} (hd : 1 ≤ d) {h : Nat → Int → Int} {n : Nat}   : mh_MP g d yJ0_coder_7d493 cJ0_coder_7d493 1 (some .byte) n [.ref 1000003] h (some (.int (Int32.ofInt (0)))) := by
  refine mh_M_ofJ RJ0 rfl (by decide +kernel) [some (.ref 1000003)] rfl (Nat.le_of_ble_eq_true rfl) (fun f F Z hn0 hR => ?_)
  refine mh_getsC (pc := 0) F rfl dJ0_coder_7d493_0 ?_
  refine mh_if_eq (pc := 3) (tgt := 13) F dJ0_coder_7d493_3 rfl (by omega) (fun c_3 => ?_) (fun c_3 => ?_)
  · exact absurd c_3 (by decide)
  · refine mh_aload0 (pc := 6) F dJ0_coder_7d493_6 ?_
    refine mh_strK (i := 3) (pc := 7) F rfl (by decide) rfl dJ0_coder_7d493_7 ?_
    refine mh_goto (pc := 10) (tgt := 14) F dJ0_coder_7d493_10 rfl ?_
    exact mh_nreturnp F Z dJ0_coder_7d493_14 rfl (by decide) rfl

set_option maxRecDepth 100000 in
set_option maxHeartbeats 1500000 in
theorem ks_len_0 {g : mh_G} {d : Nat} (hd : 2 ≤ d) {h : Nat → Int → Int} {n : Nat}   : mh_MP g d yJ0_length_8abf5 cJ0_length_8abf5 1 (some .int) n [.ref 1000000] h (some (.int (Int32.ofInt (2)))) := by
  refine mh_M_ofJ RJ0 rfl (by decide +kernel) [some (.ref 1000000)] rfl (Nat.le_of_ble_eq_true rfl) (fun f F Z hn0 hR => ?_)
  refine mh_aload0 (pc := 0) F dJ0_length_8abf5_0 ?_
  refine mh_strV (i := 0) (b := 1000004) (pc := 1) F rfl (by decide) rfl rfl dJ0_length_8abf5_1 ?_
  refine mh_strL (i := 0) (x := 2) (pc := 4) F (by decide) rfl (by decide) dJ0_length_8abf5_4 ?_
  refine mh_aload0 (pc := 5) F dJ0_length_8abf5_5 ?_
  refine mh_callVSp (pc := 6) (As := []) (st := [.int (Int32.ofInt (2))]) F (by omega) (i := 0) (by decide) rfl (ks_cod_0 (by omega)) wv_RJ0_335 dJ0_length_8abf5_6 rfl rfl rfl (Nat.le_of_ble_eq_true rfl) ⟨Nat.zero_le _, Nat.zero_le _⟩ ?_
  refine mh_ishr0 (pc := 9) F dJ0_length_8abf5_9 ?_
  exact mh_ireturnp F Z dJ0_length_8abf5_10 rfl rfl

set_option maxRecDepth 100000 in
set_option maxHeartbeats 1500000 in
theorem ks_len_1 {g : mh_G} {d : Nat} (hd : 2 ≤ d) {h : Nat → Int → Int} {n : Nat}   : mh_MP g d yJ0_length_8abf5 cJ0_length_8abf5 1 (some .int) n [.ref 1000001] h (some (.int (Int32.ofInt (3)))) := by
  refine mh_M_ofJ RJ0 rfl (by decide +kernel) [some (.ref 1000001)] rfl (Nat.le_of_ble_eq_true rfl) (fun f F Z hn0 hR => ?_)
  refine mh_aload0 (pc := 0) F dJ0_length_8abf5_0 ?_
  refine mh_strV (i := 1) (b := 1000005) (pc := 1) F rfl (by decide) rfl rfl dJ0_length_8abf5_1 ?_
  refine mh_strL (i := 1) (x := 3) (pc := 4) F (by decide) rfl (by decide) dJ0_length_8abf5_4 ?_
  refine mh_aload0 (pc := 5) F dJ0_length_8abf5_5 ?_
  refine mh_callVSp (pc := 6) (As := []) (st := [.int (Int32.ofInt (3))]) F (by omega) (i := 1) (by decide) rfl (ks_cod_1 (by omega)) wv_RJ0_335 dJ0_length_8abf5_6 rfl rfl rfl (Nat.le_of_ble_eq_true rfl) ⟨Nat.zero_le _, Nat.zero_le _⟩ ?_
  refine mh_ishr0 (pc := 9) F dJ0_length_8abf5_9 ?_
  exact mh_ireturnp F Z dJ0_length_8abf5_10 rfl rfl

set_option maxRecDepth 100000 in
set_option maxHeartbeats 1500000 in
theorem ks_len_2 {g : mh_G} {d : Nat} (hd : 2 ≤ d) {h : Nat → Int → Int} {n : Nat}   : mh_MP g d yJ0_length_8abf5 cJ0_length_8abf5 1 (some .int) n [.ref 1000002] h (some (.int (Int32.ofInt (3)))) := by
  refine mh_M_ofJ RJ0 rfl (by decide +kernel) [some (.ref 1000002)] rfl (Nat.le_of_ble_eq_true rfl) (fun f F Z hn0 hR => ?_)
  refine mh_aload0 (pc := 0) F dJ0_length_8abf5_0 ?_
  refine mh_strV (i := 2) (b := 1000006) (pc := 1) F rfl (by decide) rfl rfl dJ0_length_8abf5_1 ?_
  refine mh_strL (i := 2) (x := 3) (pc := 4) F (by decide) rfl (by decide) dJ0_length_8abf5_4 ?_
  refine mh_aload0 (pc := 5) F dJ0_length_8abf5_5 ?_
  refine mh_callVSp (pc := 6) (As := []) (st := [.int (Int32.ofInt (3))]) F (by omega) (i := 2) (by decide) rfl (ks_cod_2 (by omega)) wv_RJ0_335 dJ0_length_8abf5_6 rfl rfl rfl (Nat.le_of_ble_eq_true rfl) ⟨Nat.zero_le _, Nat.zero_le _⟩ ?_
  refine mh_ishr0 (pc := 9) F dJ0_length_8abf5_9 ?_
  exact mh_ireturnp F Z dJ0_length_8abf5_10 rfl rfl

set_option maxRecDepth 100000 in
set_option maxHeartbeats 1500000 in
theorem ks_len_3 {g : mh_G} {d : Nat} (hd : 2 ≤ d) {h : Nat → Int → Int} {n : Nat}   : mh_MP g d yJ0_length_8abf5 cJ0_length_8abf5 1 (some .int) n [.ref 1000003] h (some (.int (Int32.ofInt (17)))) := by
  refine mh_M_ofJ RJ0 rfl (by decide +kernel) [some (.ref 1000003)] rfl (Nat.le_of_ble_eq_true rfl) (fun f F Z hn0 hR => ?_)
  refine mh_aload0 (pc := 0) F dJ0_length_8abf5_0 ?_
  refine mh_strV (i := 3) (b := 1000007) (pc := 1) F rfl (by decide) rfl rfl dJ0_length_8abf5_1 ?_
  refine mh_strL (i := 3) (x := 17) (pc := 4) F (by decide) rfl (by decide) dJ0_length_8abf5_4 ?_
  refine mh_aload0 (pc := 5) F dJ0_length_8abf5_5 ?_
  refine mh_callVSp (pc := 6) (As := []) (st := [.int (Int32.ofInt (17))]) F (by omega) (i := 3) (by decide) rfl (ks_cod_3 (by omega)) wv_RJ0_335 dJ0_length_8abf5_6 rfl rfl rfl (Nat.le_of_ble_eq_true rfl) ⟨Nat.zero_le _, Nat.zero_le _⟩ ?_
  refine mh_ishr0 (pc := 9) F dJ0_length_8abf5_9 ?_
  exact mh_ireturnp F Z dJ0_length_8abf5_10 rfl rfl

set_option maxRecDepth 100000 in
set_option maxHeartbeats 1500000 in
theorem ks_ci3n {g : mh_G} {d : Nat} (hd : 1 ≤ d) {h : Nat → Int → Int} {n : Nat} {x m : Int} (hx : 0 ≤ x ∧ x < m) (hm : m ≤ 1000) : mh_MP g d yJ3_checkIndex_8e157 cJ3_checkIndex_8e157 3 (some .int) n [.int (Int32.ofInt (x)), .int (Int32.ofInt (m)), .null] h (some (.int (Int32.ofInt (x)))) := by
  refine mh_M_ofJ RJ3 rfl (by decide +kernel) [some (.int (Int32.ofInt (x))), some (.int (Int32.ofInt (m))), some (.null)] rfl (Nat.le_of_ble_eq_true rfl) (fun f F Z hn0 hR => ?_)
  refine mh_iload0 (pc := 0) F dJ3_checkIndex_8e157_0 ?_
  refine mh_if_lt (pc := 1) (tgt := 9) F dJ3_checkIndex_8e157_1 rfl (by omega) (fun c_1 => ?_) (fun c_1 => ?_)
  · exfalso; omega
  · refine mh_iload0 (pc := 4) F dJ3_checkIndex_8e157_4 ?_
    refine mh_iload1 (pc := 5) F dJ3_checkIndex_8e157_5 ?_
    refine mh_icmp_lt (pc := 6) (tgt := 16) F dJ3_checkIndex_8e157_6 rfl (by omega) (by omega) (fun c_6 => ?_) (fun c_6 => ?_)
    · refine mh_iload0 (pc := 16) F dJ3_checkIndex_8e157_16 ?_
      exact mh_ireturnp F Z dJ3_checkIndex_8e157_17 rfl rfl
    · exfalso; omega

set_option maxRecDepth 100000 in
set_option maxHeartbeats 1500000 in
theorem ks_ci3r {g : mh_G} {d : Nat} (hd : 1 ≤ d) {h : Nat → Int → Int} {n : Nat} {x m : Int} (hx : 0 ≤ x ∧ x < m) (hm : m ≤ 1000) : mh_MP g d yJ3_checkIndex_8e157 cJ3_checkIndex_8e157 3 (some .int) n [.int (Int32.ofInt (x)), .int (Int32.ofInt (m)), .ref 1000008] h (some (.int (Int32.ofInt (x)))) := by
  refine mh_M_ofJ RJ3 rfl (by decide +kernel) [some (.int (Int32.ofInt (x))), some (.int (Int32.ofInt (m))), some (.ref 1000008)] rfl (Nat.le_of_ble_eq_true rfl) (fun f F Z hn0 hR => ?_)
  refine mh_iload0 (pc := 0) F dJ3_checkIndex_8e157_0 ?_
  refine mh_if_lt (pc := 1) (tgt := 9) F dJ3_checkIndex_8e157_1 rfl (by omega) (fun c_1 => ?_) (fun c_1 => ?_)
  · exfalso; omega
  · refine mh_iload0 (pc := 4) F dJ3_checkIndex_8e157_4 ?_
    refine mh_iload1 (pc := 5) F dJ3_checkIndex_8e157_5 ?_
    refine mh_icmp_lt (pc := 6) (tgt := 16) F dJ3_checkIndex_8e157_6 rfl (by omega) (by omega) (fun c_6 => ?_) (fun c_6 => ?_)
    · refine mh_iload0 (pc := 16) F dJ3_checkIndex_8e157_16 ?_
      exact mh_ireturnp F Z dJ3_checkIndex_8e157_17 rfl rfl
    · exfalso; omega

set_option maxRecDepth 100000 in
set_option maxHeartbeats 1500000 in
theorem ks_ci {g : mh_G} {d : Nat} (hd : 2 ≤ d) {h : Nat → Int → Int} {n : Nat} {x m : Int} (hx : 0 ≤ x ∧ x < m) (hm : m ≤ 1000) : mh_M g d yJ0_checkIndex_df160 cJ0_checkIndex_df160 2 none n 0 0 [.int (Int32.ofInt (x)), .int (Int32.ofInt (m))] h (fun r h2 => r = none ∧ h2 = h) := by
  refine mh_M_ofJ RJ0 rfl (by decide +kernel) [some (.int (Int32.ofInt (x))), some (.int (Int32.ofInt (m)))] rfl (Nat.le_of_ble_eq_true rfl) (fun f F Z hn0 hR => ?_)
  refine mh_iload0 (pc := 0) F dJ0_checkIndex_df160_0 ?_
  refine mh_iload1 (pc := 1) F dJ0_checkIndex_df160_1 ?_
  refine mh_getsI (pc := 2) F rfl dJ0_checkIndex_df160_2 ?_ ?_
  · refine mh_callSp (pc := 5) (As := [.int (Int32.ofInt (x)), .int (Int32.ofInt (m)), .null]) (st := []) F (by omega) (ks_ci3n (by omega) hx hm) ws_RJ0_1059 dJ0_checkIndex_df160_5 rfl rfl (Nat.le_of_ble_eq_true rfl) ⟨Nat.zero_le _, Nat.zero_le _⟩ ?_
    refine mh_pop (pc := 8) F dJ0_checkIndex_df160_8 rfl ?_
    exact mh_return F Z dJ0_checkIndex_df160_9 ⟨rfl, rfl⟩
  · refine mh_callSp (pc := 5) (As := [.int (Int32.ofInt (x)), .int (Int32.ofInt (m)), .ref 1000008]) (st := []) F (by omega) (ks_ci3r (by omega) hx hm) ws_RJ0_1059 dJ0_checkIndex_df160_5 rfl rfl (Nat.le_of_ble_eq_true rfl) ⟨Nat.zero_le _, Nat.zero_le _⟩ ?_
    refine mh_pop (pc := 8) F dJ0_checkIndex_df160_8 rfl ?_
    exact mh_return F Z dJ0_checkIndex_df160_9 ⟨rfl, rfl⟩

set_option maxRecDepth 100000 in
set_option maxHeartbeats 1500000 in
theorem ks_ch1_2 {g : mh_G} {d : Nat} (hd : 4 ≤ d) {h : Nat → Int → Int} {n : Nat} {x : Int} (hx : 0 ≤ x ∧ x < 3) : mh_MP g d yJ1_charAt_3b067 cJ1_charAt_3b067 2 (some .char) n [.ref 1000006, .int (Int32.ofInt (x))] h (some (.int (Int32.ofInt (mh_sB 2 x)))) := by
  refine mh_M_ofJ RJ1 rfl (by decide +kernel) [some (.ref 1000006), some (.int (Int32.ofInt (x)))] rfl (Nat.le_of_ble_eq_true rfl) (fun f F Z hn0 hR => ?_)
  have hsB := mh_sBat (i := 2) (by decide) (j := x) hx
  refine mh_iload1 (pc := 0) F dJ1_charAt_3b067_0 ?_
  refine mh_aload0 (pc := 1) F dJ1_charAt_3b067_1 ?_
  refine mh_strL (i := 2) (x := 3) (pc := 2) F (by decide) rfl (by decide) dJ1_charAt_3b067_2 ?_
  refine mh_callSp (pc := 3) (As := [.int (Int32.ofInt (x)), .int (Int32.ofInt (3))]) (st := []) F (by omega) (ks_ci (x := x) (m := 3) (by omega) (by omega) (by omega)) ws_RJ1_9 dJ1_charAt_3b067_3 rfl rfl (Nat.le_of_ble_eq_true rfl) ⟨Nat.zero_le _, Nat.zero_le _⟩ ?_
  refine mh_aload0 (pc := 6) F dJ1_charAt_3b067_6 ?_
  refine mh_iload1 (pc := 7) F dJ1_charAt_3b067_7 ?_
  refine mh_strB (i := 2) (pc := 8) F (by decide) rfl (show 0 ≤ x ∧ x < 3 from by omega) dJ1_charAt_3b067_8 ?_
  refine mh_sipush (pc := 9) F dJ1_charAt_3b067_9 rfl ?_
  refine mh_iand (pc := 12) F dJ1_charAt_3b067_12 ?_
  refine mh_i2c (pc := 13) F dJ1_charAt_3b067_13 ?_
  exact mh_nreturnp F Z dJ1_charAt_3b067_14 hsB.2.2.1 hsB.2.2.2 rfl

set_option maxRecDepth 100000 in
set_option maxHeartbeats 1500000 in
theorem ks_ch1_3 {g : mh_G} {d : Nat} (hd : 4 ≤ d) {h : Nat → Int → Int} {n : Nat} {x : Int} (hx : 0 ≤ x ∧ x < 17) : mh_MP g d yJ1_charAt_3b067 cJ1_charAt_3b067 2 (some .char) n [.ref 1000007, .int (Int32.ofInt (x))] h (some (.int (Int32.ofInt (mh_sB 3 x)))) := by
  refine mh_M_ofJ RJ1 rfl (by decide +kernel) [some (.ref 1000007), some (.int (Int32.ofInt (x)))] rfl (Nat.le_of_ble_eq_true rfl) (fun f F Z hn0 hR => ?_)
  have hsB := mh_sBat (i := 3) (by decide) (j := x) hx
  refine mh_iload1 (pc := 0) F dJ1_charAt_3b067_0 ?_
  refine mh_aload0 (pc := 1) F dJ1_charAt_3b067_1 ?_
  refine mh_strL (i := 3) (x := 17) (pc := 2) F (by decide) rfl (by decide) dJ1_charAt_3b067_2 ?_
  refine mh_callSp (pc := 3) (As := [.int (Int32.ofInt (x)), .int (Int32.ofInt (17))]) (st := []) F (by omega) (ks_ci (x := x) (m := 17) (by omega) (by omega) (by omega)) ws_RJ1_9 dJ1_charAt_3b067_3 rfl rfl (Nat.le_of_ble_eq_true rfl) ⟨Nat.zero_le _, Nat.zero_le _⟩ ?_
  refine mh_aload0 (pc := 6) F dJ1_charAt_3b067_6 ?_
  refine mh_iload1 (pc := 7) F dJ1_charAt_3b067_7 ?_
  refine mh_strB (i := 3) (pc := 8) F (by decide) rfl (show 0 ≤ x ∧ x < 17 from by omega) dJ1_charAt_3b067_8 ?_
  refine mh_sipush (pc := 9) F dJ1_charAt_3b067_9 rfl ?_
  refine mh_iand (pc := 12) F dJ1_charAt_3b067_12 ?_
  refine mh_i2c (pc := 13) F dJ1_charAt_3b067_13 ?_
  exact mh_nreturnp F Z dJ1_charAt_3b067_14 hsB.2.2.1 hsB.2.2.2 rfl

set_option maxRecDepth 100000 in
set_option maxHeartbeats 1500000 in
theorem ks_char_2 {g : mh_G} {d : Nat} (hd : 5 ≤ d) {h : Nat → Int → Int} {n : Nat} {x : Int} (hx : 0 ≤ x ∧ x < 3) : mh_MP g d yJ0_charAt_5068e cJ0_charAt_5068e 2 (some .char) n [.ref 1000002, .int (Int32.ofInt (x))] h (some (.int (Int32.ofInt (mh_sB 2 x)))) := by
  refine mh_M_ofJ RJ0 rfl (by decide +kernel) [some (.ref 1000002), some (.int (Int32.ofInt (x)))] rfl (Nat.le_of_ble_eq_true rfl) (fun f F Z hn0 hR => ?_)
  have hsB := mh_sBat (i := 2) (by decide) (j := x) hx
  refine mh_aload0 (pc := 0) F dJ0_charAt_5068e_0 ?_
  refine mh_callVSp (pc := 1) (As := []) (st := []) F (by omega) (i := 2) (by decide) rfl (ks_lat_2 (by omega)) wv_RJ0_492 dJ0_charAt_5068e_1 rfl rfl rfl (Nat.le_of_ble_eq_true rfl) ⟨Nat.zero_le _, Nat.zero_le _⟩ ?_
  refine mh_ifb_eq (pc := 4) (tgt := 16) F dJ0_charAt_5068e_4 rfl (fun c_4 => ?_) (fun c_4 => ?_)
  · exact absurd rfl c_4
  · refine mh_aload0 (pc := 7) F dJ0_charAt_5068e_7 ?_
    refine mh_strV (i := 2) (b := 1000006) (pc := 8) F rfl (by decide) rfl rfl dJ0_charAt_5068e_8 ?_
    refine mh_iload1 (pc := 11) F dJ0_charAt_5068e_11 ?_
    refine mh_callSp (pc := 12) (As := [.ref 1000006, .int (Int32.ofInt (x))]) (st := []) F (by omega) (ks_ch1_2 (by omega) hx) ws_RJ0_495 dJ0_charAt_5068e_12 rfl rfl (Nat.le_of_ble_eq_true rfl) ⟨Nat.zero_le _, Nat.zero_le _⟩ ?_
    exact mh_nreturnp F Z dJ0_charAt_5068e_15 rfl hsB.2.2.2 rfl

set_option maxRecDepth 100000 in
set_option maxHeartbeats 1500000 in
theorem ks_char_3 {g : mh_G} {d : Nat} (hd : 5 ≤ d) {h : Nat → Int → Int} {n : Nat} {x : Int} (hx : 0 ≤ x ∧ x < 17) : mh_MP g d yJ0_charAt_5068e cJ0_charAt_5068e 2 (some .char) n [.ref 1000003, .int (Int32.ofInt (x))] h (some (.int (Int32.ofInt (mh_sB 3 x)))) := by
  refine mh_M_ofJ RJ0 rfl (by decide +kernel) [some (.ref 1000003), some (.int (Int32.ofInt (x)))] rfl (Nat.le_of_ble_eq_true rfl) (fun f F Z hn0 hR => ?_)
  have hsB := mh_sBat (i := 3) (by decide) (j := x) hx
  refine mh_aload0 (pc := 0) F dJ0_charAt_5068e_0 ?_
  refine mh_callVSp (pc := 1) (As := []) (st := []) F (by omega) (i := 3) (by decide) rfl (ks_lat_3 (by omega)) wv_RJ0_492 dJ0_charAt_5068e_1 rfl rfl rfl (Nat.le_of_ble_eq_true rfl) ⟨Nat.zero_le _, Nat.zero_le _⟩ ?_
  refine mh_ifb_eq (pc := 4) (tgt := 16) F dJ0_charAt_5068e_4 rfl (fun c_4 => ?_) (fun c_4 => ?_)
  · exact absurd rfl c_4
  · refine mh_aload0 (pc := 7) F dJ0_charAt_5068e_7 ?_
    refine mh_strV (i := 3) (b := 1000007) (pc := 8) F rfl (by decide) rfl rfl dJ0_charAt_5068e_8 ?_
    refine mh_iload1 (pc := 11) F dJ0_charAt_5068e_11 ?_
    refine mh_callSp (pc := 12) (As := [.ref 1000007, .int (Int32.ofInt (x))]) (st := []) F (by omega) (ks_ch1_3 (by omega) hx) ws_RJ0_495 dJ0_charAt_5068e_12 rfl rfl (Nat.le_of_ble_eq_true rfl) ⟨Nat.zero_le _, Nat.zero_le _⟩ ?_
    exact mh_nreturnp F Z dJ0_charAt_5068e_15 rfl hsB.2.2.2 rfl

set_option maxRecDepth 100000 in
set_option maxHeartbeats 1500000 in
theorem ks_enc {g : mh_G} {d : Nat} (hd : 1 ≤ d) {h : Nat → Int → Int} {n : Nat} {x : Int} (hx : -2147483648 ≤ x ∧ x < 2147483648) : mh_MP g d yJ1_canEncode_9a6ad cJ1_canEncode_9a6ad 1 (some .boolean) n [.int (Int32.ofInt (x))] h (some (.int (Int32.ofInt (mh_B (0 ≤ x ∧ x ≤ 255))))) := by
  refine mh_M_ofJ RJ1 rfl (by decide +kernel) [some (.int (Int32.ofInt (x)))] rfl (Nat.le_of_ble_eq_true rfl) (fun f F Z hn0 hR => ?_)
  refine mh_iload0 (pc := 0) F dJ1_canEncode_9a6ad_0 ?_
  refine mh_if_lt (pc := 1) (tgt := 15) F dJ1_canEncode_9a6ad_1 rfl (by omega) (fun c_1 => ?_) (fun c_1 => ?_)
  · refine mh_iconst (pc := 15) F dJ1_canEncode_9a6ad_15 ?_
    exact mh_zreturnp F Z dJ1_canEncode_9a6ad_16 (Or.inr ⟨rfl, (by omega)⟩) rfl
  · refine mh_iload0 (pc := 4) F dJ1_canEncode_9a6ad_4 ?_
    refine mh_sipush (pc := 5) F dJ1_canEncode_9a6ad_5 rfl ?_
    refine mh_icmp_gt (pc := 8) (tgt := 15) F dJ1_canEncode_9a6ad_8 rfl (by omega) (by omega) (fun c_8 => ?_) (fun c_8 => ?_)
    · refine mh_iconst (pc := 15) F dJ1_canEncode_9a6ad_15 ?_
      exact mh_zreturnp F Z dJ1_canEncode_9a6ad_16 (Or.inr ⟨rfl, (by omega)⟩) rfl
    · refine mh_iconst (pc := 11) F dJ1_canEncode_9a6ad_11 ?_
      refine mh_goto (pc := 12) (tgt := 16) F dJ1_canEncode_9a6ad_12 rfl ?_
      exact mh_zreturnp F Z dJ1_canEncode_9a6ad_16 (Or.inl ⟨rfl, (by omega)⟩) rfl

theorem mh_i8v {x : Int} (h : 0 ≤ x ∧ x ≤ 255) : (x ≤ 127 ∧ mh_i8 x = x) ∨ (128 ≤ x ∧ mh_i8 x = x - 256) := by
  have key : ∀ k : Nat, k < 256 → ((k : Int) ≤ 127 ∧ mh_i8 (k : Int) = (k : Int)) ∨ (128 ≤ (k : Int) ∧ mh_i8 (k : Int) = (k : Int) - 256) := by decide +kernel
  have := key x.toNat (by omega)
  rw [Int.toNat_of_nonneg h.1] at this
  exact this
theorem mh_c16v {x : Int} (h : 0 ≤ x ∧ x ≤ 255) : mh_c16 x = x := by
  have key : ∀ k : Nat, k < 256 → mh_c16 (k : Int) = (k : Int) := by decide +kernel
  have := key x.toNat (by omega)
  rw [Int.toNat_of_nonneg h.1] at this
  exact this
set_option maxRecDepth 100000 in
set_option maxHeartbeats 1500000 in
theorem ks_ixc_0 {g : mh_G} {d : Nat} (hd : 1 ≤ d) {h : Nat → Int → Int} {n : Nat} {x : Int} (hx : 0 ≤ x ∧ x ≤ 255) : mh_MP g d yJ1_indexOfChar_4cfef cJ1_indexOfChar_4cfef 6 (some .int) n [.ref 1000004, .int (Int32.ofInt (x)), .int (Int32.ofInt (0)), .int (Int32.ofInt (2))] h (some (.int (Int32.ofInt (sx_nm 0 x)))) := by
  refine mh_M_ofJ RJ1 rfl (by decide +kernel) [some (.ref 1000004), some (.int (Int32.ofInt (x))), some (.int (Int32.ofInt (0))), some (.int (Int32.ofInt (2))), none, none] rfl (Nat.le_of_ble_eq_true rfl) (fun f F Z hn0 hR => ?_)
  have hi8 := mh_i8v hx
  refine mh_iload1 (pc := 0) F dJ1_indexOfChar_4cfef_0 ?_
  refine mh_i2b (pc := 1) F dJ1_indexOfChar_4cfef_1 ?_
  refine mh_istore4 (pc := 2) F dJ1_indexOfChar_4cfef_2 rfl (by decide) ?_
  refine mh_iload2 (pc := 4) F dJ1_indexOfChar_4cfef_4 ?_
  refine mh_istore5 (pc := 5) F dJ1_indexOfChar_4cfef_5 rfl (by decide) ?_
  refine mh_iload5 (pc := 7) F dJ1_indexOfChar_4cfef_7 ?_
  refine mh_iload3 (pc := 9) F dJ1_indexOfChar_4cfef_9 ?_
  refine mh_icmp_ge (pc := 10) (tgt := 31) F dJ1_indexOfChar_4cfef_10 rfl (by omega) (by omega) (fun c_10 => ?_) (fun c_10 => ?_)
  · exact absurd c_10 (by decide)
  · refine mh_aload0 (pc := 13) F dJ1_indexOfChar_4cfef_13 ?_
    refine mh_iload5 (pc := 14) F dJ1_indexOfChar_4cfef_14 ?_
    refine mh_strB (i := 0) (pc := 16) F (by decide) rfl (by decide) dJ1_indexOfChar_4cfef_16 ?_
    refine mh_top (y := 116) (by decide +kernel) ?_
    refine mh_iload4 (pc := 17) F dJ1_indexOfChar_4cfef_17 ?_
    refine mh_icmp_ne (pc := 19) (tgt := 25) F dJ1_indexOfChar_4cfef_19 rfl (by omega) (by omega) (fun c_19 => ?_) (fun c_19 => ?_)
    · refine mh_iinc5 (pc := 25) F dJ1_indexOfChar_4cfef_25 rfl (by decide) ?_
      refine mh_goto (pc := 28) (tgt := 7) F dJ1_indexOfChar_4cfef_28 rfl ?_
      refine mh_iload5 (pc := 7) F dJ1_indexOfChar_4cfef_7 ?_
      refine mh_iload3 (pc := 9) F dJ1_indexOfChar_4cfef_9 ?_
      refine mh_icmp_ge (pc := 10) (tgt := 31) F dJ1_indexOfChar_4cfef_10 rfl (by omega) (by omega) (fun c_10 => ?_) (fun c_10 => ?_)
      · exact absurd c_10 (by decide)
      · refine mh_aload0 (pc := 13) F dJ1_indexOfChar_4cfef_13 ?_
        refine mh_iload5 (pc := 14) F dJ1_indexOfChar_4cfef_14 ?_
        refine mh_strB (i := 0) (pc := 16) F (by decide) rfl (by decide) dJ1_indexOfChar_4cfef_16 ?_
        refine mh_top (y := 113) (by decide +kernel) ?_
        refine mh_iload4 (pc := 17) F dJ1_indexOfChar_4cfef_17 ?_
        refine mh_icmp_ne (pc := 19) (tgt := 25) F dJ1_indexOfChar_4cfef_19 rfl (by omega) (by omega) (fun c_19 => ?_) (fun c_19 => ?_)
        · refine mh_iinc5 (pc := 25) F dJ1_indexOfChar_4cfef_25 rfl (by decide) ?_
          refine mh_goto (pc := 28) (tgt := 7) F dJ1_indexOfChar_4cfef_28 rfl ?_
          refine mh_iload5 (pc := 7) F dJ1_indexOfChar_4cfef_7 ?_
          refine mh_iload3 (pc := 9) F dJ1_indexOfChar_4cfef_9 ?_
          refine mh_icmp_ge (pc := 10) (tgt := 31) F dJ1_indexOfChar_4cfef_10 rfl (by omega) (by omega) (fun c_10 => ?_) (fun c_10 => ?_)
          · refine mh_iconst (pc := 31) F dJ1_indexOfChar_4cfef_31 ?_
            exact mh_ireturnp F Z dJ1_indexOfChar_4cfef_32 (by unfold sx_nm; (repeat' split) <;> first | rfl | (exfalso; omega)) rfl
          · exact absurd c_10 (by decide)
        · refine mh_iload5 (pc := 22) F dJ1_indexOfChar_4cfef_22 ?_
          exact mh_ireturnp F Z dJ1_indexOfChar_4cfef_24 (by unfold sx_nm; (repeat' split) <;> first | rfl | (exfalso; omega)) rfl
    · refine mh_iload5 (pc := 22) F dJ1_indexOfChar_4cfef_22 ?_
      exact mh_ireturnp F Z dJ1_indexOfChar_4cfef_24 (by unfold sx_nm; (repeat' split) <;> first | rfl | (exfalso; omega)) rfl

set_option maxRecDepth 100000 in
set_option maxHeartbeats 1500000 in
theorem ks_ixc_1 {g : mh_G} {d : Nat} (hd : 1 ≤ d) {h : Nat → Int → Int} {n : Nat} {x : Int} (hx : 0 ≤ x ∧ x ≤ 255) : mh_MP g d yJ1_indexOfChar_4cfef cJ1_indexOfChar_4cfef 6 (some .int) n [.ref 1000005, .int (Int32.ofInt (x)), .int (Int32.ofInt (0)), .int (Int32.ofInt (3))] h (some (.int (Int32.ofInt (sx_nm 1 x)))) := by
  refine mh_M_ofJ RJ1 rfl (by decide +kernel) [some (.ref 1000005), some (.int (Int32.ofInt (x))), some (.int (Int32.ofInt (0))), some (.int (Int32.ofInt (3))), none, none] rfl (Nat.le_of_ble_eq_true rfl) (fun f F Z hn0 hR => ?_)
  have hi8 := mh_i8v hx
  refine mh_iload1 (pc := 0) F dJ1_indexOfChar_4cfef_0 ?_
  refine mh_i2b (pc := 1) F dJ1_indexOfChar_4cfef_1 ?_
  refine mh_istore4 (pc := 2) F dJ1_indexOfChar_4cfef_2 rfl (by decide) ?_
  refine mh_iload2 (pc := 4) F dJ1_indexOfChar_4cfef_4 ?_
  refine mh_istore5 (pc := 5) F dJ1_indexOfChar_4cfef_5 rfl (by decide) ?_
  refine mh_iload5 (pc := 7) F dJ1_indexOfChar_4cfef_7 ?_
  refine mh_iload3 (pc := 9) F dJ1_indexOfChar_4cfef_9 ?_
  refine mh_icmp_ge (pc := 10) (tgt := 31) F dJ1_indexOfChar_4cfef_10 rfl (by omega) (by omega) (fun c_10 => ?_) (fun c_10 => ?_)
  · exact absurd c_10 (by decide)
  · refine mh_aload0 (pc := 13) F dJ1_indexOfChar_4cfef_13 ?_
    refine mh_iload5 (pc := 14) F dJ1_indexOfChar_4cfef_14 ?_
    refine mh_strB (i := 1) (pc := 16) F (by decide) rfl (by decide) dJ1_indexOfChar_4cfef_16 ?_
    refine mh_top (y := 115) (by decide +kernel) ?_
    refine mh_iload4 (pc := 17) F dJ1_indexOfChar_4cfef_17 ?_
    refine mh_icmp_ne (pc := 19) (tgt := 25) F dJ1_indexOfChar_4cfef_19 rfl (by omega) (by omega) (fun c_19 => ?_) (fun c_19 => ?_)
    · refine mh_iinc5 (pc := 25) F dJ1_indexOfChar_4cfef_25 rfl (by decide) ?_
      refine mh_goto (pc := 28) (tgt := 7) F dJ1_indexOfChar_4cfef_28 rfl ?_
      refine mh_iload5 (pc := 7) F dJ1_indexOfChar_4cfef_7 ?_
      refine mh_iload3 (pc := 9) F dJ1_indexOfChar_4cfef_9 ?_
      refine mh_icmp_ge (pc := 10) (tgt := 31) F dJ1_indexOfChar_4cfef_10 rfl (by omega) (by omega) (fun c_10 => ?_) (fun c_10 => ?_)
      · exact absurd c_10 (by decide)
      · refine mh_aload0 (pc := 13) F dJ1_indexOfChar_4cfef_13 ?_
        refine mh_iload5 (pc := 14) F dJ1_indexOfChar_4cfef_14 ?_
        refine mh_strB (i := 1) (pc := 16) F (by decide) rfl (by decide) dJ1_indexOfChar_4cfef_16 ?_
        refine mh_top (y := 114) (by decide +kernel) ?_
        refine mh_iload4 (pc := 17) F dJ1_indexOfChar_4cfef_17 ?_
        refine mh_icmp_ne (pc := 19) (tgt := 25) F dJ1_indexOfChar_4cfef_19 rfl (by omega) (by omega) (fun c_19 => ?_) (fun c_19 => ?_)
        · refine mh_iinc5 (pc := 25) F dJ1_indexOfChar_4cfef_25 rfl (by decide) ?_
          refine mh_goto (pc := 28) (tgt := 7) F dJ1_indexOfChar_4cfef_28 rfl ?_
          refine mh_iload5 (pc := 7) F dJ1_indexOfChar_4cfef_7 ?_
          refine mh_iload3 (pc := 9) F dJ1_indexOfChar_4cfef_9 ?_
          refine mh_icmp_ge (pc := 10) (tgt := 31) F dJ1_indexOfChar_4cfef_10 rfl (by omega) (by omega) (fun c_10 => ?_) (fun c_10 => ?_)
          · exact absurd c_10 (by decide)
          · refine mh_aload0 (pc := 13) F dJ1_indexOfChar_4cfef_13 ?_
            refine mh_iload5 (pc := 14) F dJ1_indexOfChar_4cfef_14 ?_
            refine mh_strB (i := 1) (pc := 16) F (by decide) rfl (by decide) dJ1_indexOfChar_4cfef_16 ?_
            refine mh_top (y := 109) (by decide +kernel) ?_
            refine mh_iload4 (pc := 17) F dJ1_indexOfChar_4cfef_17 ?_
            refine mh_icmp_ne (pc := 19) (tgt := 25) F dJ1_indexOfChar_4cfef_19 rfl (by omega) (by omega) (fun c_19 => ?_) (fun c_19 => ?_)
            · refine mh_iinc5 (pc := 25) F dJ1_indexOfChar_4cfef_25 rfl (by decide) ?_
              refine mh_goto (pc := 28) (tgt := 7) F dJ1_indexOfChar_4cfef_28 rfl ?_
              refine mh_iload5 (pc := 7) F dJ1_indexOfChar_4cfef_7 ?_
              refine mh_iload3 (pc := 9) F dJ1_indexOfChar_4cfef_9 ?_
              refine mh_icmp_ge (pc := 10) (tgt := 31) F dJ1_indexOfChar_4cfef_10 rfl (by omega) (by omega) (fun c_10 => ?_) (fun c_10 => ?_)
              · refine mh_iconst (pc := 31) F dJ1_indexOfChar_4cfef_31 ?_
                exact mh_ireturnp F Z dJ1_indexOfChar_4cfef_32 (by unfold sx_nm; (repeat' split) <;> first | rfl | (exfalso; omega)) rfl
              · exact absurd c_10 (by decide)
            · refine mh_iload5 (pc := 22) F dJ1_indexOfChar_4cfef_22 ?_
              exact mh_ireturnp F Z dJ1_indexOfChar_4cfef_24 (by unfold sx_nm; (repeat' split) <;> first | rfl | (exfalso; omega)) rfl
        · refine mh_iload5 (pc := 22) F dJ1_indexOfChar_4cfef_22 ?_
          exact mh_ireturnp F Z dJ1_indexOfChar_4cfef_24 (by unfold sx_nm; (repeat' split) <;> first | rfl | (exfalso; omega)) rfl
    · refine mh_iload5 (pc := 22) F dJ1_indexOfChar_4cfef_22 ?_
      exact mh_ireturnp F Z dJ1_indexOfChar_4cfef_24 (by unfold sx_nm; (repeat' split) <;> first | rfl | (exfalso; omega)) rfl

set_option maxRecDepth 100000 in
set_option maxHeartbeats 1500000 in
theorem ks_ix1_0 {g : mh_G} {d : Nat} (hd : 2 ≤ d) {h : Nat → Int → Int} {n : Nat} {x : Int} (hx : 0 ≤ x ∧ x ≤ 255) : mh_MP g d yJ1_indexOf_4cfef cJ1_indexOf_4cfef 4 (some .int) n [.ref 1000004, .int (Int32.ofInt (x)), .int (Int32.ofInt (0)), .int (Int32.ofInt (2))] h (some (.int (Int32.ofInt (sx_nm 0 x)))) := by
  refine mh_M_ofJ RJ1 rfl (by decide +kernel) [some (.ref 1000004), some (.int (Int32.ofInt (x))), some (.int (Int32.ofInt (0))), some (.int (Int32.ofInt (2)))] rfl (Nat.le_of_ble_eq_true rfl) (fun f F Z hn0 hR => ?_)
  refine mh_iload1 (pc := 0) F dJ1_indexOf_4cfef_0 ?_
  refine mh_callSp (pc := 1) (As := [.int (Int32.ofInt (x))]) (st := []) F (by omega) (ks_enc (by omega) (by omega)) ws_RJ1_88 dJ1_indexOf_4cfef_1 rfl rfl (Nat.le_of_ble_eq_true rfl) ⟨Nat.zero_le _, Nat.zero_le _⟩ ?_
  refine mh_ifb_ne (pc := 4) (tgt := 9) F dJ1_indexOf_4cfef_4 rfl (fun c_4 => ?_) (fun c_4 => ?_)
  · refine mh_iload2 (pc := 9) F dJ1_indexOf_4cfef_9 ?_
    refine mh_iconst (pc := 10) F dJ1_indexOf_4cfef_10 ?_
    refine mh_callSp (pc := 11) (As := [.int (Int32.ofInt (0)), .int (Int32.ofInt (0))]) (st := []) F (by omega) (ks_max (a := 0) (b := 0) (by omega) (by omega) (by omega)) ws_RJ1_92 dJ1_indexOf_4cfef_11 rfl rfl (Nat.le_of_ble_eq_true rfl) ⟨Nat.zero_le _, Nat.zero_le _⟩ ?_
    refine mh_top (y := 0) (by decide +kernel) ?_
    refine mh_istore2 (pc := 14) F dJ1_indexOf_4cfef_14 rfl (by decide) ?_
    refine mh_iload3 (pc := 15) F dJ1_indexOf_4cfef_15 ?_
    refine mh_aload0 (pc := 16) F dJ1_indexOf_4cfef_16 ?_
    refine mh_strL (i := 0) (x := 2) (pc := 17) F (by decide) rfl (by decide) dJ1_indexOf_4cfef_17 ?_
    refine mh_callSp (pc := 18) (As := [.int (Int32.ofInt (2)), .int (Int32.ofInt (2))]) (st := []) F (by omega) (ks_min (a := 2) (b := 2) (by omega) (by omega) (by omega)) ws_RJ1_38 dJ1_indexOf_4cfef_18 rfl rfl (Nat.le_of_ble_eq_true rfl) ⟨Nat.zero_le _, Nat.zero_le _⟩ ?_
    refine mh_top (y := 2) (by decide +kernel) ?_
    refine mh_istore3 (pc := 21) F dJ1_indexOf_4cfef_21 rfl (by decide) ?_
    refine mh_iload2 (pc := 22) F dJ1_indexOf_4cfef_22 ?_
    refine mh_iload3 (pc := 23) F dJ1_indexOf_4cfef_23 ?_
    refine mh_icmp_lt (pc := 24) (tgt := 29) F dJ1_indexOf_4cfef_24 rfl (by omega) (by omega) (fun c_24 => ?_) (fun c_24 => ?_)
    · refine mh_aload0 (pc := 29) F dJ1_indexOf_4cfef_29 ?_
      refine mh_iload1 (pc := 30) F dJ1_indexOf_4cfef_30 ?_
      refine mh_iload2 (pc := 31) F dJ1_indexOf_4cfef_31 ?_
      refine mh_iload3 (pc := 32) F dJ1_indexOf_4cfef_32 ?_
      refine mh_callSp (pc := 33) (As := [.ref 1000004, .int (Int32.ofInt (x)), .int (Int32.ofInt (0)), .int (Int32.ofInt (2))]) (st := []) F (by omega) (ks_ixc_0 (by omega) hx) ws_RJ1_95 dJ1_indexOf_4cfef_33 rfl rfl (Nat.le_of_ble_eq_true rfl) ⟨Nat.zero_le _, Nat.zero_le _⟩ ?_
      exact mh_ireturnp F Z dJ1_indexOf_4cfef_36 rfl rfl
    · exact absurd c_24 (by decide)
  · exact absurd hx c_4

set_option maxRecDepth 100000 in
set_option maxHeartbeats 1500000 in
theorem ks_ix1_1 {g : mh_G} {d : Nat} (hd : 2 ≤ d) {h : Nat → Int → Int} {n : Nat} {x : Int} (hx : 0 ≤ x ∧ x ≤ 255) : mh_MP g d yJ1_indexOf_4cfef cJ1_indexOf_4cfef 4 (some .int) n [.ref 1000005, .int (Int32.ofInt (x)), .int (Int32.ofInt (0)), .int (Int32.ofInt (3))] h (some (.int (Int32.ofInt (sx_nm 1 x)))) := by
  refine mh_M_ofJ RJ1 rfl (by decide +kernel) [some (.ref 1000005), some (.int (Int32.ofInt (x))), some (.int (Int32.ofInt (0))), some (.int (Int32.ofInt (3)))] rfl (Nat.le_of_ble_eq_true rfl) (fun f F Z hn0 hR => ?_)
  refine mh_iload1 (pc := 0) F dJ1_indexOf_4cfef_0 ?_
  refine mh_callSp (pc := 1) (As := [.int (Int32.ofInt (x))]) (st := []) F (by omega) (ks_enc (by omega) (by omega)) ws_RJ1_88 dJ1_indexOf_4cfef_1 rfl rfl (Nat.le_of_ble_eq_true rfl) ⟨Nat.zero_le _, Nat.zero_le _⟩ ?_
  refine mh_ifb_ne (pc := 4) (tgt := 9) F dJ1_indexOf_4cfef_4 rfl (fun c_4 => ?_) (fun c_4 => ?_)
  · refine mh_iload2 (pc := 9) F dJ1_indexOf_4cfef_9 ?_
    refine mh_iconst (pc := 10) F dJ1_indexOf_4cfef_10 ?_
    refine mh_callSp (pc := 11) (As := [.int (Int32.ofInt (0)), .int (Int32.ofInt (0))]) (st := []) F (by omega) (ks_max (a := 0) (b := 0) (by omega) (by omega) (by omega)) ws_RJ1_92 dJ1_indexOf_4cfef_11 rfl rfl (Nat.le_of_ble_eq_true rfl) ⟨Nat.zero_le _, Nat.zero_le _⟩ ?_
    refine mh_top (y := 0) (by decide +kernel) ?_
    refine mh_istore2 (pc := 14) F dJ1_indexOf_4cfef_14 rfl (by decide) ?_
    refine mh_iload3 (pc := 15) F dJ1_indexOf_4cfef_15 ?_
    refine mh_aload0 (pc := 16) F dJ1_indexOf_4cfef_16 ?_
    refine mh_strL (i := 1) (x := 3) (pc := 17) F (by decide) rfl (by decide) dJ1_indexOf_4cfef_17 ?_
    refine mh_callSp (pc := 18) (As := [.int (Int32.ofInt (3)), .int (Int32.ofInt (3))]) (st := []) F (by omega) (ks_min (a := 3) (b := 3) (by omega) (by omega) (by omega)) ws_RJ1_38 dJ1_indexOf_4cfef_18 rfl rfl (Nat.le_of_ble_eq_true rfl) ⟨Nat.zero_le _, Nat.zero_le _⟩ ?_
    refine mh_top (y := 3) (by decide +kernel) ?_
    refine mh_istore3 (pc := 21) F dJ1_indexOf_4cfef_21 rfl (by decide) ?_
    refine mh_iload2 (pc := 22) F dJ1_indexOf_4cfef_22 ?_
    refine mh_iload3 (pc := 23) F dJ1_indexOf_4cfef_23 ?_
    refine mh_icmp_lt (pc := 24) (tgt := 29) F dJ1_indexOf_4cfef_24 rfl (by omega) (by omega) (fun c_24 => ?_) (fun c_24 => ?_)
    · refine mh_aload0 (pc := 29) F dJ1_indexOf_4cfef_29 ?_
      refine mh_iload1 (pc := 30) F dJ1_indexOf_4cfef_30 ?_
      refine mh_iload2 (pc := 31) F dJ1_indexOf_4cfef_31 ?_
      refine mh_iload3 (pc := 32) F dJ1_indexOf_4cfef_32 ?_
      refine mh_callSp (pc := 33) (As := [.ref 1000005, .int (Int32.ofInt (x)), .int (Int32.ofInt (0)), .int (Int32.ofInt (3))]) (st := []) F (by omega) (ks_ixc_1 (by omega) hx) ws_RJ1_95 dJ1_indexOf_4cfef_33 rfl rfl (Nat.le_of_ble_eq_true rfl) ⟨Nat.zero_le _, Nat.zero_le _⟩ ?_
      exact mh_ireturnp F Z dJ1_indexOf_4cfef_36 rfl rfl
    · exact absurd c_24 (by decide)
  · exact absurd hx c_4

set_option maxRecDepth 100000 in
set_option maxHeartbeats 1500000 in
theorem ks_ix2_0 {g : mh_G} {d : Nat} (hd : 4 ≤ d) {h : Nat → Int → Int} {n : Nat} {x : Int} (hx : 0 ≤ x ∧ x ≤ 255) : mh_MP g d yJ0_indexOf_7cf53 cJ0_indexOf_7cf53 3 (some .int) n [.ref 1000000, .int (Int32.ofInt (x)), .int (Int32.ofInt (0))] h (some (.int (Int32.ofInt (sx_nm 0 x)))) := by
  refine mh_M_ofJ RJ0 rfl (by decide +kernel) [some (.ref 1000000), some (.int (Int32.ofInt (x))), some (.int (Int32.ofInt (0)))] rfl (Nat.le_of_ble_eq_true rfl) (fun f F Z hn0 hR => ?_)
  refine mh_aload0 (pc := 0) F dJ0_indexOf_7cf53_0 ?_
  refine mh_callVSp (pc := 1) (As := []) (st := []) F (by omega) (i := 0) (by decide) rfl (ks_lat_0 (by omega)) wv_RJ0_492 dJ0_indexOf_7cf53_1 rfl rfl rfl (Nat.le_of_ble_eq_true rfl) ⟨Nat.zero_le _, Nat.zero_le _⟩ ?_
  refine mh_ifb_eq (pc := 4) (tgt := 23) F dJ0_indexOf_7cf53_4 rfl (fun c_4 => ?_) (fun c_4 => ?_)
  · exact absurd rfl c_4
  · refine mh_aload0 (pc := 7) F dJ0_indexOf_7cf53_7 ?_
    refine mh_strV (i := 0) (b := 1000004) (pc := 8) F rfl (by decide) rfl rfl dJ0_indexOf_7cf53_8 ?_
    refine mh_iload1 (pc := 11) F dJ0_indexOf_7cf53_11 ?_
    refine mh_iload2 (pc := 12) F dJ0_indexOf_7cf53_12 ?_
    refine mh_aload0 (pc := 13) F dJ0_indexOf_7cf53_13 ?_
    refine mh_callVSp (pc := 14) (As := []) (st := [.int (Int32.ofInt (0)), .int (Int32.ofInt (x)), .ref 1000004]) F (by omega) (i := 0) (by decide) rfl (ks_len_0 (by omega)) wv_RJ0_505 dJ0_indexOf_7cf53_14 rfl rfl rfl (Nat.le_of_ble_eq_true rfl) ⟨Nat.zero_le _, Nat.zero_le _⟩ ?_
    refine mh_callSp (pc := 17) (As := [.ref 1000004, .int (Int32.ofInt (x)), .int (Int32.ofInt (0)), .int (Int32.ofInt (2))]) (st := []) F (by omega) (ks_ix1_0 (by omega) hx) ws_RJ0_637 dJ0_indexOf_7cf53_17 rfl rfl (Nat.le_of_ble_eq_true rfl) ⟨Nat.zero_le _, Nat.zero_le _⟩ ?_
    refine mh_goto (pc := 20) (tgt := 36) F dJ0_indexOf_7cf53_20 rfl ?_
    exact mh_ireturnp F Z dJ0_indexOf_7cf53_36 rfl rfl

set_option maxRecDepth 100000 in
set_option maxHeartbeats 1500000 in
theorem ks_ix2_1 {g : mh_G} {d : Nat} (hd : 4 ≤ d) {h : Nat → Int → Int} {n : Nat} {x : Int} (hx : 0 ≤ x ∧ x ≤ 255) : mh_MP g d yJ0_indexOf_7cf53 cJ0_indexOf_7cf53 3 (some .int) n [.ref 1000001, .int (Int32.ofInt (x)), .int (Int32.ofInt (0))] h (some (.int (Int32.ofInt (sx_nm 1 x)))) := by
  refine mh_M_ofJ RJ0 rfl (by decide +kernel) [some (.ref 1000001), some (.int (Int32.ofInt (x))), some (.int (Int32.ofInt (0)))] rfl (Nat.le_of_ble_eq_true rfl) (fun f F Z hn0 hR => ?_)
  refine mh_aload0 (pc := 0) F dJ0_indexOf_7cf53_0 ?_
  refine mh_callVSp (pc := 1) (As := []) (st := []) F (by omega) (i := 1) (by decide) rfl (ks_lat_1 (by omega)) wv_RJ0_492 dJ0_indexOf_7cf53_1 rfl rfl rfl (Nat.le_of_ble_eq_true rfl) ⟨Nat.zero_le _, Nat.zero_le _⟩ ?_
  refine mh_ifb_eq (pc := 4) (tgt := 23) F dJ0_indexOf_7cf53_4 rfl (fun c_4 => ?_) (fun c_4 => ?_)
  · exact absurd rfl c_4
  · refine mh_aload0 (pc := 7) F dJ0_indexOf_7cf53_7 ?_
    refine mh_strV (i := 1) (b := 1000005) (pc := 8) F rfl (by decide) rfl rfl dJ0_indexOf_7cf53_8 ?_
    refine mh_iload1 (pc := 11) F dJ0_indexOf_7cf53_11 ?_
    refine mh_iload2 (pc := 12) F dJ0_indexOf_7cf53_12 ?_
    refine mh_aload0 (pc := 13) F dJ0_indexOf_7cf53_13 ?_
    refine mh_callVSp (pc := 14) (As := []) (st := [.int (Int32.ofInt (0)), .int (Int32.ofInt (x)), .ref 1000005]) F (by omega) (i := 1) (by decide) rfl (ks_len_1 (by omega)) wv_RJ0_505 dJ0_indexOf_7cf53_14 rfl rfl rfl (Nat.le_of_ble_eq_true rfl) ⟨Nat.zero_le _, Nat.zero_le _⟩ ?_
    refine mh_callSp (pc := 17) (As := [.ref 1000005, .int (Int32.ofInt (x)), .int (Int32.ofInt (0)), .int (Int32.ofInt (3))]) (st := []) F (by omega) (ks_ix1_1 (by omega) hx) ws_RJ0_637 dJ0_indexOf_7cf53_17 rfl rfl (Nat.le_of_ble_eq_true rfl) ⟨Nat.zero_le _, Nat.zero_le _⟩ ?_
    refine mh_goto (pc := 20) (tgt := 36) F dJ0_indexOf_7cf53_20 rfl ?_
    exact mh_ireturnp F Z dJ0_indexOf_7cf53_36 rfl rfl

set_option maxRecDepth 100000 in
set_option maxHeartbeats 1500000 in
theorem ks_ix_0 {g : mh_G} {d : Nat} (hd : 5 ≤ d) {h : Nat → Int → Int} {n : Nat} {x : Int} (hx : 0 ≤ x ∧ x ≤ 255) : mh_MP g d yJ0_indexOf_0f7a4 cJ0_indexOf_0f7a4 2 (some .int) n [.ref 1000000, .int (Int32.ofInt (x))] h (some (.int (Int32.ofInt (sx_nm 0 x)))) := by
  refine mh_M_ofJ RJ0 rfl (by decide +kernel) [some (.ref 1000000), some (.int (Int32.ofInt (x)))] rfl (Nat.le_of_ble_eq_true rfl) (fun f F Z hn0 hR => ?_)
  refine mh_aload0 (pc := 0) F dJ0_indexOf_0f7a4_0 ?_
  refine mh_iload1 (pc := 1) F dJ0_indexOf_0f7a4_1 ?_
  refine mh_iconst (pc := 2) F dJ0_indexOf_0f7a4_2 ?_
  refine mh_callVSp (pc := 3) (As := [.int (Int32.ofInt (x)), .int (Int32.ofInt (0))]) (st := []) F (by omega) (i := 0) (by decide) rfl (ks_ix2_0 (by omega) hx) wv_RJ0_633 dJ0_indexOf_0f7a4_3 rfl rfl rfl (Nat.le_of_ble_eq_true rfl) ⟨Nat.zero_le _, Nat.zero_le _⟩ ?_
  exact mh_ireturnp F Z dJ0_indexOf_0f7a4_6 rfl rfl

set_option maxRecDepth 100000 in
set_option maxHeartbeats 1500000 in
theorem ks_ix_1 {g : mh_G} {d : Nat} (hd : 5 ≤ d) {h : Nat → Int → Int} {n : Nat} {x : Int} (hx : 0 ≤ x ∧ x ≤ 255) : mh_MP g d yJ0_indexOf_0f7a4 cJ0_indexOf_0f7a4 2 (some .int) n [.ref 1000001, .int (Int32.ofInt (x))] h (some (.int (Int32.ofInt (sx_nm 1 x)))) := by
  refine mh_M_ofJ RJ0 rfl (by decide +kernel) [some (.ref 1000001), some (.int (Int32.ofInt (x)))] rfl (Nat.le_of_ble_eq_true rfl) (fun f F Z hn0 hR => ?_)
  refine mh_aload0 (pc := 0) F dJ0_indexOf_0f7a4_0 ?_
  refine mh_iload1 (pc := 1) F dJ0_indexOf_0f7a4_1 ?_
  refine mh_iconst (pc := 2) F dJ0_indexOf_0f7a4_2 ?_
  refine mh_callVSp (pc := 3) (As := [.int (Int32.ofInt (x)), .int (Int32.ofInt (0))]) (st := []) F (by omega) (i := 1) (by decide) rfl (ks_ix2_1 (by omega) hx) wv_RJ0_633 dJ0_indexOf_0f7a4_3 rfl rfl rfl (Nat.le_of_ble_eq_true rfl) ⟨Nat.zero_le _, Nat.zero_le _⟩ ?_
  exact mh_ireturnp F Z dJ0_indexOf_0f7a4_6 rfl rfl

theorem ks_ixU {g : mh_G} {d : Nat} (hd : 5 ≤ d) {h : Nat → Int → Int} {n U : Nat} (hU : U = 0 ∨ U = 1) {x : Int} (hx : 0 ≤ x ∧ x ≤ 255) : mh_MP g d yJ0_indexOf_0f7a4 cJ0_indexOf_0f7a4 2 (some .int) n [.ref (1000000 + U), .int (Int32.ofInt x)] h (some (.int (Int32.ofInt (sx_nm (U : Int) x)))) := by
  rcases hU with z | z
  · subst z; exact ks_ix_0 hd hx
  · subst z; exact ks_ix_1 hd hx
