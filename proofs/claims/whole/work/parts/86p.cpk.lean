/-! five numbers of 12 bits in a long -/
def sc_pw (j : Int) : Int := if j = 0 then 1 else if j = 1 then 4096 else if j = 2 then 16777216 else if j = 3 then 68719476736 else 281474976710656
theorem sc_orN (m x v : Nat) (hv : v < 4096) (hz : x / 2 ^ m % 4096 = 0) : x ||| v <<< m = x + v * 2 ^ m := by
  obtain ⟨q, hq⟩ : ∃ q, q = x / 2 ^ m / 4096 := ⟨_, rfl⟩
  obtain ⟨l, hl⟩ : ∃ l, l = x % 2 ^ m := ⟨_, rfl⟩
  have hl2 : l < 2 ^ m := by rw [hl]; exact Nat.mod_lt _ (Nat.two_pow_pos m)
  have e0 : x / 2 ^ m = 4096 * q := by
    rw [hq]
    generalize x / 2 ^ m = y at hz ⊢
    omega
  have e1 : x = 2 ^ m * (4096 * q) + l := by rw [← e0, hl]; exact (Nat.div_add_mod x (2 ^ m)).symm
  have e2 : 2 ^ m * (4096 * q) = 2 ^ (m + 12) * q := by rw [Nat.pow_add, Nat.mul_assoc]
  have hlt : 2 ^ m * v + l < 2 ^ (m + 12) := by
    have a : 2 ^ m * (v + 1) ≤ 2 ^ m * 4096 := Nat.mul_le_mul_left _ hv
    have b : 2 ^ (m + 12) = 2 ^ m * 4096 := by rw [Nat.pow_add]
    rw [b]
    rw [Nat.mul_add, Nat.mul_one] at a
    omega
  have hl3 : l < 2 ^ (m + 12) := Nat.lt_of_le_of_lt (Nat.le_add_left _ _) hlt
  have e3 : x = 2 ^ (m + 12) * q + l := by rw [← e2]; exact e1
  have e4 : x + v * 2 ^ m = 2 ^ (m + 12) * q + (2 ^ m * v + l) := by
    rw [Nat.mul_comm v]
    omega
  rw [e4, Nat.shiftLeft_eq, Nat.two_pow_add_eq_or_of_lt hlt, Nat.two_pow_add_eq_or_of_lt hl2, e3, Nat.two_pow_add_eq_or_of_lt hl3, Nat.mul_comm v, Nat.or_assoc, Nat.or_comm l]
theorem sc_bv64 {x : Int} (h0 : 0 ≤ x) (h1 : x < 1152921504606846976) : (Int64.ofInt x).toBitVec.toNat = x.toNat := by
  have e : (Int64.ofInt x).toBitVec.toNat = (x % ((2 ^ 64 : Nat) : Int)).toNat := BitVec.toNat_ofInt ..
  rw [e]
  omega
theorem sc_getn {x : Int} (h0 : 0 ≤ x) (h1 : x < 1152921504606846976) (k : UInt64) (n : Nat) (e : (k.toBitVec % 64).toNat = n) : (((Int64.ofInt x).toUInt64 >>> k).toInt64.toInt32 &&& Int32.ofInt 4095).toInt = ((x.toNat / 2 ^ n % 4096 : Nat) : Int) := by
  have a1 : ((Int64.ofInt x).toUInt64 >>> k).toBitVec = (Int64.ofInt x).toBitVec >>> n := by
    rw [UInt64.toBitVec_shiftRight, BitVec.ushiftRight_eq', e]; rfl
  have a2 : (((Int64.ofInt x).toUInt64 >>> k).toInt64.toInt32 &&& Int32.ofInt 4095).toBitVec.toNat = x.toNat / 2 ^ n % 4096 := by
    rw [Int32.toBitVec_and, BitVec.toNat_and]
    have b1 : ((Int64.ofInt x).toUInt64 >>> k).toInt64.toInt32.toBitVec.toNat = x.toNat / 2 ^ n % 2 ^ 32 := by
      show (((Int64.ofInt x).toUInt64 >>> k).toBitVec.signExtend 32).toNat = _
      rw [a1, BitVec.signExtend_eq_setWidth_of_le _ (by decide), BitVec.toNat_setWidth, BitVec.toNat_ushiftRight, sc_bv64 h0 h1, Nat.shiftRight_eq_div_pow]
    have b2 : (Int32.ofInt 4095).toBitVec.toNat = 2 ^ 12 - 1 := by decide
    rw [b1, b2, Nat.and_two_pow_sub_one_eq_mod]
    generalize x.toNat / 2 ^ n = y
    omega
  have a3 : x.toNat / 2 ^ n % 4096 < 4096 := Nat.mod_lt _ (by decide)
  show (((Int64.ofInt x).toUInt64 >>> k).toInt64.toInt32 &&& Int32.ofInt 4095).toBitVec.toInt = _
  rw [BitVec.toInt_eq_toNat_of_lt (by rw [a2]; omega), a2]
theorem sc_putn {x v : Int} (h0 : 0 ≤ x) (h1 : x < 1152921504606846976) (v0 : 0 ≤ v) (v1 : v < 4096) (l : Int64) (n : Nat) (e : (l.toBitVec.smod 64).toNat = n) (hz : x.toNat / 2 ^ n % 4096 = 0) (hb : x.toNat + v.toNat * 2 ^ n < 1152921504606846976) : (Int64.ofInt x ||| Int64.ofInt v <<< l).toInt = ((x.toNat + v.toNat * 2 ^ n : Nat) : Int) := by
  have a1 : (Int64.ofInt x ||| Int64.ofInt v <<< l).toBitVec.toNat = x.toNat + v.toNat * 2 ^ n := by
    rw [Int64.toBitVec_or, BitVec.toNat_or, Int64.toBitVec_shiftLeft, BitVec.shiftLeft_eq', e, BitVec.toNat_shiftLeft, sc_bv64 h0 h1, sc_bv64 v0 (by omega), Nat.mod_eq_of_lt, sc_orN n _ _ (by omega) hz]
    rw [Nat.shiftLeft_eq]
    generalize v.toNat * 2 ^ n = y at hb ⊢
    omega
  show (Int64.ofInt x ||| Int64.ofInt v <<< l).toBitVec.toInt = _
  rw [BitVec.toInt_eq_toNat_of_lt (by rw [a1]; generalize v.toNat * 2 ^ n = y at hb ⊢; omega), a1]
theorem sc_getp {x j : Int} (hx : 0 ≤ x ∧ x < 1152921504606846976) (hj : 0 ≤ j ∧ j < 5) : mh_and (mh_l2i (mh_lushr x (12 * j))) 4095 = (x / sc_pw j) % 4096 := by
  unfold mh_and mh_l2i mh_lushr
  rw [Int32.ofInt_toInt, Int64.ofInt_toInt]
  rcases (show j = 0 ∨ j = 1 ∨ j = 2 ∨ j = 3 ∨ j = 4 by omega) with z | z | z | z | z <;> subst z
  · refine (sc_getn hx.1 hx.2 _ 0 (by decide)).trans ?_
    rw [show sc_pw 0 = 1 from rfl]; omega
  · refine (sc_getn hx.1 hx.2 _ 12 (by decide)).trans ?_
    rw [show sc_pw 1 = 4096 from rfl]; omega
  · refine (sc_getn hx.1 hx.2 _ 24 (by decide)).trans ?_
    rw [show sc_pw 2 = 16777216 from rfl]; omega
  · refine (sc_getn hx.1 hx.2 _ 36 (by decide)).trans ?_
    rw [show sc_pw 3 = 68719476736 from rfl]; omega
  · refine (sc_getn hx.1 hx.2 _ 48 (by decide)).trans ?_
    rw [show sc_pw 4 = 281474976710656 from rfl]; omega
theorem sc_putp {x v j : Int} (hx : 0 ≤ x ∧ x < 1152921504606846976) (hj : 0 ≤ j ∧ j < 5) (hv : 0 ≤ v ∧ v < 4096) (hz : (x / sc_pw j) % 4096 = 0) : mh_lor x (mh_lshl v (12 * j)) = x + v * sc_pw j := by
  unfold mh_lor mh_lshl
  rw [Int64.ofInt_toInt]
  rcases (show j = 0 ∨ j = 1 ∨ j = 2 ∨ j = 3 ∨ j = 4 by omega) with z | z | z | z | z <;> subst z
  · rw [show sc_pw 0 = 1 from rfl] at *
    refine (sc_putn hx.1 hx.2 hv.1 hv.2 _ 0 (by decide) (by omega) (by omega)).trans ?_
    omega
  · rw [show sc_pw 1 = 4096 from rfl] at *
    refine (sc_putn hx.1 hx.2 hv.1 hv.2 _ 12 (by decide) (by omega) (by omega)).trans ?_
    omega
  · rw [show sc_pw 2 = 16777216 from rfl] at *
    refine (sc_putn hx.1 hx.2 hv.1 hv.2 _ 24 (by decide) (by omega) (by omega)).trans ?_
    omega
  · rw [show sc_pw 3 = 68719476736 from rfl] at *
    refine (sc_putn hx.1 hx.2 hv.1 hv.2 _ 36 (by decide) (by omega) (by omega)).trans ?_
    omega
  · rw [show sc_pw 4 = 281474976710656 from rfl] at *
    refine (sc_putn hx.1 hx.2 hv.1 hv.2 _ 48 (by decide) (by omega) (by omega)).trans ?_
    omega
/-- what a put changes -/
theorem sc_dig {x v j i : Int} (hx : 0 ≤ x ∧ x < 1152921504606846976) (hj : 0 ≤ j ∧ j < 5) (hi : 0 ≤ i ∧ i < 5) (hv : 0 ≤ v ∧ v < 4096) (hz : (x / sc_pw j) % 4096 = 0) : ((x + v * sc_pw j) / sc_pw i) % 4096 = if i = j then v else (x / sc_pw i) % 4096 := by
  have e0 : sc_pw 0 = 1 := rfl
  have e1 : sc_pw 1 = 4096 := rfl
  have e2 : sc_pw 2 = 16777216 := rfl
  have e3 : sc_pw 3 = 68719476736 := rfl
  have e4 : sc_pw 4 = 281474976710656 := rfl
  rcases (show j = 0 ∨ j = 1 ∨ j = 2 ∨ j = 3 ∨ j = 4 by omega) with z | z | z | z | z <;> subst z <;>
  rcases (show i = 0 ∨ i = 1 ∨ i = 2 ∨ i = 3 ∨ i = 4 by omega) with y | y | y | y | y <;> subst y <;>
  simp only [e0, e1, e2, e3, e4] at hz ⊢ <;> first | omega | (rw [if_pos trivial]; omega) | (rw [if_pos rfl]; omega) | (rw [if_neg (by decide)]; omega)
theorem sc_put_rg {x v j : Int} (hx : 0 ≤ x ∧ x < 1152921504606846976) (hj : 0 ≤ j ∧ j < 5) (hv : 0 ≤ v ∧ v < 4096) (hz : (x / sc_pw j) % 4096 = 0) : 0 ≤ x + v * sc_pw j ∧ x + v * sc_pw j < 1152921504606846976 := by
  have e0 : sc_pw 0 = 1 := rfl
  have e1 : sc_pw 1 = 4096 := rfl
  have e2 : sc_pw 2 = 16777216 := rfl
  have e3 : sc_pw 3 = 68719476736 := rfl
  have e4 : sc_pw 4 = 281474976710656 := rfl
  rcases (show j = 0 ∨ j = 1 ∨ j = 2 ∨ j = 3 ∨ j = 4 by omega) with z | z | z | z | z <;> subst z <;> simp only [e0, e1, e2, e3, e4] at hz ⊢ <;> omega
/-- the row of longs as a row of numbers -/
def sc_fv (r : Int → Int) (p : Int) : Int := (r (p / 5) / sc_pw (p % 5)) % 4096
def sc_lo (x : Int) : Prop := 0 ≤ x ∧ x < 1152921504606846976
theorem sc_fv_rg (r : Int → Int) (p : Int) : 0 ≤ sc_fv r p ∧ sc_fv r p < 4096 := by unfold sc_fv; omega
theorem sc_fv_eq {r r2 : Int → Int} {p : Int} (e : r2 (p / 5) = r (p / 5)) : sc_fv r2 p = sc_fv r p := by unfold sc_fv; rw [e]
theorem sc_fv_0 {r : Int → Int} {p : Int} (e : r (p / 5) = 0) : sc_fv r p = 0 := by unfold sc_fv; rw [e, Int.zero_ediv]; rfl
theorem sc_fv_put {r r2 : Int → Int} {p v : Int} (hx : sc_lo (r (p / 5))) (hv : 0 ≤ v ∧ v < 4096) (hz : sc_fv r p = 0) (e : r2 = mh_ur r (p / 5) (r (p / 5) + v * sc_pw (p % 5))) : sc_fv r2 = mh_ur (sc_fv r) p v ∧ sc_lo (r2 (p / 5)) := by
  refine ⟨?_, by rw [e, mh_ur_eq rfl]; exact sc_put_rg hx (by omega) hv hz⟩
  funext q
  by_cases y : q / 5 = p / 5
  · unfold sc_fv
    rw [e, mh_ur_eq y, sc_dig hx (by omega) (by omega) hv hz]
    by_cases w : q = p
    · rw [if_pos (by omega), mh_ur_eq w]
    · rw [if_neg (by omega), mh_ur_ne w, y]
  · rw [mh_ur_ne (fun w => y (by rw [w]))]
    exact sc_fv_eq (by rw [e, mh_ur_ne y])
