section
variable {g : mh_G} {f : mh_F} {own : String} {cc : ByteArray} {nL d n cl sl pc : Nat} {loc : List (Option Value)} {st : List Value} {h : Nat → Int → Int} {ret : Option FieldType} {post : Option Value → (Nat → Int → Int) → Prop}
def mh_c1 (x : Option Value) : Bool := match x with
  | some (.long _) => false
  | some (.double _) => false
  | _ => true
theorem mh_c1_ok {x : Option Value} (h : mh_c1 x = true) : mh_clo x = x := by
  cases x with
  | none => rfl
  | some w => cases w <;> first | rfl | exact absurd h Bool.false_ne_true
theorem mh_st1_s {r : List (Option Value)} {v : Value} : ∀ (l : List (Option Value)) (x : Option Value), mh_c1 x = true → mh_st1 (l ++ x :: r) (l.length + 1) v = l ++ x :: mh_st1 r 0 v := by
  intro l
  induction l with
  | nil =>
    intro x hx
    have e := mh_c1_ok hx
    simp only [mh_st1, List.nil_append, List.length_nil, Nat.zero_add, e]
  | cons y l ih =>
    intro x hx
    show y :: mh_st1 (l ++ x :: r) (l.length + 1) v = _
    rw [ih x hx]; rfl
theorem mh_st2_0 {v : Value} {a b : Option Value} {r : List (Option Value)} : mh_st2 (a :: b :: r) 0 v = some v :: none :: r := by
  simp [mh_st2]
theorem mh_st2_s {v : Value} {a b : Option Value} {r : List (Option Value)} : ∀ (l : List (Option Value)) (x : Option Value), mh_c1 x = true → mh_st2 (l ++ x :: a :: b :: r) (l.length + 1) v = l ++ x :: some v :: none :: r := by
  intro l
  induction l with
  | nil =>
    intro x hx
    have e := mh_c1_ok hx
    have : mh_st2 (x :: a :: b :: r) 1 v = mh_clo x :: some v :: none :: r := by
      simp [mh_st2]
    simp only [List.nil_append, List.length_nil, Nat.zero_add]
    rw [this, e]
  | cons y l ih =>
    intro x hx
    have h := ih x hx
    have : mh_st2 (y :: (l ++ x :: a :: b :: r)) (l.length + 1 + 1) v = y :: mh_st2 (l ++ x :: a :: b :: r) (l.length + 1) v := by
      unfold mh_st2
      simp only [List.set_cons_succ, Nat.add_sub_cancel, List.modify_succ_cons, if_neg (Nat.succ_ne_zero _)]
    simp only [List.cons_append, List.length_cons]
    rw [this, h]
theorem mh_iload0 (F : mh_Fr g f own cc nL d) {r : List (Option Value)} {x : Int32} (hd : decode cc pc = .ok (.iload_n 0, 1)) (k : mh_V g f nL n cl sl (pc + 1) (some (.int x) :: r) (.int x :: st) h) : mh_V g f nL n cl sl pc (some (.int x) :: r) st h := mh_iload_n (i := (0 : Fin 4)) F hd rfl k
theorem mh_istore0 (F : mh_Fr g f own cc nL d) {r : List (Option Value)} {y : Option Value} {x : Int32} (hd : decode cc pc = .ok (.istore_n 0, 1)) (hn : 0 < nL) (k : mh_V g f nL n cl sl (pc + 1) (some (.int x) :: r) st h) : mh_V g f nL n cl sl pc (y :: r) (.int x :: st) h := mh_istoreg_n (i := (0 : Fin 4)) F hd hn (by show mh_V g f nL n cl sl (pc + 1) (mh_st1 (y :: r) 0 (.int x)) st h; rw [show mh_st1 (y :: r) 0 (.int x) = some (.int x) :: r from rfl] ; exact k)
theorem mh_iload1 (F : mh_Fr g f own cc nL d) {x0 : Option Value} {r : List (Option Value)} {x : Int32} (hd : decode cc pc = .ok (.iload_n 1, 1)) (k : mh_V g f nL n cl sl (pc + 1) (x0 :: some (.int x) :: r) (.int x :: st) h) : mh_V g f nL n cl sl pc (x0 :: some (.int x) :: r) st h := mh_iload_n (i := (1 : Fin 4)) F hd rfl k
theorem mh_istore1 (F : mh_Fr g f own cc nL d) {x0 : Option Value} {r : List (Option Value)} {y : Option Value} {x : Int32} (hd : decode cc pc = .ok (.istore_n 1, 1)) (hc : mh_c1 x0 = true) (hn : 1 < nL) (k : mh_V g f nL n cl sl (pc + 1) (x0 :: some (.int x) :: r) st h) : mh_V g f nL n cl sl pc (x0 :: y :: r) (.int x :: st) h := mh_istoreg_n (i := (1 : Fin 4)) F hd hn (by show mh_V g f nL n cl sl (pc + 1) (mh_st1 (x0 :: y :: r) 1 (.int x)) st h; rw [show mh_st1 (x0 :: y :: r) 1 (.int x) = x0 :: some (.int x) :: r from (mh_st1_s (r := y :: r) [] x0 hc)] ; exact k)
theorem mh_iload2 (F : mh_Fr g f own cc nL d) {x0 x1 : Option Value} {r : List (Option Value)} {x : Int32} (hd : decode cc pc = .ok (.iload_n 2, 1)) (k : mh_V g f nL n cl sl (pc + 1) (x0 :: x1 :: some (.int x) :: r) (.int x :: st) h) : mh_V g f nL n cl sl pc (x0 :: x1 :: some (.int x) :: r) st h := mh_iload_n (i := (2 : Fin 4)) F hd rfl k
theorem mh_istore2 (F : mh_Fr g f own cc nL d) {x0 x1 : Option Value} {r : List (Option Value)} {y : Option Value} {x : Int32} (hd : decode cc pc = .ok (.istore_n 2, 1)) (hc : mh_c1 x1 = true) (hn : 2 < nL) (k : mh_V g f nL n cl sl (pc + 1) (x0 :: x1 :: some (.int x) :: r) st h) : mh_V g f nL n cl sl pc (x0 :: x1 :: y :: r) (.int x :: st) h := mh_istoreg_n (i := (2 : Fin 4)) F hd hn (by show mh_V g f nL n cl sl (pc + 1) (mh_st1 (x0 :: x1 :: y :: r) 2 (.int x)) st h; rw [show mh_st1 (x0 :: x1 :: y :: r) 2 (.int x) = x0 :: x1 :: some (.int x) :: r from (mh_st1_s (r := y :: r) [x0] x1 hc)] ; exact k)
theorem mh_iload3 (F : mh_Fr g f own cc nL d) {x0 x1 x2 : Option Value} {r : List (Option Value)} {x : Int32} (hd : decode cc pc = .ok (.iload_n 3, 1)) (k : mh_V g f nL n cl sl (pc + 1) (x0 :: x1 :: x2 :: some (.int x) :: r) (.int x :: st) h) : mh_V g f nL n cl sl pc (x0 :: x1 :: x2 :: some (.int x) :: r) st h := mh_iload_n (i := (3 : Fin 4)) F hd rfl k
theorem mh_istore3 (F : mh_Fr g f own cc nL d) {x0 x1 x2 : Option Value} {r : List (Option Value)} {y : Option Value} {x : Int32} (hd : decode cc pc = .ok (.istore_n 3, 1)) (hc : mh_c1 x2 = true) (hn : 3 < nL) (k : mh_V g f nL n cl sl (pc + 1) (x0 :: x1 :: x2 :: some (.int x) :: r) st h) : mh_V g f nL n cl sl pc (x0 :: x1 :: x2 :: y :: r) (.int x :: st) h := mh_istoreg_n (i := (3 : Fin 4)) F hd hn (by show mh_V g f nL n cl sl (pc + 1) (mh_st1 (x0 :: x1 :: x2 :: y :: r) 3 (.int x)) st h; rw [show mh_st1 (x0 :: x1 :: x2 :: y :: r) 3 (.int x) = x0 :: x1 :: x2 :: some (.int x) :: r from (mh_st1_s (r := y :: r) [x0, x1] x2 hc)] ; exact k)
theorem mh_iload4 (F : mh_Fr g f own cc nL d) {x0 x1 x2 x3 : Option Value} {r : List (Option Value)} {x : Int32} (hd : decode cc pc = .ok (.iload 4, 2)) (k : mh_V g f nL n cl sl (pc + 2) (x0 :: x1 :: x2 :: x3 :: some (.int x) :: r) (.int x :: st) h) : mh_V g f nL n cl sl pc (x0 :: x1 :: x2 :: x3 :: some (.int x) :: r) st h := mh_iload F hd rfl k
theorem mh_istore4 (F : mh_Fr g f own cc nL d) {x0 x1 x2 x3 : Option Value} {r : List (Option Value)} {y : Option Value} {x : Int32} (hd : decode cc pc = .ok (.istore 4, 2)) (hc : mh_c1 x3 = true) (hn : 4 < nL) (k : mh_V g f nL n cl sl (pc + 2) (x0 :: x1 :: x2 :: x3 :: some (.int x) :: r) st h) : mh_V g f nL n cl sl pc (x0 :: x1 :: x2 :: x3 :: y :: r) (.int x :: st) h := mh_istoreg (i := 4) F hd hn (by show mh_V g f nL n cl sl (pc + 2) (mh_st1 (x0 :: x1 :: x2 :: x3 :: y :: r) 4 (.int x)) st h; rw [show mh_st1 (x0 :: x1 :: x2 :: x3 :: y :: r) 4 (.int x) = x0 :: x1 :: x2 :: x3 :: some (.int x) :: r from (mh_st1_s (r := y :: r) [x0, x1, x2] x3 hc)] ; exact k)
theorem mh_iload5 (F : mh_Fr g f own cc nL d) {x0 x1 x2 x3 x4 : Option Value} {r : List (Option Value)} {x : Int32} (hd : decode cc pc = .ok (.iload 5, 2)) (k : mh_V g f nL n cl sl (pc + 2) (x0 :: x1 :: x2 :: x3 :: x4 :: some (.int x) :: r) (.int x :: st) h) : mh_V g f nL n cl sl pc (x0 :: x1 :: x2 :: x3 :: x4 :: some (.int x) :: r) st h := mh_iload F hd rfl k
theorem mh_istore5 (F : mh_Fr g f own cc nL d) {x0 x1 x2 x3 x4 : Option Value} {r : List (Option Value)} {y : Option Value} {x : Int32} (hd : decode cc pc = .ok (.istore 5, 2)) (hc : mh_c1 x4 = true) (hn : 5 < nL) (k : mh_V g f nL n cl sl (pc + 2) (x0 :: x1 :: x2 :: x3 :: x4 :: some (.int x) :: r) st h) : mh_V g f nL n cl sl pc (x0 :: x1 :: x2 :: x3 :: x4 :: y :: r) (.int x :: st) h := mh_istoreg (i := 5) F hd hn (by show mh_V g f nL n cl sl (pc + 2) (mh_st1 (x0 :: x1 :: x2 :: x3 :: x4 :: y :: r) 5 (.int x)) st h; rw [show mh_st1 (x0 :: x1 :: x2 :: x3 :: x4 :: y :: r) 5 (.int x) = x0 :: x1 :: x2 :: x3 :: x4 :: some (.int x) :: r from (mh_st1_s (r := y :: r) [x0, x1, x2, x3] x4 hc)] ; exact k)
theorem mh_iload6 (F : mh_Fr g f own cc nL d) {x0 x1 x2 x3 x4 x5 : Option Value} {r : List (Option Value)} {x : Int32} (hd : decode cc pc = .ok (.iload 6, 2)) (k : mh_V g f nL n cl sl (pc + 2) (x0 :: x1 :: x2 :: x3 :: x4 :: x5 :: some (.int x) :: r) (.int x :: st) h) : mh_V g f nL n cl sl pc (x0 :: x1 :: x2 :: x3 :: x4 :: x5 :: some (.int x) :: r) st h := mh_iload F hd rfl k
theorem mh_istore6 (F : mh_Fr g f own cc nL d) {x0 x1 x2 x3 x4 x5 : Option Value} {r : List (Option Value)} {y : Option Value} {x : Int32} (hd : decode cc pc = .ok (.istore 6, 2)) (hc : mh_c1 x5 = true) (hn : 6 < nL) (k : mh_V g f nL n cl sl (pc + 2) (x0 :: x1 :: x2 :: x3 :: x4 :: x5 :: some (.int x) :: r) st h) : mh_V g f nL n cl sl pc (x0 :: x1 :: x2 :: x3 :: x4 :: x5 :: y :: r) (.int x :: st) h := mh_istoreg (i := 6) F hd hn (by show mh_V g f nL n cl sl (pc + 2) (mh_st1 (x0 :: x1 :: x2 :: x3 :: x4 :: x5 :: y :: r) 6 (.int x)) st h; rw [show mh_st1 (x0 :: x1 :: x2 :: x3 :: x4 :: x5 :: y :: r) 6 (.int x) = x0 :: x1 :: x2 :: x3 :: x4 :: x5 :: some (.int x) :: r from (mh_st1_s (r := y :: r) [x0, x1, x2, x3, x4] x5 hc)] ; exact k)
theorem mh_iload7 (F : mh_Fr g f own cc nL d) {x0 x1 x2 x3 x4 x5 x6 : Option Value} {r : List (Option Value)} {x : Int32} (hd : decode cc pc = .ok (.iload 7, 2)) (k : mh_V g f nL n cl sl (pc + 2) (x0 :: x1 :: x2 :: x3 :: x4 :: x5 :: x6 :: some (.int x) :: r) (.int x :: st) h) : mh_V g f nL n cl sl pc (x0 :: x1 :: x2 :: x3 :: x4 :: x5 :: x6 :: some (.int x) :: r) st h := mh_iload F hd rfl k
theorem mh_istore7 (F : mh_Fr g f own cc nL d) {x0 x1 x2 x3 x4 x5 x6 : Option Value} {r : List (Option Value)} {y : Option Value} {x : Int32} (hd : decode cc pc = .ok (.istore 7, 2)) (hc : mh_c1 x6 = true) (hn : 7 < nL) (k : mh_V g f nL n cl sl (pc + 2) (x0 :: x1 :: x2 :: x3 :: x4 :: x5 :: x6 :: some (.int x) :: r) st h) : mh_V g f nL n cl sl pc (x0 :: x1 :: x2 :: x3 :: x4 :: x5 :: x6 :: y :: r) (.int x :: st) h := mh_istoreg (i := 7) F hd hn (by show mh_V g f nL n cl sl (pc + 2) (mh_st1 (x0 :: x1 :: x2 :: x3 :: x4 :: x5 :: x6 :: y :: r) 7 (.int x)) st h; rw [show mh_st1 (x0 :: x1 :: x2 :: x3 :: x4 :: x5 :: x6 :: y :: r) 7 (.int x) = x0 :: x1 :: x2 :: x3 :: x4 :: x5 :: x6 :: some (.int x) :: r from (mh_st1_s (r := y :: r) [x0, x1, x2, x3, x4, x5] x6 hc)] ; exact k)
theorem mh_iload8 (F : mh_Fr g f own cc nL d) {x0 x1 x2 x3 x4 x5 x6 x7 : Option Value} {r : List (Option Value)} {x : Int32} (hd : decode cc pc = .ok (.iload 8, 2)) (k : mh_V g f nL n cl sl (pc + 2) (x0 :: x1 :: x2 :: x3 :: x4 :: x5 :: x6 :: x7 :: some (.int x) :: r) (.int x :: st) h) : mh_V g f nL n cl sl pc (x0 :: x1 :: x2 :: x3 :: x4 :: x5 :: x6 :: x7 :: some (.int x) :: r) st h := mh_iload F hd rfl k
theorem mh_istore8 (F : mh_Fr g f own cc nL d) {x0 x1 x2 x3 x4 x5 x6 x7 : Option Value} {r : List (Option Value)} {y : Option Value} {x : Int32} (hd : decode cc pc = .ok (.istore 8, 2)) (hc : mh_c1 x7 = true) (hn : 8 < nL) (k : mh_V g f nL n cl sl (pc + 2) (x0 :: x1 :: x2 :: x3 :: x4 :: x5 :: x6 :: x7 :: some (.int x) :: r) st h) : mh_V g f nL n cl sl pc (x0 :: x1 :: x2 :: x3 :: x4 :: x5 :: x6 :: x7 :: y :: r) (.int x :: st) h := mh_istoreg (i := 8) F hd hn (by show mh_V g f nL n cl sl (pc + 2) (mh_st1 (x0 :: x1 :: x2 :: x3 :: x4 :: x5 :: x6 :: x7 :: y :: r) 8 (.int x)) st h; rw [show mh_st1 (x0 :: x1 :: x2 :: x3 :: x4 :: x5 :: x6 :: x7 :: y :: r) 8 (.int x) = x0 :: x1 :: x2 :: x3 :: x4 :: x5 :: x6 :: x7 :: some (.int x) :: r from (mh_st1_s (r := y :: r) [x0, x1, x2, x3, x4, x5, x6] x7 hc)] ; exact k)
theorem mh_iload9 (F : mh_Fr g f own cc nL d) {x0 x1 x2 x3 x4 x5 x6 x7 x8 : Option Value} {r : List (Option Value)} {x : Int32} (hd : decode cc pc = .ok (.iload 9, 2)) (k : mh_V g f nL n cl sl (pc + 2) (x0 :: x1 :: x2 :: x3 :: x4 :: x5 :: x6 :: x7 :: x8 :: some (.int x) :: r) (.int x :: st) h) : mh_V g f nL n cl sl pc (x0 :: x1 :: x2 :: x3 :: x4 :: x5 :: x6 :: x7 :: x8 :: some (.int x) :: r) st h := mh_iload F hd rfl k
theorem mh_istore9 (F : mh_Fr g f own cc nL d) {x0 x1 x2 x3 x4 x5 x6 x7 x8 : Option Value} {r : List (Option Value)} {y : Option Value} {x : Int32} (hd : decode cc pc = .ok (.istore 9, 2)) (hc : mh_c1 x8 = true) (hn : 9 < nL) (k : mh_V g f nL n cl sl (pc + 2) (x0 :: x1 :: x2 :: x3 :: x4 :: x5 :: x6 :: x7 :: x8 :: some (.int x) :: r) st h) : mh_V g f nL n cl sl pc (x0 :: x1 :: x2 :: x3 :: x4 :: x5 :: x6 :: x7 :: x8 :: y :: r) (.int x :: st) h := mh_istoreg (i := 9) F hd hn (by show mh_V g f nL n cl sl (pc + 2) (mh_st1 (x0 :: x1 :: x2 :: x3 :: x4 :: x5 :: x6 :: x7 :: x8 :: y :: r) 9 (.int x)) st h; rw [show mh_st1 (x0 :: x1 :: x2 :: x3 :: x4 :: x5 :: x6 :: x7 :: x8 :: y :: r) 9 (.int x) = x0 :: x1 :: x2 :: x3 :: x4 :: x5 :: x6 :: x7 :: x8 :: some (.int x) :: r from (mh_st1_s (r := y :: r) [x0, x1, x2, x3, x4, x5, x6, x7] x8 hc)] ; exact k)
theorem mh_iload10 (F : mh_Fr g f own cc nL d) {x0 x1 x2 x3 x4 x5 x6 x7 x8 x9 : Option Value} {r : List (Option Value)} {x : Int32} (hd : decode cc pc = .ok (.iload 10, 2)) (k : mh_V g f nL n cl sl (pc + 2) (x0 :: x1 :: x2 :: x3 :: x4 :: x5 :: x6 :: x7 :: x8 :: x9 :: some (.int x) :: r) (.int x :: st) h) : mh_V g f nL n cl sl pc (x0 :: x1 :: x2 :: x3 :: x4 :: x5 :: x6 :: x7 :: x8 :: x9 :: some (.int x) :: r) st h := mh_iload F hd rfl k
theorem mh_istore10 (F : mh_Fr g f own cc nL d) {x0 x1 x2 x3 x4 x5 x6 x7 x8 x9 : Option Value} {r : List (Option Value)} {y : Option Value} {x : Int32} (hd : decode cc pc = .ok (.istore 10, 2)) (hc : mh_c1 x9 = true) (hn : 10 < nL) (k : mh_V g f nL n cl sl (pc + 2) (x0 :: x1 :: x2 :: x3 :: x4 :: x5 :: x6 :: x7 :: x8 :: x9 :: some (.int x) :: r) st h) : mh_V g f nL n cl sl pc (x0 :: x1 :: x2 :: x3 :: x4 :: x5 :: x6 :: x7 :: x8 :: x9 :: y :: r) (.int x :: st) h := mh_istoreg (i := 10) F hd hn (by show mh_V g f nL n cl sl (pc + 2) (mh_st1 (x0 :: x1 :: x2 :: x3 :: x4 :: x5 :: x6 :: x7 :: x8 :: x9 :: y :: r) 10 (.int x)) st h; rw [show mh_st1 (x0 :: x1 :: x2 :: x3 :: x4 :: x5 :: x6 :: x7 :: x8 :: x9 :: y :: r) 10 (.int x) = x0 :: x1 :: x2 :: x3 :: x4 :: x5 :: x6 :: x7 :: x8 :: x9 :: some (.int x) :: r from (mh_st1_s (r := y :: r) [x0, x1, x2, x3, x4, x5, x6, x7, x8] x9 hc)] ; exact k)
theorem mh_iload11 (F : mh_Fr g f own cc nL d) {x0 x1 x2 x3 x4 x5 x6 x7 x8 x9 x10 : Option Value} {r : List (Option Value)} {x : Int32} (hd : decode cc pc = .ok (.iload 11, 2)) (k : mh_V g f nL n cl sl (pc + 2) (x0 :: x1 :: x2 :: x3 :: x4 :: x5 :: x6 :: x7 :: x8 :: x9 :: x10 :: some (.int x) :: r) (.int x :: st) h) : mh_V g f nL n cl sl pc (x0 :: x1 :: x2 :: x3 :: x4 :: x5 :: x6 :: x7 :: x8 :: x9 :: x10 :: some (.int x) :: r) st h := mh_iload F hd rfl k
theorem mh_istore11 (F : mh_Fr g f own cc nL d) {x0 x1 x2 x3 x4 x5 x6 x7 x8 x9 x10 : Option Value} {r : List (Option Value)} {y : Option Value} {x : Int32} (hd : decode cc pc = .ok (.istore 11, 2)) (hc : mh_c1 x10 = true) (hn : 11 < nL) (k : mh_V g f nL n cl sl (pc + 2) (x0 :: x1 :: x2 :: x3 :: x4 :: x5 :: x6 :: x7 :: x8 :: x9 :: x10 :: some (.int x) :: r) st h) : mh_V g f nL n cl sl pc (x0 :: x1 :: x2 :: x3 :: x4 :: x5 :: x6 :: x7 :: x8 :: x9 :: x10 :: y :: r) (.int x :: st) h := mh_istoreg (i := 11) F hd hn (by show mh_V g f nL n cl sl (pc + 2) (mh_st1 (x0 :: x1 :: x2 :: x3 :: x4 :: x5 :: x6 :: x7 :: x8 :: x9 :: x10 :: y :: r) 11 (.int x)) st h; rw [show mh_st1 (x0 :: x1 :: x2 :: x3 :: x4 :: x5 :: x6 :: x7 :: x8 :: x9 :: x10 :: y :: r) 11 (.int x) = x0 :: x1 :: x2 :: x3 :: x4 :: x5 :: x6 :: x7 :: x8 :: x9 :: x10 :: some (.int x) :: r from (mh_st1_s (r := y :: r) [x0, x1, x2, x3, x4, x5, x6, x7, x8, x9] x10 hc)] ; exact k)
theorem mh_iload12 (F : mh_Fr g f own cc nL d) {x0 x1 x2 x3 x4 x5 x6 x7 x8 x9 x10 x11 : Option Value} {r : List (Option Value)} {x : Int32} (hd : decode cc pc = .ok (.iload 12, 2)) (k : mh_V g f nL n cl sl (pc + 2) (x0 :: x1 :: x2 :: x3 :: x4 :: x5 :: x6 :: x7 :: x8 :: x9 :: x10 :: x11 :: some (.int x) :: r) (.int x :: st) h) : mh_V g f nL n cl sl pc (x0 :: x1 :: x2 :: x3 :: x4 :: x5 :: x6 :: x7 :: x8 :: x9 :: x10 :: x11 :: some (.int x) :: r) st h := mh_iload F hd rfl k
theorem mh_istore12 (F : mh_Fr g f own cc nL d) {x0 x1 x2 x3 x4 x5 x6 x7 x8 x9 x10 x11 : Option Value} {r : List (Option Value)} {y : Option Value} {x : Int32} (hd : decode cc pc = .ok (.istore 12, 2)) (hc : mh_c1 x11 = true) (hn : 12 < nL) (k : mh_V g f nL n cl sl (pc + 2) (x0 :: x1 :: x2 :: x3 :: x4 :: x5 :: x6 :: x7 :: x8 :: x9 :: x10 :: x11 :: some (.int x) :: r) st h) : mh_V g f nL n cl sl pc (x0 :: x1 :: x2 :: x3 :: x4 :: x5 :: x6 :: x7 :: x8 :: x9 :: x10 :: x11 :: y :: r) (.int x :: st) h := mh_istoreg (i := 12) F hd hn (by show mh_V g f nL n cl sl (pc + 2) (mh_st1 (x0 :: x1 :: x2 :: x3 :: x4 :: x5 :: x6 :: x7 :: x8 :: x9 :: x10 :: x11 :: y :: r) 12 (.int x)) st h; rw [show mh_st1 (x0 :: x1 :: x2 :: x3 :: x4 :: x5 :: x6 :: x7 :: x8 :: x9 :: x10 :: x11 :: y :: r) 12 (.int x) = x0 :: x1 :: x2 :: x3 :: x4 :: x5 :: x6 :: x7 :: x8 :: x9 :: x10 :: x11 :: some (.int x) :: r from (mh_st1_s (r := y :: r) [x0, x1, x2, x3, x4, x5, x6, x7, x8, x9, x10] x11 hc)] ; exact k)
theorem mh_iload13 (F : mh_Fr g f own cc nL d) {x0 x1 x2 x3 x4 x5 x6 x7 x8 x9 x10 x11 x12 : Option Value} {r : List (Option Value)} {x : Int32} (hd : decode cc pc = .ok (.iload 13, 2)) (k : mh_V g f nL n cl sl (pc + 2) (x0 :: x1 :: x2 :: x3 :: x4 :: x5 :: x6 :: x7 :: x8 :: x9 :: x10 :: x11 :: x12 :: some (.int x) :: r) (.int x :: st) h) : mh_V g f nL n cl sl pc (x0 :: x1 :: x2 :: x3 :: x4 :: x5 :: x6 :: x7 :: x8 :: x9 :: x10 :: x11 :: x12 :: some (.int x) :: r) st h := mh_iload F hd rfl k
theorem mh_istore13 (F : mh_Fr g f own cc nL d) {x0 x1 x2 x3 x4 x5 x6 x7 x8 x9 x10 x11 x12 : Option Value} {r : List (Option Value)} {y : Option Value} {x : Int32} (hd : decode cc pc = .ok (.istore 13, 2)) (hc : mh_c1 x12 = true) (hn : 13 < nL) (k : mh_V g f nL n cl sl (pc + 2) (x0 :: x1 :: x2 :: x3 :: x4 :: x5 :: x6 :: x7 :: x8 :: x9 :: x10 :: x11 :: x12 :: some (.int x) :: r) st h) : mh_V g f nL n cl sl pc (x0 :: x1 :: x2 :: x3 :: x4 :: x5 :: x6 :: x7 :: x8 :: x9 :: x10 :: x11 :: x12 :: y :: r) (.int x :: st) h := mh_istoreg (i := 13) F hd hn (by show mh_V g f nL n cl sl (pc + 2) (mh_st1 (x0 :: x1 :: x2 :: x3 :: x4 :: x5 :: x6 :: x7 :: x8 :: x9 :: x10 :: x11 :: x12 :: y :: r) 13 (.int x)) st h; rw [show mh_st1 (x0 :: x1 :: x2 :: x3 :: x4 :: x5 :: x6 :: x7 :: x8 :: x9 :: x10 :: x11 :: x12 :: y :: r) 13 (.int x) = x0 :: x1 :: x2 :: x3 :: x4 :: x5 :: x6 :: x7 :: x8 :: x9 :: x10 :: x11 :: x12 :: some (.int x) :: r from (mh_st1_s (r := y :: r) [x0, x1, x2, x3, x4, x5, x6, x7, x8, x9, x10, x11] x12 hc)] ; exact k)
theorem mh_aload0 (F : mh_Fr g f own cc nL d) {r : List (Option Value)} {x : Nat} (hd : decode cc pc = .ok (.aload_n 0, 1)) (k : mh_V g f nL n cl sl (pc + 1) (some (.ref x) :: r) (.ref x :: st) h) : mh_V g f nL n cl sl pc (some (.ref x) :: r) st h := mh_aload_n (i := (0 : Fin 4)) F hd rfl k
theorem mh_astore0 (F : mh_Fr g f own cc nL d) {r : List (Option Value)} {y : Option Value} {x : Nat} (hd : decode cc pc = .ok (.astore_n 0, 1)) (hn : 0 < nL) (k : mh_V g f nL n cl sl (pc + 1) (some (.ref x) :: r) st h) : mh_V g f nL n cl sl pc (y :: r) (.ref x :: st) h := mh_astoreg_n (i := (0 : Fin 4)) F hd hn (by show mh_V g f nL n cl sl (pc + 1) (mh_st1 (y :: r) 0 (.ref x)) st h; rw [show mh_st1 (y :: r) 0 (.ref x) = some (.ref x) :: r from rfl] ; exact k)
theorem mh_aload1 (F : mh_Fr g f own cc nL d) {x0 : Option Value} {r : List (Option Value)} {x : Nat} (hd : decode cc pc = .ok (.aload_n 1, 1)) (k : mh_V g f nL n cl sl (pc + 1) (x0 :: some (.ref x) :: r) (.ref x :: st) h) : mh_V g f nL n cl sl pc (x0 :: some (.ref x) :: r) st h := mh_aload_n (i := (1 : Fin 4)) F hd rfl k
theorem mh_astore1 (F : mh_Fr g f own cc nL d) {x0 : Option Value} {r : List (Option Value)} {y : Option Value} {x : Nat} (hd : decode cc pc = .ok (.astore_n 1, 1)) (hc : mh_c1 x0 = true) (hn : 1 < nL) (k : mh_V g f nL n cl sl (pc + 1) (x0 :: some (.ref x) :: r) st h) : mh_V g f nL n cl sl pc (x0 :: y :: r) (.ref x :: st) h := mh_astoreg_n (i := (1 : Fin 4)) F hd hn (by show mh_V g f nL n cl sl (pc + 1) (mh_st1 (x0 :: y :: r) 1 (.ref x)) st h; rw [show mh_st1 (x0 :: y :: r) 1 (.ref x) = x0 :: some (.ref x) :: r from (mh_st1_s (r := y :: r) [] x0 hc)] ; exact k)
theorem mh_aload2 (F : mh_Fr g f own cc nL d) {x0 x1 : Option Value} {r : List (Option Value)} {x : Nat} (hd : decode cc pc = .ok (.aload_n 2, 1)) (k : mh_V g f nL n cl sl (pc + 1) (x0 :: x1 :: some (.ref x) :: r) (.ref x :: st) h) : mh_V g f nL n cl sl pc (x0 :: x1 :: some (.ref x) :: r) st h := mh_aload_n (i := (2 : Fin 4)) F hd rfl k
theorem mh_astore2 (F : mh_Fr g f own cc nL d) {x0 x1 : Option Value} {r : List (Option Value)} {y : Option Value} {x : Nat} (hd : decode cc pc = .ok (.astore_n 2, 1)) (hc : mh_c1 x1 = true) (hn : 2 < nL) (k : mh_V g f nL n cl sl (pc + 1) (x0 :: x1 :: some (.ref x) :: r) st h) : mh_V g f nL n cl sl pc (x0 :: x1 :: y :: r) (.ref x :: st) h := mh_astoreg_n (i := (2 : Fin 4)) F hd hn (by show mh_V g f nL n cl sl (pc + 1) (mh_st1 (x0 :: x1 :: y :: r) 2 (.ref x)) st h; rw [show mh_st1 (x0 :: x1 :: y :: r) 2 (.ref x) = x0 :: x1 :: some (.ref x) :: r from (mh_st1_s (r := y :: r) [x0] x1 hc)] ; exact k)
theorem mh_aload3 (F : mh_Fr g f own cc nL d) {x0 x1 x2 : Option Value} {r : List (Option Value)} {x : Nat} (hd : decode cc pc = .ok (.aload_n 3, 1)) (k : mh_V g f nL n cl sl (pc + 1) (x0 :: x1 :: x2 :: some (.ref x) :: r) (.ref x :: st) h) : mh_V g f nL n cl sl pc (x0 :: x1 :: x2 :: some (.ref x) :: r) st h := mh_aload_n (i := (3 : Fin 4)) F hd rfl k
theorem mh_astore3 (F : mh_Fr g f own cc nL d) {x0 x1 x2 : Option Value} {r : List (Option Value)} {y : Option Value} {x : Nat} (hd : decode cc pc = .ok (.astore_n 3, 1)) (hc : mh_c1 x2 = true) (hn : 3 < nL) (k : mh_V g f nL n cl sl (pc + 1) (x0 :: x1 :: x2 :: some (.ref x) :: r) st h) : mh_V g f nL n cl sl pc (x0 :: x1 :: x2 :: y :: r) (.ref x :: st) h := mh_astoreg_n (i := (3 : Fin 4)) F hd hn (by show mh_V g f nL n cl sl (pc + 1) (mh_st1 (x0 :: x1 :: x2 :: y :: r) 3 (.ref x)) st h; rw [show mh_st1 (x0 :: x1 :: x2 :: y :: r) 3 (.ref x) = x0 :: x1 :: x2 :: some (.ref x) :: r from (mh_st1_s (r := y :: r) [x0, x1] x2 hc)] ; exact k)
theorem mh_aload4 (F : mh_Fr g f own cc nL d) {x0 x1 x2 x3 : Option Value} {r : List (Option Value)} {x : Nat} (hd : decode cc pc = .ok (.aload 4, 2)) (k : mh_V g f nL n cl sl (pc + 2) (x0 :: x1 :: x2 :: x3 :: some (.ref x) :: r) (.ref x :: st) h) : mh_V g f nL n cl sl pc (x0 :: x1 :: x2 :: x3 :: some (.ref x) :: r) st h := mh_aload F hd rfl k
theorem mh_astore4 (F : mh_Fr g f own cc nL d) {x0 x1 x2 x3 : Option Value} {r : List (Option Value)} {y : Option Value} {x : Nat} (hd : decode cc pc = .ok (.astore 4, 2)) (hc : mh_c1 x3 = true) (hn : 4 < nL) (k : mh_V g f nL n cl sl (pc + 2) (x0 :: x1 :: x2 :: x3 :: some (.ref x) :: r) st h) : mh_V g f nL n cl sl pc (x0 :: x1 :: x2 :: x3 :: y :: r) (.ref x :: st) h := mh_astoreg (i := 4) F hd hn (by show mh_V g f nL n cl sl (pc + 2) (mh_st1 (x0 :: x1 :: x2 :: x3 :: y :: r) 4 (.ref x)) st h; rw [show mh_st1 (x0 :: x1 :: x2 :: x3 :: y :: r) 4 (.ref x) = x0 :: x1 :: x2 :: x3 :: some (.ref x) :: r from (mh_st1_s (r := y :: r) [x0, x1, x2] x3 hc)] ; exact k)
theorem mh_aload5 (F : mh_Fr g f own cc nL d) {x0 x1 x2 x3 x4 : Option Value} {r : List (Option Value)} {x : Nat} (hd : decode cc pc = .ok (.aload 5, 2)) (k : mh_V g f nL n cl sl (pc + 2) (x0 :: x1 :: x2 :: x3 :: x4 :: some (.ref x) :: r) (.ref x :: st) h) : mh_V g f nL n cl sl pc (x0 :: x1 :: x2 :: x3 :: x4 :: some (.ref x) :: r) st h := mh_aload F hd rfl k
theorem mh_astore5 (F : mh_Fr g f own cc nL d) {x0 x1 x2 x3 x4 : Option Value} {r : List (Option Value)} {y : Option Value} {x : Nat} (hd : decode cc pc = .ok (.astore 5, 2)) (hc : mh_c1 x4 = true) (hn : 5 < nL) (k : mh_V g f nL n cl sl (pc + 2) (x0 :: x1 :: x2 :: x3 :: x4 :: some (.ref x) :: r) st h) : mh_V g f nL n cl sl pc (x0 :: x1 :: x2 :: x3 :: x4 :: y :: r) (.ref x :: st) h := mh_astoreg (i := 5) F hd hn (by show mh_V g f nL n cl sl (pc + 2) (mh_st1 (x0 :: x1 :: x2 :: x3 :: x4 :: y :: r) 5 (.ref x)) st h; rw [show mh_st1 (x0 :: x1 :: x2 :: x3 :: x4 :: y :: r) 5 (.ref x) = x0 :: x1 :: x2 :: x3 :: x4 :: some (.ref x) :: r from (mh_st1_s (r := y :: r) [x0, x1, x2, x3] x4 hc)] ; exact k)
theorem mh_aload6 (F : mh_Fr g f own cc nL d) {x0 x1 x2 x3 x4 x5 : Option Value} {r : List (Option Value)} {x : Nat} (hd : decode cc pc = .ok (.aload 6, 2)) (k : mh_V g f nL n cl sl (pc + 2) (x0 :: x1 :: x2 :: x3 :: x4 :: x5 :: some (.ref x) :: r) (.ref x :: st) h) : mh_V g f nL n cl sl pc (x0 :: x1 :: x2 :: x3 :: x4 :: x5 :: some (.ref x) :: r) st h := mh_aload F hd rfl k
theorem mh_astore6 (F : mh_Fr g f own cc nL d) {x0 x1 x2 x3 x4 x5 : Option Value} {r : List (Option Value)} {y : Option Value} {x : Nat} (hd : decode cc pc = .ok (.astore 6, 2)) (hc : mh_c1 x5 = true) (hn : 6 < nL) (k : mh_V g f nL n cl sl (pc + 2) (x0 :: x1 :: x2 :: x3 :: x4 :: x5 :: some (.ref x) :: r) st h) : mh_V g f nL n cl sl pc (x0 :: x1 :: x2 :: x3 :: x4 :: x5 :: y :: r) (.ref x :: st) h := mh_astoreg (i := 6) F hd hn (by show mh_V g f nL n cl sl (pc + 2) (mh_st1 (x0 :: x1 :: x2 :: x3 :: x4 :: x5 :: y :: r) 6 (.ref x)) st h; rw [show mh_st1 (x0 :: x1 :: x2 :: x3 :: x4 :: x5 :: y :: r) 6 (.ref x) = x0 :: x1 :: x2 :: x3 :: x4 :: x5 :: some (.ref x) :: r from (mh_st1_s (r := y :: r) [x0, x1, x2, x3, x4] x5 hc)] ; exact k)
theorem mh_aload7 (F : mh_Fr g f own cc nL d) {x0 x1 x2 x3 x4 x5 x6 : Option Value} {r : List (Option Value)} {x : Nat} (hd : decode cc pc = .ok (.aload 7, 2)) (k : mh_V g f nL n cl sl (pc + 2) (x0 :: x1 :: x2 :: x3 :: x4 :: x5 :: x6 :: some (.ref x) :: r) (.ref x :: st) h) : mh_V g f nL n cl sl pc (x0 :: x1 :: x2 :: x3 :: x4 :: x5 :: x6 :: some (.ref x) :: r) st h := mh_aload F hd rfl k
theorem mh_astore7 (F : mh_Fr g f own cc nL d) {x0 x1 x2 x3 x4 x5 x6 : Option Value} {r : List (Option Value)} {y : Option Value} {x : Nat} (hd : decode cc pc = .ok (.astore 7, 2)) (hc : mh_c1 x6 = true) (hn : 7 < nL) (k : mh_V g f nL n cl sl (pc + 2) (x0 :: x1 :: x2 :: x3 :: x4 :: x5 :: x6 :: some (.ref x) :: r) st h) : mh_V g f nL n cl sl pc (x0 :: x1 :: x2 :: x3 :: x4 :: x5 :: x6 :: y :: r) (.ref x :: st) h := mh_astoreg (i := 7) F hd hn (by show mh_V g f nL n cl sl (pc + 2) (mh_st1 (x0 :: x1 :: x2 :: x3 :: x4 :: x5 :: x6 :: y :: r) 7 (.ref x)) st h; rw [show mh_st1 (x0 :: x1 :: x2 :: x3 :: x4 :: x5 :: x6 :: y :: r) 7 (.ref x) = x0 :: x1 :: x2 :: x3 :: x4 :: x5 :: x6 :: some (.ref x) :: r from (mh_st1_s (r := y :: r) [x0, x1, x2, x3, x4, x5] x6 hc)] ; exact k)
theorem mh_aload8 (F : mh_Fr g f own cc nL d) {x0 x1 x2 x3 x4 x5 x6 x7 : Option Value} {r : List (Option Value)} {x : Nat} (hd : decode cc pc = .ok (.aload 8, 2)) (k : mh_V g f nL n cl sl (pc + 2) (x0 :: x1 :: x2 :: x3 :: x4 :: x5 :: x6 :: x7 :: some (.ref x) :: r) (.ref x :: st) h) : mh_V g f nL n cl sl pc (x0 :: x1 :: x2 :: x3 :: x4 :: x5 :: x6 :: x7 :: some (.ref x) :: r) st h := mh_aload F hd rfl k
theorem mh_astore8 (F : mh_Fr g f own cc nL d) {x0 x1 x2 x3 x4 x5 x6 x7 : Option Value} {r : List (Option Value)} {y : Option Value} {x : Nat} (hd : decode cc pc = .ok (.astore 8, 2)) (hc : mh_c1 x7 = true) (hn : 8 < nL) (k : mh_V g f nL n cl sl (pc + 2) (x0 :: x1 :: x2 :: x3 :: x4 :: x5 :: x6 :: x7 :: some (.ref x) :: r) st h) : mh_V g f nL n cl sl pc (x0 :: x1 :: x2 :: x3 :: x4 :: x5 :: x6 :: x7 :: y :: r) (.ref x :: st) h := mh_astoreg (i := 8) F hd hn (by show mh_V g f nL n cl sl (pc + 2) (mh_st1 (x0 :: x1 :: x2 :: x3 :: x4 :: x5 :: x6 :: x7 :: y :: r) 8 (.ref x)) st h; rw [show mh_st1 (x0 :: x1 :: x2 :: x3 :: x4 :: x5 :: x6 :: x7 :: y :: r) 8 (.ref x) = x0 :: x1 :: x2 :: x3 :: x4 :: x5 :: x6 :: x7 :: some (.ref x) :: r from (mh_st1_s (r := y :: r) [x0, x1, x2, x3, x4, x5, x6] x7 hc)] ; exact k)
theorem mh_aload9 (F : mh_Fr g f own cc nL d) {x0 x1 x2 x3 x4 x5 x6 x7 x8 : Option Value} {r : List (Option Value)} {x : Nat} (hd : decode cc pc = .ok (.aload 9, 2)) (k : mh_V g f nL n cl sl (pc + 2) (x0 :: x1 :: x2 :: x3 :: x4 :: x5 :: x6 :: x7 :: x8 :: some (.ref x) :: r) (.ref x :: st) h) : mh_V g f nL n cl sl pc (x0 :: x1 :: x2 :: x3 :: x4 :: x5 :: x6 :: x7 :: x8 :: some (.ref x) :: r) st h := mh_aload F hd rfl k
theorem mh_astore9 (F : mh_Fr g f own cc nL d) {x0 x1 x2 x3 x4 x5 x6 x7 x8 : Option Value} {r : List (Option Value)} {y : Option Value} {x : Nat} (hd : decode cc pc = .ok (.astore 9, 2)) (hc : mh_c1 x8 = true) (hn : 9 < nL) (k : mh_V g f nL n cl sl (pc + 2) (x0 :: x1 :: x2 :: x3 :: x4 :: x5 :: x6 :: x7 :: x8 :: some (.ref x) :: r) st h) : mh_V g f nL n cl sl pc (x0 :: x1 :: x2 :: x3 :: x4 :: x5 :: x6 :: x7 :: x8 :: y :: r) (.ref x :: st) h := mh_astoreg (i := 9) F hd hn (by show mh_V g f nL n cl sl (pc + 2) (mh_st1 (x0 :: x1 :: x2 :: x3 :: x4 :: x5 :: x6 :: x7 :: x8 :: y :: r) 9 (.ref x)) st h; rw [show mh_st1 (x0 :: x1 :: x2 :: x3 :: x4 :: x5 :: x6 :: x7 :: x8 :: y :: r) 9 (.ref x) = x0 :: x1 :: x2 :: x3 :: x4 :: x5 :: x6 :: x7 :: x8 :: some (.ref x) :: r from (mh_st1_s (r := y :: r) [x0, x1, x2, x3, x4, x5, x6, x7] x8 hc)] ; exact k)
theorem mh_aload10 (F : mh_Fr g f own cc nL d) {x0 x1 x2 x3 x4 x5 x6 x7 x8 x9 : Option Value} {r : List (Option Value)} {x : Nat} (hd : decode cc pc = .ok (.aload 10, 2)) (k : mh_V g f nL n cl sl (pc + 2) (x0 :: x1 :: x2 :: x3 :: x4 :: x5 :: x6 :: x7 :: x8 :: x9 :: some (.ref x) :: r) (.ref x :: st) h) : mh_V g f nL n cl sl pc (x0 :: x1 :: x2 :: x3 :: x4 :: x5 :: x6 :: x7 :: x8 :: x9 :: some (.ref x) :: r) st h := mh_aload F hd rfl k
theorem mh_astore10 (F : mh_Fr g f own cc nL d) {x0 x1 x2 x3 x4 x5 x6 x7 x8 x9 : Option Value} {r : List (Option Value)} {y : Option Value} {x : Nat} (hd : decode cc pc = .ok (.astore 10, 2)) (hc : mh_c1 x9 = true) (hn : 10 < nL) (k : mh_V g f nL n cl sl (pc + 2) (x0 :: x1 :: x2 :: x3 :: x4 :: x5 :: x6 :: x7 :: x8 :: x9 :: some (.ref x) :: r) st h) : mh_V g f nL n cl sl pc (x0 :: x1 :: x2 :: x3 :: x4 :: x5 :: x6 :: x7 :: x8 :: x9 :: y :: r) (.ref x :: st) h := mh_astoreg (i := 10) F hd hn (by show mh_V g f nL n cl sl (pc + 2) (mh_st1 (x0 :: x1 :: x2 :: x3 :: x4 :: x5 :: x6 :: x7 :: x8 :: x9 :: y :: r) 10 (.ref x)) st h; rw [show mh_st1 (x0 :: x1 :: x2 :: x3 :: x4 :: x5 :: x6 :: x7 :: x8 :: x9 :: y :: r) 10 (.ref x) = x0 :: x1 :: x2 :: x3 :: x4 :: x5 :: x6 :: x7 :: x8 :: x9 :: some (.ref x) :: r from (mh_st1_s (r := y :: r) [x0, x1, x2, x3, x4, x5, x6, x7, x8] x9 hc)] ; exact k)
theorem mh_aload11 (F : mh_Fr g f own cc nL d) {x0 x1 x2 x3 x4 x5 x6 x7 x8 x9 x10 : Option Value} {r : List (Option Value)} {x : Nat} (hd : decode cc pc = .ok (.aload 11, 2)) (k : mh_V g f nL n cl sl (pc + 2) (x0 :: x1 :: x2 :: x3 :: x4 :: x5 :: x6 :: x7 :: x8 :: x9 :: x10 :: some (.ref x) :: r) (.ref x :: st) h) : mh_V g f nL n cl sl pc (x0 :: x1 :: x2 :: x3 :: x4 :: x5 :: x6 :: x7 :: x8 :: x9 :: x10 :: some (.ref x) :: r) st h := mh_aload F hd rfl k
theorem mh_astore11 (F : mh_Fr g f own cc nL d) {x0 x1 x2 x3 x4 x5 x6 x7 x8 x9 x10 : Option Value} {r : List (Option Value)} {y : Option Value} {x : Nat} (hd : decode cc pc = .ok (.astore 11, 2)) (hc : mh_c1 x10 = true) (hn : 11 < nL) (k : mh_V g f nL n cl sl (pc + 2) (x0 :: x1 :: x2 :: x3 :: x4 :: x5 :: x6 :: x7 :: x8 :: x9 :: x10 :: some (.ref x) :: r) st h) : mh_V g f nL n cl sl pc (x0 :: x1 :: x2 :: x3 :: x4 :: x5 :: x6 :: x7 :: x8 :: x9 :: x10 :: y :: r) (.ref x :: st) h := mh_astoreg (i := 11) F hd hn (by show mh_V g f nL n cl sl (pc + 2) (mh_st1 (x0 :: x1 :: x2 :: x3 :: x4 :: x5 :: x6 :: x7 :: x8 :: x9 :: x10 :: y :: r) 11 (.ref x)) st h; rw [show mh_st1 (x0 :: x1 :: x2 :: x3 :: x4 :: x5 :: x6 :: x7 :: x8 :: x9 :: x10 :: y :: r) 11 (.ref x) = x0 :: x1 :: x2 :: x3 :: x4 :: x5 :: x6 :: x7 :: x8 :: x9 :: x10 :: some (.ref x) :: r from (mh_st1_s (r := y :: r) [x0, x1, x2, x3, x4, x5, x6, x7, x8, x9] x10 hc)] ; exact k)
theorem mh_aload12 (F : mh_Fr g f own cc nL d) {x0 x1 x2 x3 x4 x5 x6 x7 x8 x9 x10 x11 : Option Value} {r : List (Option Value)} {x : Nat} (hd : decode cc pc = .ok (.aload 12, 2)) (k : mh_V g f nL n cl sl (pc + 2) (x0 :: x1 :: x2 :: x3 :: x4 :: x5 :: x6 :: x7 :: x8 :: x9 :: x10 :: x11 :: some (.ref x) :: r) (.ref x :: st) h) : mh_V g f nL n cl sl pc (x0 :: x1 :: x2 :: x3 :: x4 :: x5 :: x6 :: x7 :: x8 :: x9 :: x10 :: x11 :: some (.ref x) :: r) st h := mh_aload F hd rfl k
theorem mh_astore12 (F : mh_Fr g f own cc nL d) {x0 x1 x2 x3 x4 x5 x6 x7 x8 x9 x10 x11 : Option Value} {r : List (Option Value)} {y : Option Value} {x : Nat} (hd : decode cc pc = .ok (.astore 12, 2)) (hc : mh_c1 x11 = true) (hn : 12 < nL) (k : mh_V g f nL n cl sl (pc + 2) (x0 :: x1 :: x2 :: x3 :: x4 :: x5 :: x6 :: x7 :: x8 :: x9 :: x10 :: x11 :: some (.ref x) :: r) st h) : mh_V g f nL n cl sl pc (x0 :: x1 :: x2 :: x3 :: x4 :: x5 :: x6 :: x7 :: x8 :: x9 :: x10 :: x11 :: y :: r) (.ref x :: st) h := mh_astoreg (i := 12) F hd hn (by show mh_V g f nL n cl sl (pc + 2) (mh_st1 (x0 :: x1 :: x2 :: x3 :: x4 :: x5 :: x6 :: x7 :: x8 :: x9 :: x10 :: x11 :: y :: r) 12 (.ref x)) st h; rw [show mh_st1 (x0 :: x1 :: x2 :: x3 :: x4 :: x5 :: x6 :: x7 :: x8 :: x9 :: x10 :: x11 :: y :: r) 12 (.ref x) = x0 :: x1 :: x2 :: x3 :: x4 :: x5 :: x6 :: x7 :: x8 :: x9 :: x10 :: x11 :: some (.ref x) :: r from (mh_st1_s (r := y :: r) [x0, x1, x2, x3, x4, x5, x6, x7, x8, x9, x10] x11 hc)] ; exact k)
theorem mh_aload13 (F : mh_Fr g f own cc nL d) {x0 x1 x2 x3 x4 x5 x6 x7 x8 x9 x10 x11 x12 : Option Value} {r : List (Option Value)} {x : Nat} (hd : decode cc pc = .ok (.aload 13, 2)) (k : mh_V g f nL n cl sl (pc + 2) (x0 :: x1 :: x2 :: x3 :: x4 :: x5 :: x6 :: x7 :: x8 :: x9 :: x10 :: x11 :: x12 :: some (.ref x) :: r) (.ref x :: st) h) : mh_V g f nL n cl sl pc (x0 :: x1 :: x2 :: x3 :: x4 :: x5 :: x6 :: x7 :: x8 :: x9 :: x10 :: x11 :: x12 :: some (.ref x) :: r) st h := mh_aload F hd rfl k
theorem mh_astore13 (F : mh_Fr g f own cc nL d) {x0 x1 x2 x3 x4 x5 x6 x7 x8 x9 x10 x11 x12 : Option Value} {r : List (Option Value)} {y : Option Value} {x : Nat} (hd : decode cc pc = .ok (.astore 13, 2)) (hc : mh_c1 x12 = true) (hn : 13 < nL) (k : mh_V g f nL n cl sl (pc + 2) (x0 :: x1 :: x2 :: x3 :: x4 :: x5 :: x6 :: x7 :: x8 :: x9 :: x10 :: x11 :: x12 :: some (.ref x) :: r) st h) : mh_V g f nL n cl sl pc (x0 :: x1 :: x2 :: x3 :: x4 :: x5 :: x6 :: x7 :: x8 :: x9 :: x10 :: x11 :: x12 :: y :: r) (.ref x :: st) h := mh_astoreg (i := 13) F hd hn (by show mh_V g f nL n cl sl (pc + 2) (mh_st1 (x0 :: x1 :: x2 :: x3 :: x4 :: x5 :: x6 :: x7 :: x8 :: x9 :: x10 :: x11 :: x12 :: y :: r) 13 (.ref x)) st h; rw [show mh_st1 (x0 :: x1 :: x2 :: x3 :: x4 :: x5 :: x6 :: x7 :: x8 :: x9 :: x10 :: x11 :: x12 :: y :: r) 13 (.ref x) = x0 :: x1 :: x2 :: x3 :: x4 :: x5 :: x6 :: x7 :: x8 :: x9 :: x10 :: x11 :: x12 :: some (.ref x) :: r from (mh_st1_s (r := y :: r) [x0, x1, x2, x3, x4, x5, x6, x7, x8, x9, x10, x11] x12 hc)] ; exact k)
theorem mh_lload0 (F : mh_Fr g f own cc nL d) {r : List (Option Value)} {x : Int64} (hd : decode cc pc = .ok (.lload_n 0, 1)) (k : mh_V g f nL n cl sl (pc + 1) (some (.long x) :: r) (.long x :: st) h) : mh_V g f nL n cl sl pc (some (.long x) :: r) st h := mh_lload_n (i := (0 : Fin 4)) F hd rfl k
theorem mh_lstore0 (F : mh_Fr g f own cc nL d) {r : List (Option Value)} {y z : Option Value} {x : Int64} (hd : decode cc pc = .ok (.lstore_n 0, 1)) (hn : 0 + 1 < nL) (k : mh_V g f nL n cl sl (pc + 1) (some (.long x) :: none :: r) st h) : mh_V g f nL n cl sl pc (y :: z :: r) (.long x :: st) h := mh_lstoreg_n (i := (0 : Fin 4)) F hd hn (by show mh_V g f nL n cl sl (pc + 1) (mh_st2 (y :: z :: r) 0 (.long x)) st h; rw [show mh_st2 (y :: z :: r) 0 (.long x) = some (.long x) :: none :: r from mh_st2_0] ; exact k)
theorem mh_lload1 (F : mh_Fr g f own cc nL d) {x0 : Option Value} {r : List (Option Value)} {x : Int64} (hd : decode cc pc = .ok (.lload_n 1, 1)) (k : mh_V g f nL n cl sl (pc + 1) (x0 :: some (.long x) :: r) (.long x :: st) h) : mh_V g f nL n cl sl pc (x0 :: some (.long x) :: r) st h := mh_lload_n (i := (1 : Fin 4)) F hd rfl k
theorem mh_lstore1 (F : mh_Fr g f own cc nL d) {x0 : Option Value} {r : List (Option Value)} {y z : Option Value} {x : Int64} (hd : decode cc pc = .ok (.lstore_n 1, 1)) (hc : mh_c1 x0 = true) (hn : 1 + 1 < nL) (k : mh_V g f nL n cl sl (pc + 1) (x0 :: some (.long x) :: none :: r) st h) : mh_V g f nL n cl sl pc (x0 :: y :: z :: r) (.long x :: st) h := mh_lstoreg_n (i := (1 : Fin 4)) F hd hn (by show mh_V g f nL n cl sl (pc + 1) (mh_st2 (x0 :: y :: z :: r) 1 (.long x)) st h; rw [show mh_st2 (x0 :: y :: z :: r) 1 (.long x) = x0 :: some (.long x) :: none :: r from (mh_st2_s (r := r) [] x0 hc)] ; exact k)
theorem mh_lload2 (F : mh_Fr g f own cc nL d) {x0 x1 : Option Value} {r : List (Option Value)} {x : Int64} (hd : decode cc pc = .ok (.lload_n 2, 1)) (k : mh_V g f nL n cl sl (pc + 1) (x0 :: x1 :: some (.long x) :: r) (.long x :: st) h) : mh_V g f nL n cl sl pc (x0 :: x1 :: some (.long x) :: r) st h := mh_lload_n (i := (2 : Fin 4)) F hd rfl k
theorem mh_lstore2 (F : mh_Fr g f own cc nL d) {x0 x1 : Option Value} {r : List (Option Value)} {y z : Option Value} {x : Int64} (hd : decode cc pc = .ok (.lstore_n 2, 1)) (hc : mh_c1 x1 = true) (hn : 2 + 1 < nL) (k : mh_V g f nL n cl sl (pc + 1) (x0 :: x1 :: some (.long x) :: none :: r) st h) : mh_V g f nL n cl sl pc (x0 :: x1 :: y :: z :: r) (.long x :: st) h := mh_lstoreg_n (i := (2 : Fin 4)) F hd hn (by show mh_V g f nL n cl sl (pc + 1) (mh_st2 (x0 :: x1 :: y :: z :: r) 2 (.long x)) st h; rw [show mh_st2 (x0 :: x1 :: y :: z :: r) 2 (.long x) = x0 :: x1 :: some (.long x) :: none :: r from (mh_st2_s (r := r) [x0] x1 hc)] ; exact k)
theorem mh_lload3 (F : mh_Fr g f own cc nL d) {x0 x1 x2 : Option Value} {r : List (Option Value)} {x : Int64} (hd : decode cc pc = .ok (.lload_n 3, 1)) (k : mh_V g f nL n cl sl (pc + 1) (x0 :: x1 :: x2 :: some (.long x) :: r) (.long x :: st) h) : mh_V g f nL n cl sl pc (x0 :: x1 :: x2 :: some (.long x) :: r) st h := mh_lload_n (i := (3 : Fin 4)) F hd rfl k
theorem mh_lstore3 (F : mh_Fr g f own cc nL d) {x0 x1 x2 : Option Value} {r : List (Option Value)} {y z : Option Value} {x : Int64} (hd : decode cc pc = .ok (.lstore_n 3, 1)) (hc : mh_c1 x2 = true) (hn : 3 + 1 < nL) (k : mh_V g f nL n cl sl (pc + 1) (x0 :: x1 :: x2 :: some (.long x) :: none :: r) st h) : mh_V g f nL n cl sl pc (x0 :: x1 :: x2 :: y :: z :: r) (.long x :: st) h := mh_lstoreg_n (i := (3 : Fin 4)) F hd hn (by show mh_V g f nL n cl sl (pc + 1) (mh_st2 (x0 :: x1 :: x2 :: y :: z :: r) 3 (.long x)) st h; rw [show mh_st2 (x0 :: x1 :: x2 :: y :: z :: r) 3 (.long x) = x0 :: x1 :: x2 :: some (.long x) :: none :: r from (mh_st2_s (r := r) [x0, x1] x2 hc)] ; exact k)
theorem mh_lload4 (F : mh_Fr g f own cc nL d) {x0 x1 x2 x3 : Option Value} {r : List (Option Value)} {x : Int64} (hd : decode cc pc = .ok (.lload 4, 2)) (k : mh_V g f nL n cl sl (pc + 2) (x0 :: x1 :: x2 :: x3 :: some (.long x) :: r) (.long x :: st) h) : mh_V g f nL n cl sl pc (x0 :: x1 :: x2 :: x3 :: some (.long x) :: r) st h := mh_lload F hd rfl k
theorem mh_lstore4 (F : mh_Fr g f own cc nL d) {x0 x1 x2 x3 : Option Value} {r : List (Option Value)} {y z : Option Value} {x : Int64} (hd : decode cc pc = .ok (.lstore 4, 2)) (hc : mh_c1 x3 = true) (hn : 4 + 1 < nL) (k : mh_V g f nL n cl sl (pc + 2) (x0 :: x1 :: x2 :: x3 :: some (.long x) :: none :: r) st h) : mh_V g f nL n cl sl pc (x0 :: x1 :: x2 :: x3 :: y :: z :: r) (.long x :: st) h := mh_lstoreg (i := 4) F hd hn (by show mh_V g f nL n cl sl (pc + 2) (mh_st2 (x0 :: x1 :: x2 :: x3 :: y :: z :: r) 4 (.long x)) st h; rw [show mh_st2 (x0 :: x1 :: x2 :: x3 :: y :: z :: r) 4 (.long x) = x0 :: x1 :: x2 :: x3 :: some (.long x) :: none :: r from (mh_st2_s (r := r) [x0, x1, x2] x3 hc)] ; exact k)
theorem mh_lload5 (F : mh_Fr g f own cc nL d) {x0 x1 x2 x3 x4 : Option Value} {r : List (Option Value)} {x : Int64} (hd : decode cc pc = .ok (.lload 5, 2)) (k : mh_V g f nL n cl sl (pc + 2) (x0 :: x1 :: x2 :: x3 :: x4 :: some (.long x) :: r) (.long x :: st) h) : mh_V g f nL n cl sl pc (x0 :: x1 :: x2 :: x3 :: x4 :: some (.long x) :: r) st h := mh_lload F hd rfl k
theorem mh_lstore5 (F : mh_Fr g f own cc nL d) {x0 x1 x2 x3 x4 : Option Value} {r : List (Option Value)} {y z : Option Value} {x : Int64} (hd : decode cc pc = .ok (.lstore 5, 2)) (hc : mh_c1 x4 = true) (hn : 5 + 1 < nL) (k : mh_V g f nL n cl sl (pc + 2) (x0 :: x1 :: x2 :: x3 :: x4 :: some (.long x) :: none :: r) st h) : mh_V g f nL n cl sl pc (x0 :: x1 :: x2 :: x3 :: x4 :: y :: z :: r) (.long x :: st) h := mh_lstoreg (i := 5) F hd hn (by show mh_V g f nL n cl sl (pc + 2) (mh_st2 (x0 :: x1 :: x2 :: x3 :: x4 :: y :: z :: r) 5 (.long x)) st h; rw [show mh_st2 (x0 :: x1 :: x2 :: x3 :: x4 :: y :: z :: r) 5 (.long x) = x0 :: x1 :: x2 :: x3 :: x4 :: some (.long x) :: none :: r from (mh_st2_s (r := r) [x0, x1, x2, x3] x4 hc)] ; exact k)
theorem mh_lload6 (F : mh_Fr g f own cc nL d) {x0 x1 x2 x3 x4 x5 : Option Value} {r : List (Option Value)} {x : Int64} (hd : decode cc pc = .ok (.lload 6, 2)) (k : mh_V g f nL n cl sl (pc + 2) (x0 :: x1 :: x2 :: x3 :: x4 :: x5 :: some (.long x) :: r) (.long x :: st) h) : mh_V g f nL n cl sl pc (x0 :: x1 :: x2 :: x3 :: x4 :: x5 :: some (.long x) :: r) st h := mh_lload F hd rfl k
theorem mh_lstore6 (F : mh_Fr g f own cc nL d) {x0 x1 x2 x3 x4 x5 : Option Value} {r : List (Option Value)} {y z : Option Value} {x : Int64} (hd : decode cc pc = .ok (.lstore 6, 2)) (hc : mh_c1 x5 = true) (hn : 6 + 1 < nL) (k : mh_V g f nL n cl sl (pc + 2) (x0 :: x1 :: x2 :: x3 :: x4 :: x5 :: some (.long x) :: none :: r) st h) : mh_V g f nL n cl sl pc (x0 :: x1 :: x2 :: x3 :: x4 :: x5 :: y :: z :: r) (.long x :: st) h := mh_lstoreg (i := 6) F hd hn (by show mh_V g f nL n cl sl (pc + 2) (mh_st2 (x0 :: x1 :: x2 :: x3 :: x4 :: x5 :: y :: z :: r) 6 (.long x)) st h; rw [show mh_st2 (x0 :: x1 :: x2 :: x3 :: x4 :: x5 :: y :: z :: r) 6 (.long x) = x0 :: x1 :: x2 :: x3 :: x4 :: x5 :: some (.long x) :: none :: r from (mh_st2_s (r := r) [x0, x1, x2, x3, x4] x5 hc)] ; exact k)
theorem mh_lload7 (F : mh_Fr g f own cc nL d) {x0 x1 x2 x3 x4 x5 x6 : Option Value} {r : List (Option Value)} {x : Int64} (hd : decode cc pc = .ok (.lload 7, 2)) (k : mh_V g f nL n cl sl (pc + 2) (x0 :: x1 :: x2 :: x3 :: x4 :: x5 :: x6 :: some (.long x) :: r) (.long x :: st) h) : mh_V g f nL n cl sl pc (x0 :: x1 :: x2 :: x3 :: x4 :: x5 :: x6 :: some (.long x) :: r) st h := mh_lload F hd rfl k
theorem mh_lstore7 (F : mh_Fr g f own cc nL d) {x0 x1 x2 x3 x4 x5 x6 : Option Value} {r : List (Option Value)} {y z : Option Value} {x : Int64} (hd : decode cc pc = .ok (.lstore 7, 2)) (hc : mh_c1 x6 = true) (hn : 7 + 1 < nL) (k : mh_V g f nL n cl sl (pc + 2) (x0 :: x1 :: x2 :: x3 :: x4 :: x5 :: x6 :: some (.long x) :: none :: r) st h) : mh_V g f nL n cl sl pc (x0 :: x1 :: x2 :: x3 :: x4 :: x5 :: x6 :: y :: z :: r) (.long x :: st) h := mh_lstoreg (i := 7) F hd hn (by show mh_V g f nL n cl sl (pc + 2) (mh_st2 (x0 :: x1 :: x2 :: x3 :: x4 :: x5 :: x6 :: y :: z :: r) 7 (.long x)) st h; rw [show mh_st2 (x0 :: x1 :: x2 :: x3 :: x4 :: x5 :: x6 :: y :: z :: r) 7 (.long x) = x0 :: x1 :: x2 :: x3 :: x4 :: x5 :: x6 :: some (.long x) :: none :: r from (mh_st2_s (r := r) [x0, x1, x2, x3, x4, x5] x6 hc)] ; exact k)
theorem mh_lload8 (F : mh_Fr g f own cc nL d) {x0 x1 x2 x3 x4 x5 x6 x7 : Option Value} {r : List (Option Value)} {x : Int64} (hd : decode cc pc = .ok (.lload 8, 2)) (k : mh_V g f nL n cl sl (pc + 2) (x0 :: x1 :: x2 :: x3 :: x4 :: x5 :: x6 :: x7 :: some (.long x) :: r) (.long x :: st) h) : mh_V g f nL n cl sl pc (x0 :: x1 :: x2 :: x3 :: x4 :: x5 :: x6 :: x7 :: some (.long x) :: r) st h := mh_lload F hd rfl k
theorem mh_lstore8 (F : mh_Fr g f own cc nL d) {x0 x1 x2 x3 x4 x5 x6 x7 : Option Value} {r : List (Option Value)} {y z : Option Value} {x : Int64} (hd : decode cc pc = .ok (.lstore 8, 2)) (hc : mh_c1 x7 = true) (hn : 8 + 1 < nL) (k : mh_V g f nL n cl sl (pc + 2) (x0 :: x1 :: x2 :: x3 :: x4 :: x5 :: x6 :: x7 :: some (.long x) :: none :: r) st h) : mh_V g f nL n cl sl pc (x0 :: x1 :: x2 :: x3 :: x4 :: x5 :: x6 :: x7 :: y :: z :: r) (.long x :: st) h := mh_lstoreg (i := 8) F hd hn (by show mh_V g f nL n cl sl (pc + 2) (mh_st2 (x0 :: x1 :: x2 :: x3 :: x4 :: x5 :: x6 :: x7 :: y :: z :: r) 8 (.long x)) st h; rw [show mh_st2 (x0 :: x1 :: x2 :: x3 :: x4 :: x5 :: x6 :: x7 :: y :: z :: r) 8 (.long x) = x0 :: x1 :: x2 :: x3 :: x4 :: x5 :: x6 :: x7 :: some (.long x) :: none :: r from (mh_st2_s (r := r) [x0, x1, x2, x3, x4, x5, x6] x7 hc)] ; exact k)
theorem mh_lload9 (F : mh_Fr g f own cc nL d) {x0 x1 x2 x3 x4 x5 x6 x7 x8 : Option Value} {r : List (Option Value)} {x : Int64} (hd : decode cc pc = .ok (.lload 9, 2)) (k : mh_V g f nL n cl sl (pc + 2) (x0 :: x1 :: x2 :: x3 :: x4 :: x5 :: x6 :: x7 :: x8 :: some (.long x) :: r) (.long x :: st) h) : mh_V g f nL n cl sl pc (x0 :: x1 :: x2 :: x3 :: x4 :: x5 :: x6 :: x7 :: x8 :: some (.long x) :: r) st h := mh_lload F hd rfl k
theorem mh_lstore9 (F : mh_Fr g f own cc nL d) {x0 x1 x2 x3 x4 x5 x6 x7 x8 : Option Value} {r : List (Option Value)} {y z : Option Value} {x : Int64} (hd : decode cc pc = .ok (.lstore 9, 2)) (hc : mh_c1 x8 = true) (hn : 9 + 1 < nL) (k : mh_V g f nL n cl sl (pc + 2) (x0 :: x1 :: x2 :: x3 :: x4 :: x5 :: x6 :: x7 :: x8 :: some (.long x) :: none :: r) st h) : mh_V g f nL n cl sl pc (x0 :: x1 :: x2 :: x3 :: x4 :: x5 :: x6 :: x7 :: x8 :: y :: z :: r) (.long x :: st) h := mh_lstoreg (i := 9) F hd hn (by show mh_V g f nL n cl sl (pc + 2) (mh_st2 (x0 :: x1 :: x2 :: x3 :: x4 :: x5 :: x6 :: x7 :: x8 :: y :: z :: r) 9 (.long x)) st h; rw [show mh_st2 (x0 :: x1 :: x2 :: x3 :: x4 :: x5 :: x6 :: x7 :: x8 :: y :: z :: r) 9 (.long x) = x0 :: x1 :: x2 :: x3 :: x4 :: x5 :: x6 :: x7 :: x8 :: some (.long x) :: none :: r from (mh_st2_s (r := r) [x0, x1, x2, x3, x4, x5, x6, x7] x8 hc)] ; exact k)
theorem mh_lload10 (F : mh_Fr g f own cc nL d) {x0 x1 x2 x3 x4 x5 x6 x7 x8 x9 : Option Value} {r : List (Option Value)} {x : Int64} (hd : decode cc pc = .ok (.lload 10, 2)) (k : mh_V g f nL n cl sl (pc + 2) (x0 :: x1 :: x2 :: x3 :: x4 :: x5 :: x6 :: x7 :: x8 :: x9 :: some (.long x) :: r) (.long x :: st) h) : mh_V g f nL n cl sl pc (x0 :: x1 :: x2 :: x3 :: x4 :: x5 :: x6 :: x7 :: x8 :: x9 :: some (.long x) :: r) st h := mh_lload F hd rfl k
theorem mh_lstore10 (F : mh_Fr g f own cc nL d) {x0 x1 x2 x3 x4 x5 x6 x7 x8 x9 : Option Value} {r : List (Option Value)} {y z : Option Value} {x : Int64} (hd : decode cc pc = .ok (.lstore 10, 2)) (hc : mh_c1 x9 = true) (hn : 10 + 1 < nL) (k : mh_V g f nL n cl sl (pc + 2) (x0 :: x1 :: x2 :: x3 :: x4 :: x5 :: x6 :: x7 :: x8 :: x9 :: some (.long x) :: none :: r) st h) : mh_V g f nL n cl sl pc (x0 :: x1 :: x2 :: x3 :: x4 :: x5 :: x6 :: x7 :: x8 :: x9 :: y :: z :: r) (.long x :: st) h := mh_lstoreg (i := 10) F hd hn (by show mh_V g f nL n cl sl (pc + 2) (mh_st2 (x0 :: x1 :: x2 :: x3 :: x4 :: x5 :: x6 :: x7 :: x8 :: x9 :: y :: z :: r) 10 (.long x)) st h; rw [show mh_st2 (x0 :: x1 :: x2 :: x3 :: x4 :: x5 :: x6 :: x7 :: x8 :: x9 :: y :: z :: r) 10 (.long x) = x0 :: x1 :: x2 :: x3 :: x4 :: x5 :: x6 :: x7 :: x8 :: x9 :: some (.long x) :: none :: r from (mh_st2_s (r := r) [x0, x1, x2, x3, x4, x5, x6, x7, x8] x9 hc)] ; exact k)
theorem mh_lload11 (F : mh_Fr g f own cc nL d) {x0 x1 x2 x3 x4 x5 x6 x7 x8 x9 x10 : Option Value} {r : List (Option Value)} {x : Int64} (hd : decode cc pc = .ok (.lload 11, 2)) (k : mh_V g f nL n cl sl (pc + 2) (x0 :: x1 :: x2 :: x3 :: x4 :: x5 :: x6 :: x7 :: x8 :: x9 :: x10 :: some (.long x) :: r) (.long x :: st) h) : mh_V g f nL n cl sl pc (x0 :: x1 :: x2 :: x3 :: x4 :: x5 :: x6 :: x7 :: x8 :: x9 :: x10 :: some (.long x) :: r) st h := mh_lload F hd rfl k
theorem mh_lstore11 (F : mh_Fr g f own cc nL d) {x0 x1 x2 x3 x4 x5 x6 x7 x8 x9 x10 : Option Value} {r : List (Option Value)} {y z : Option Value} {x : Int64} (hd : decode cc pc = .ok (.lstore 11, 2)) (hc : mh_c1 x10 = true) (hn : 11 + 1 < nL) (k : mh_V g f nL n cl sl (pc + 2) (x0 :: x1 :: x2 :: x3 :: x4 :: x5 :: x6 :: x7 :: x8 :: x9 :: x10 :: some (.long x) :: none :: r) st h) : mh_V g f nL n cl sl pc (x0 :: x1 :: x2 :: x3 :: x4 :: x5 :: x6 :: x7 :: x8 :: x9 :: x10 :: y :: z :: r) (.long x :: st) h := mh_lstoreg (i := 11) F hd hn (by show mh_V g f nL n cl sl (pc + 2) (mh_st2 (x0 :: x1 :: x2 :: x3 :: x4 :: x5 :: x6 :: x7 :: x8 :: x9 :: x10 :: y :: z :: r) 11 (.long x)) st h; rw [show mh_st2 (x0 :: x1 :: x2 :: x3 :: x4 :: x5 :: x6 :: x7 :: x8 :: x9 :: x10 :: y :: z :: r) 11 (.long x) = x0 :: x1 :: x2 :: x3 :: x4 :: x5 :: x6 :: x7 :: x8 :: x9 :: x10 :: some (.long x) :: none :: r from (mh_st2_s (r := r) [x0, x1, x2, x3, x4, x5, x6, x7, x8, x9] x10 hc)] ; exact k)
theorem mh_lload12 (F : mh_Fr g f own cc nL d) {x0 x1 x2 x3 x4 x5 x6 x7 x8 x9 x10 x11 : Option Value} {r : List (Option Value)} {x : Int64} (hd : decode cc pc = .ok (.lload 12, 2)) (k : mh_V g f nL n cl sl (pc + 2) (x0 :: x1 :: x2 :: x3 :: x4 :: x5 :: x6 :: x7 :: x8 :: x9 :: x10 :: x11 :: some (.long x) :: r) (.long x :: st) h) : mh_V g f nL n cl sl pc (x0 :: x1 :: x2 :: x3 :: x4 :: x5 :: x6 :: x7 :: x8 :: x9 :: x10 :: x11 :: some (.long x) :: r) st h := mh_lload F hd rfl k
theorem mh_lstore12 (F : mh_Fr g f own cc nL d) {x0 x1 x2 x3 x4 x5 x6 x7 x8 x9 x10 x11 : Option Value} {r : List (Option Value)} {y z : Option Value} {x : Int64} (hd : decode cc pc = .ok (.lstore 12, 2)) (hc : mh_c1 x11 = true) (hn : 12 + 1 < nL) (k : mh_V g f nL n cl sl (pc + 2) (x0 :: x1 :: x2 :: x3 :: x4 :: x5 :: x6 :: x7 :: x8 :: x9 :: x10 :: x11 :: some (.long x) :: none :: r) st h) : mh_V g f nL n cl sl pc (x0 :: x1 :: x2 :: x3 :: x4 :: x5 :: x6 :: x7 :: x8 :: x9 :: x10 :: x11 :: y :: z :: r) (.long x :: st) h := mh_lstoreg (i := 12) F hd hn (by show mh_V g f nL n cl sl (pc + 2) (mh_st2 (x0 :: x1 :: x2 :: x3 :: x4 :: x5 :: x6 :: x7 :: x8 :: x9 :: x10 :: x11 :: y :: z :: r) 12 (.long x)) st h; rw [show mh_st2 (x0 :: x1 :: x2 :: x3 :: x4 :: x5 :: x6 :: x7 :: x8 :: x9 :: x10 :: x11 :: y :: z :: r) 12 (.long x) = x0 :: x1 :: x2 :: x3 :: x4 :: x5 :: x6 :: x7 :: x8 :: x9 :: x10 :: x11 :: some (.long x) :: none :: r from (mh_st2_s (r := r) [x0, x1, x2, x3, x4, x5, x6, x7, x8, x9, x10] x11 hc)] ; exact k)
theorem mh_lload13 (F : mh_Fr g f own cc nL d) {x0 x1 x2 x3 x4 x5 x6 x7 x8 x9 x10 x11 x12 : Option Value} {r : List (Option Value)} {x : Int64} (hd : decode cc pc = .ok (.lload 13, 2)) (k : mh_V g f nL n cl sl (pc + 2) (x0 :: x1 :: x2 :: x3 :: x4 :: x5 :: x6 :: x7 :: x8 :: x9 :: x10 :: x11 :: x12 :: some (.long x) :: r) (.long x :: st) h) : mh_V g f nL n cl sl pc (x0 :: x1 :: x2 :: x3 :: x4 :: x5 :: x6 :: x7 :: x8 :: x9 :: x10 :: x11 :: x12 :: some (.long x) :: r) st h := mh_lload F hd rfl k
theorem mh_lstore13 (F : mh_Fr g f own cc nL d) {x0 x1 x2 x3 x4 x5 x6 x7 x8 x9 x10 x11 x12 : Option Value} {r : List (Option Value)} {y z : Option Value} {x : Int64} (hd : decode cc pc = .ok (.lstore 13, 2)) (hc : mh_c1 x12 = true) (hn : 13 + 1 < nL) (k : mh_V g f nL n cl sl (pc + 2) (x0 :: x1 :: x2 :: x3 :: x4 :: x5 :: x6 :: x7 :: x8 :: x9 :: x10 :: x11 :: x12 :: some (.long x) :: none :: r) st h) : mh_V g f nL n cl sl pc (x0 :: x1 :: x2 :: x3 :: x4 :: x5 :: x6 :: x7 :: x8 :: x9 :: x10 :: x11 :: x12 :: y :: z :: r) (.long x :: st) h := mh_lstoreg (i := 13) F hd hn (by show mh_V g f nL n cl sl (pc + 2) (mh_st2 (x0 :: x1 :: x2 :: x3 :: x4 :: x5 :: x6 :: x7 :: x8 :: x9 :: x10 :: x11 :: x12 :: y :: z :: r) 13 (.long x)) st h; rw [show mh_st2 (x0 :: x1 :: x2 :: x3 :: x4 :: x5 :: x6 :: x7 :: x8 :: x9 :: x10 :: x11 :: x12 :: y :: z :: r) 13 (.long x) = x0 :: x1 :: x2 :: x3 :: x4 :: x5 :: x6 :: x7 :: x8 :: x9 :: x10 :: x11 :: x12 :: some (.long x) :: none :: r from (mh_st2_s (r := r) [x0, x1, x2, x3, x4, x5, x6, x7, x8, x9, x10, x11] x12 hc)] ; exact k)
theorem mh_iinc0 (F : mh_Fr g f own cc nL d) {r : List (Option Value)} {x c : Int} (hd : decode cc pc = .ok (.iinc 0 c, 3)) (hn : 0 < nL) (k : mh_V g f nL n cl sl (pc + 3) (some (.int (Int32.ofInt (x + c))) :: r) st h) : mh_V g f nL n cl sl pc (some (.int (Int32.ofInt x)) :: r) st h := by
  intro H locs ls h1 h2 h3
  have hm : (0, Value.int (Int32.ofInt x)) ∈ mh_lo g 0 (some (.int (Int32.ofInt x)) :: r) := by
    have := mh_lo_at (g := g) (k := 0) (v := .int (Int32.ofInt x)) (some (.int (Int32.ofInt x)) :: r) 0 rfl
    rw [Nat.zero_add] at this
    exact this
  obtain ⟨j, hj⟩ := List.getElem?_of_mem hm
  refine lv_iinc (v := Int32.ofInt (x + c)) F.exec F.code hd h3 hj (Int32.ofInt_add x c).symm hn rfl (fun ls2 h4 => ?_)
  have h5 := mh_st1_sub (v := .int (Int32.ofInt (x + c))) h4
  rw [show mh_st1 (some (.int (Int32.ofInt x)) :: r) 0 (.int (Int32.ofInt (x + c))) = some (.int (Int32.ofInt (x + c))) :: r from rfl] at h5
  exact k H locs ls2 h1 h2 h5
theorem mh_iinc1 (F : mh_Fr g f own cc nL d) {x0 : Option Value} {r : List (Option Value)} {x c : Int} (hd : decode cc pc = .ok (.iinc 1 c, 3)) (hc : mh_c1 x0 = true) (hn : 1 < nL) (k : mh_V g f nL n cl sl (pc + 3) (x0 :: some (.int (Int32.ofInt (x + c))) :: r) st h) : mh_V g f nL n cl sl pc (x0 :: some (.int (Int32.ofInt x)) :: r) st h := by
  intro H locs ls h1 h2 h3
  have hm : (1, Value.int (Int32.ofInt x)) ∈ mh_lo g 0 (x0 :: some (.int (Int32.ofInt x)) :: r) := by
    have := mh_lo_at (g := g) (k := 1) (v := .int (Int32.ofInt x)) (x0 :: some (.int (Int32.ofInt x)) :: r) 0 rfl
    rw [Nat.zero_add] at this
    exact this
  obtain ⟨j, hj⟩ := List.getElem?_of_mem hm
  refine lv_iinc (v := Int32.ofInt (x + c)) F.exec F.code hd h3 hj (Int32.ofInt_add x c).symm hn rfl (fun ls2 h4 => ?_)
  have h5 := mh_st1_sub (v := .int (Int32.ofInt (x + c))) h4
  rw [show mh_st1 (x0 :: some (.int (Int32.ofInt x)) :: r) 1 (.int (Int32.ofInt (x + c))) = x0 :: some (.int (Int32.ofInt (x + c))) :: r from mh_st1_s (r := some (.int (Int32.ofInt x)) :: r) [] x0 hc] at h5
  exact k H locs ls2 h1 h2 h5
theorem mh_iinc2 (F : mh_Fr g f own cc nL d) {x0 x1 : Option Value} {r : List (Option Value)} {x c : Int} (hd : decode cc pc = .ok (.iinc 2 c, 3)) (hc : mh_c1 x1 = true) (hn : 2 < nL) (k : mh_V g f nL n cl sl (pc + 3) (x0 :: x1 :: some (.int (Int32.ofInt (x + c))) :: r) st h) : mh_V g f nL n cl sl pc (x0 :: x1 :: some (.int (Int32.ofInt x)) :: r) st h := by
  intro H locs ls h1 h2 h3
  have hm : (2, Value.int (Int32.ofInt x)) ∈ mh_lo g 0 (x0 :: x1 :: some (.int (Int32.ofInt x)) :: r) := by
    have := mh_lo_at (g := g) (k := 2) (v := .int (Int32.ofInt x)) (x0 :: x1 :: some (.int (Int32.ofInt x)) :: r) 0 rfl
    rw [Nat.zero_add] at this
    exact this
  obtain ⟨j, hj⟩ := List.getElem?_of_mem hm
  refine lv_iinc (v := Int32.ofInt (x + c)) F.exec F.code hd h3 hj (Int32.ofInt_add x c).symm hn rfl (fun ls2 h4 => ?_)
  have h5 := mh_st1_sub (v := .int (Int32.ofInt (x + c))) h4
  rw [show mh_st1 (x0 :: x1 :: some (.int (Int32.ofInt x)) :: r) 2 (.int (Int32.ofInt (x + c))) = x0 :: x1 :: some (.int (Int32.ofInt (x + c))) :: r from mh_st1_s (r := some (.int (Int32.ofInt x)) :: r) [x0] x1 hc] at h5
  exact k H locs ls2 h1 h2 h5
theorem mh_iinc3 (F : mh_Fr g f own cc nL d) {x0 x1 x2 : Option Value} {r : List (Option Value)} {x c : Int} (hd : decode cc pc = .ok (.iinc 3 c, 3)) (hc : mh_c1 x2 = true) (hn : 3 < nL) (k : mh_V g f nL n cl sl (pc + 3) (x0 :: x1 :: x2 :: some (.int (Int32.ofInt (x + c))) :: r) st h) : mh_V g f nL n cl sl pc (x0 :: x1 :: x2 :: some (.int (Int32.ofInt x)) :: r) st h := by
  intro H locs ls h1 h2 h3
  have hm : (3, Value.int (Int32.ofInt x)) ∈ mh_lo g 0 (x0 :: x1 :: x2 :: some (.int (Int32.ofInt x)) :: r) := by
    have := mh_lo_at (g := g) (k := 3) (v := .int (Int32.ofInt x)) (x0 :: x1 :: x2 :: some (.int (Int32.ofInt x)) :: r) 0 rfl
    rw [Nat.zero_add] at this
    exact this
  obtain ⟨j, hj⟩ := List.getElem?_of_mem hm
  refine lv_iinc (v := Int32.ofInt (x + c)) F.exec F.code hd h3 hj (Int32.ofInt_add x c).symm hn rfl (fun ls2 h4 => ?_)
  have h5 := mh_st1_sub (v := .int (Int32.ofInt (x + c))) h4
  rw [show mh_st1 (x0 :: x1 :: x2 :: some (.int (Int32.ofInt x)) :: r) 3 (.int (Int32.ofInt (x + c))) = x0 :: x1 :: x2 :: some (.int (Int32.ofInt (x + c))) :: r from mh_st1_s (r := some (.int (Int32.ofInt x)) :: r) [x0, x1] x2 hc] at h5
  exact k H locs ls2 h1 h2 h5
theorem mh_iinc4 (F : mh_Fr g f own cc nL d) {x0 x1 x2 x3 : Option Value} {r : List (Option Value)} {x c : Int} (hd : decode cc pc = .ok (.iinc 4 c, 3)) (hc : mh_c1 x3 = true) (hn : 4 < nL) (k : mh_V g f nL n cl sl (pc + 3) (x0 :: x1 :: x2 :: x3 :: some (.int (Int32.ofInt (x + c))) :: r) st h) : mh_V g f nL n cl sl pc (x0 :: x1 :: x2 :: x3 :: some (.int (Int32.ofInt x)) :: r) st h := by
  intro H locs ls h1 h2 h3
  have hm : (4, Value.int (Int32.ofInt x)) ∈ mh_lo g 0 (x0 :: x1 :: x2 :: x3 :: some (.int (Int32.ofInt x)) :: r) := by
    have := mh_lo_at (g := g) (k := 4) (v := .int (Int32.ofInt x)) (x0 :: x1 :: x2 :: x3 :: some (.int (Int32.ofInt x)) :: r) 0 rfl
    rw [Nat.zero_add] at this
    exact this
  obtain ⟨j, hj⟩ := List.getElem?_of_mem hm
  refine lv_iinc (v := Int32.ofInt (x + c)) F.exec F.code hd h3 hj (Int32.ofInt_add x c).symm hn rfl (fun ls2 h4 => ?_)
  have h5 := mh_st1_sub (v := .int (Int32.ofInt (x + c))) h4
  rw [show mh_st1 (x0 :: x1 :: x2 :: x3 :: some (.int (Int32.ofInt x)) :: r) 4 (.int (Int32.ofInt (x + c))) = x0 :: x1 :: x2 :: x3 :: some (.int (Int32.ofInt (x + c))) :: r from mh_st1_s (r := some (.int (Int32.ofInt x)) :: r) [x0, x1, x2] x3 hc] at h5
  exact k H locs ls2 h1 h2 h5
theorem mh_iinc5 (F : mh_Fr g f own cc nL d) {x0 x1 x2 x3 x4 : Option Value} {r : List (Option Value)} {x c : Int} (hd : decode cc pc = .ok (.iinc 5 c, 3)) (hc : mh_c1 x4 = true) (hn : 5 < nL) (k : mh_V g f nL n cl sl (pc + 3) (x0 :: x1 :: x2 :: x3 :: x4 :: some (.int (Int32.ofInt (x + c))) :: r) st h) : mh_V g f nL n cl sl pc (x0 :: x1 :: x2 :: x3 :: x4 :: some (.int (Int32.ofInt x)) :: r) st h := by
  intro H locs ls h1 h2 h3
  have hm : (5, Value.int (Int32.ofInt x)) ∈ mh_lo g 0 (x0 :: x1 :: x2 :: x3 :: x4 :: some (.int (Int32.ofInt x)) :: r) := by
    have := mh_lo_at (g := g) (k := 5) (v := .int (Int32.ofInt x)) (x0 :: x1 :: x2 :: x3 :: x4 :: some (.int (Int32.ofInt x)) :: r) 0 rfl
    rw [Nat.zero_add] at this
    exact this
  obtain ⟨j, hj⟩ := List.getElem?_of_mem hm
  refine lv_iinc (v := Int32.ofInt (x + c)) F.exec F.code hd h3 hj (Int32.ofInt_add x c).symm hn rfl (fun ls2 h4 => ?_)
  have h5 := mh_st1_sub (v := .int (Int32.ofInt (x + c))) h4
  rw [show mh_st1 (x0 :: x1 :: x2 :: x3 :: x4 :: some (.int (Int32.ofInt x)) :: r) 5 (.int (Int32.ofInt (x + c))) = x0 :: x1 :: x2 :: x3 :: x4 :: some (.int (Int32.ofInt (x + c))) :: r from mh_st1_s (r := some (.int (Int32.ofInt x)) :: r) [x0, x1, x2, x3] x4 hc] at h5
  exact k H locs ls2 h1 h2 h5
theorem mh_iinc6 (F : mh_Fr g f own cc nL d) {x0 x1 x2 x3 x4 x5 : Option Value} {r : List (Option Value)} {x c : Int} (hd : decode cc pc = .ok (.iinc 6 c, 3)) (hc : mh_c1 x5 = true) (hn : 6 < nL) (k : mh_V g f nL n cl sl (pc + 3) (x0 :: x1 :: x2 :: x3 :: x4 :: x5 :: some (.int (Int32.ofInt (x + c))) :: r) st h) : mh_V g f nL n cl sl pc (x0 :: x1 :: x2 :: x3 :: x4 :: x5 :: some (.int (Int32.ofInt x)) :: r) st h := by
  intro H locs ls h1 h2 h3
  have hm : (6, Value.int (Int32.ofInt x)) ∈ mh_lo g 0 (x0 :: x1 :: x2 :: x3 :: x4 :: x5 :: some (.int (Int32.ofInt x)) :: r) := by
    have := mh_lo_at (g := g) (k := 6) (v := .int (Int32.ofInt x)) (x0 :: x1 :: x2 :: x3 :: x4 :: x5 :: some (.int (Int32.ofInt x)) :: r) 0 rfl
    rw [Nat.zero_add] at this
    exact this
  obtain ⟨j, hj⟩ := List.getElem?_of_mem hm
  refine lv_iinc (v := Int32.ofInt (x + c)) F.exec F.code hd h3 hj (Int32.ofInt_add x c).symm hn rfl (fun ls2 h4 => ?_)
  have h5 := mh_st1_sub (v := .int (Int32.ofInt (x + c))) h4
  rw [show mh_st1 (x0 :: x1 :: x2 :: x3 :: x4 :: x5 :: some (.int (Int32.ofInt x)) :: r) 6 (.int (Int32.ofInt (x + c))) = x0 :: x1 :: x2 :: x3 :: x4 :: x5 :: some (.int (Int32.ofInt (x + c))) :: r from mh_st1_s (r := some (.int (Int32.ofInt x)) :: r) [x0, x1, x2, x3, x4] x5 hc] at h5
  exact k H locs ls2 h1 h2 h5
theorem mh_iinc7 (F : mh_Fr g f own cc nL d) {x0 x1 x2 x3 x4 x5 x6 : Option Value} {r : List (Option Value)} {x c : Int} (hd : decode cc pc = .ok (.iinc 7 c, 3)) (hc : mh_c1 x6 = true) (hn : 7 < nL) (k : mh_V g f nL n cl sl (pc + 3) (x0 :: x1 :: x2 :: x3 :: x4 :: x5 :: x6 :: some (.int (Int32.ofInt (x + c))) :: r) st h) : mh_V g f nL n cl sl pc (x0 :: x1 :: x2 :: x3 :: x4 :: x5 :: x6 :: some (.int (Int32.ofInt x)) :: r) st h := by
  intro H locs ls h1 h2 h3
  have hm : (7, Value.int (Int32.ofInt x)) ∈ mh_lo g 0 (x0 :: x1 :: x2 :: x3 :: x4 :: x5 :: x6 :: some (.int (Int32.ofInt x)) :: r) := by
    have := mh_lo_at (g := g) (k := 7) (v := .int (Int32.ofInt x)) (x0 :: x1 :: x2 :: x3 :: x4 :: x5 :: x6 :: some (.int (Int32.ofInt x)) :: r) 0 rfl
    rw [Nat.zero_add] at this
    exact this
  obtain ⟨j, hj⟩ := List.getElem?_of_mem hm
  refine lv_iinc (v := Int32.ofInt (x + c)) F.exec F.code hd h3 hj (Int32.ofInt_add x c).symm hn rfl (fun ls2 h4 => ?_)
  have h5 := mh_st1_sub (v := .int (Int32.ofInt (x + c))) h4
  rw [show mh_st1 (x0 :: x1 :: x2 :: x3 :: x4 :: x5 :: x6 :: some (.int (Int32.ofInt x)) :: r) 7 (.int (Int32.ofInt (x + c))) = x0 :: x1 :: x2 :: x3 :: x4 :: x5 :: x6 :: some (.int (Int32.ofInt (x + c))) :: r from mh_st1_s (r := some (.int (Int32.ofInt x)) :: r) [x0, x1, x2, x3, x4, x5] x6 hc] at h5
  exact k H locs ls2 h1 h2 h5
theorem mh_iinc8 (F : mh_Fr g f own cc nL d) {x0 x1 x2 x3 x4 x5 x6 x7 : Option Value} {r : List (Option Value)} {x c : Int} (hd : decode cc pc = .ok (.iinc 8 c, 3)) (hc : mh_c1 x7 = true) (hn : 8 < nL) (k : mh_V g f nL n cl sl (pc + 3) (x0 :: x1 :: x2 :: x3 :: x4 :: x5 :: x6 :: x7 :: some (.int (Int32.ofInt (x + c))) :: r) st h) : mh_V g f nL n cl sl pc (x0 :: x1 :: x2 :: x3 :: x4 :: x5 :: x6 :: x7 :: some (.int (Int32.ofInt x)) :: r) st h := by
  intro H locs ls h1 h2 h3
  have hm : (8, Value.int (Int32.ofInt x)) ∈ mh_lo g 0 (x0 :: x1 :: x2 :: x3 :: x4 :: x5 :: x6 :: x7 :: some (.int (Int32.ofInt x)) :: r) := by
    have := mh_lo_at (g := g) (k := 8) (v := .int (Int32.ofInt x)) (x0 :: x1 :: x2 :: x3 :: x4 :: x5 :: x6 :: x7 :: some (.int (Int32.ofInt x)) :: r) 0 rfl
    rw [Nat.zero_add] at this
    exact this
  obtain ⟨j, hj⟩ := List.getElem?_of_mem hm
  refine lv_iinc (v := Int32.ofInt (x + c)) F.exec F.code hd h3 hj (Int32.ofInt_add x c).symm hn rfl (fun ls2 h4 => ?_)
  have h5 := mh_st1_sub (v := .int (Int32.ofInt (x + c))) h4
  rw [show mh_st1 (x0 :: x1 :: x2 :: x3 :: x4 :: x5 :: x6 :: x7 :: some (.int (Int32.ofInt x)) :: r) 8 (.int (Int32.ofInt (x + c))) = x0 :: x1 :: x2 :: x3 :: x4 :: x5 :: x6 :: x7 :: some (.int (Int32.ofInt (x + c))) :: r from mh_st1_s (r := some (.int (Int32.ofInt x)) :: r) [x0, x1, x2, x3, x4, x5, x6] x7 hc] at h5
  exact k H locs ls2 h1 h2 h5
theorem mh_iinc9 (F : mh_Fr g f own cc nL d) {x0 x1 x2 x3 x4 x5 x6 x7 x8 : Option Value} {r : List (Option Value)} {x c : Int} (hd : decode cc pc = .ok (.iinc 9 c, 3)) (hc : mh_c1 x8 = true) (hn : 9 < nL) (k : mh_V g f nL n cl sl (pc + 3) (x0 :: x1 :: x2 :: x3 :: x4 :: x5 :: x6 :: x7 :: x8 :: some (.int (Int32.ofInt (x + c))) :: r) st h) : mh_V g f nL n cl sl pc (x0 :: x1 :: x2 :: x3 :: x4 :: x5 :: x6 :: x7 :: x8 :: some (.int (Int32.ofInt x)) :: r) st h := by
  intro H locs ls h1 h2 h3
  have hm : (9, Value.int (Int32.ofInt x)) ∈ mh_lo g 0 (x0 :: x1 :: x2 :: x3 :: x4 :: x5 :: x6 :: x7 :: x8 :: some (.int (Int32.ofInt x)) :: r) := by
    have := mh_lo_at (g := g) (k := 9) (v := .int (Int32.ofInt x)) (x0 :: x1 :: x2 :: x3 :: x4 :: x5 :: x6 :: x7 :: x8 :: some (.int (Int32.ofInt x)) :: r) 0 rfl
    rw [Nat.zero_add] at this
    exact this
  obtain ⟨j, hj⟩ := List.getElem?_of_mem hm
  refine lv_iinc (v := Int32.ofInt (x + c)) F.exec F.code hd h3 hj (Int32.ofInt_add x c).symm hn rfl (fun ls2 h4 => ?_)
  have h5 := mh_st1_sub (v := .int (Int32.ofInt (x + c))) h4
  rw [show mh_st1 (x0 :: x1 :: x2 :: x3 :: x4 :: x5 :: x6 :: x7 :: x8 :: some (.int (Int32.ofInt x)) :: r) 9 (.int (Int32.ofInt (x + c))) = x0 :: x1 :: x2 :: x3 :: x4 :: x5 :: x6 :: x7 :: x8 :: some (.int (Int32.ofInt (x + c))) :: r from mh_st1_s (r := some (.int (Int32.ofInt x)) :: r) [x0, x1, x2, x3, x4, x5, x6, x7] x8 hc] at h5
  exact k H locs ls2 h1 h2 h5
theorem mh_iinc10 (F : mh_Fr g f own cc nL d) {x0 x1 x2 x3 x4 x5 x6 x7 x8 x9 : Option Value} {r : List (Option Value)} {x c : Int} (hd : decode cc pc = .ok (.iinc 10 c, 3)) (hc : mh_c1 x9 = true) (hn : 10 < nL) (k : mh_V g f nL n cl sl (pc + 3) (x0 :: x1 :: x2 :: x3 :: x4 :: x5 :: x6 :: x7 :: x8 :: x9 :: some (.int (Int32.ofInt (x + c))) :: r) st h) : mh_V g f nL n cl sl pc (x0 :: x1 :: x2 :: x3 :: x4 :: x5 :: x6 :: x7 :: x8 :: x9 :: some (.int (Int32.ofInt x)) :: r) st h := by
  intro H locs ls h1 h2 h3
  have hm : (10, Value.int (Int32.ofInt x)) ∈ mh_lo g 0 (x0 :: x1 :: x2 :: x3 :: x4 :: x5 :: x6 :: x7 :: x8 :: x9 :: some (.int (Int32.ofInt x)) :: r) := by
    have := mh_lo_at (g := g) (k := 10) (v := .int (Int32.ofInt x)) (x0 :: x1 :: x2 :: x3 :: x4 :: x5 :: x6 :: x7 :: x8 :: x9 :: some (.int (Int32.ofInt x)) :: r) 0 rfl
    rw [Nat.zero_add] at this
    exact this
  obtain ⟨j, hj⟩ := List.getElem?_of_mem hm
  refine lv_iinc (v := Int32.ofInt (x + c)) F.exec F.code hd h3 hj (Int32.ofInt_add x c).symm hn rfl (fun ls2 h4 => ?_)
  have h5 := mh_st1_sub (v := .int (Int32.ofInt (x + c))) h4
  rw [show mh_st1 (x0 :: x1 :: x2 :: x3 :: x4 :: x5 :: x6 :: x7 :: x8 :: x9 :: some (.int (Int32.ofInt x)) :: r) 10 (.int (Int32.ofInt (x + c))) = x0 :: x1 :: x2 :: x3 :: x4 :: x5 :: x6 :: x7 :: x8 :: x9 :: some (.int (Int32.ofInt (x + c))) :: r from mh_st1_s (r := some (.int (Int32.ofInt x)) :: r) [x0, x1, x2, x3, x4, x5, x6, x7, x8] x9 hc] at h5
  exact k H locs ls2 h1 h2 h5
theorem mh_iinc11 (F : mh_Fr g f own cc nL d) {x0 x1 x2 x3 x4 x5 x6 x7 x8 x9 x10 : Option Value} {r : List (Option Value)} {x c : Int} (hd : decode cc pc = .ok (.iinc 11 c, 3)) (hc : mh_c1 x10 = true) (hn : 11 < nL) (k : mh_V g f nL n cl sl (pc + 3) (x0 :: x1 :: x2 :: x3 :: x4 :: x5 :: x6 :: x7 :: x8 :: x9 :: x10 :: some (.int (Int32.ofInt (x + c))) :: r) st h) : mh_V g f nL n cl sl pc (x0 :: x1 :: x2 :: x3 :: x4 :: x5 :: x6 :: x7 :: x8 :: x9 :: x10 :: some (.int (Int32.ofInt x)) :: r) st h := by
  intro H locs ls h1 h2 h3
  have hm : (11, Value.int (Int32.ofInt x)) ∈ mh_lo g 0 (x0 :: x1 :: x2 :: x3 :: x4 :: x5 :: x6 :: x7 :: x8 :: x9 :: x10 :: some (.int (Int32.ofInt x)) :: r) := by
    have := mh_lo_at (g := g) (k := 11) (v := .int (Int32.ofInt x)) (x0 :: x1 :: x2 :: x3 :: x4 :: x5 :: x6 :: x7 :: x8 :: x9 :: x10 :: some (.int (Int32.ofInt x)) :: r) 0 rfl
    rw [Nat.zero_add] at this
    exact this
  obtain ⟨j, hj⟩ := List.getElem?_of_mem hm
  refine lv_iinc (v := Int32.ofInt (x + c)) F.exec F.code hd h3 hj (Int32.ofInt_add x c).symm hn rfl (fun ls2 h4 => ?_)
  have h5 := mh_st1_sub (v := .int (Int32.ofInt (x + c))) h4
  rw [show mh_st1 (x0 :: x1 :: x2 :: x3 :: x4 :: x5 :: x6 :: x7 :: x8 :: x9 :: x10 :: some (.int (Int32.ofInt x)) :: r) 11 (.int (Int32.ofInt (x + c))) = x0 :: x1 :: x2 :: x3 :: x4 :: x5 :: x6 :: x7 :: x8 :: x9 :: x10 :: some (.int (Int32.ofInt (x + c))) :: r from mh_st1_s (r := some (.int (Int32.ofInt x)) :: r) [x0, x1, x2, x3, x4, x5, x6, x7, x8, x9] x10 hc] at h5
  exact k H locs ls2 h1 h2 h5
theorem mh_iinc12 (F : mh_Fr g f own cc nL d) {x0 x1 x2 x3 x4 x5 x6 x7 x8 x9 x10 x11 : Option Value} {r : List (Option Value)} {x c : Int} (hd : decode cc pc = .ok (.iinc 12 c, 3)) (hc : mh_c1 x11 = true) (hn : 12 < nL) (k : mh_V g f nL n cl sl (pc + 3) (x0 :: x1 :: x2 :: x3 :: x4 :: x5 :: x6 :: x7 :: x8 :: x9 :: x10 :: x11 :: some (.int (Int32.ofInt (x + c))) :: r) st h) : mh_V g f nL n cl sl pc (x0 :: x1 :: x2 :: x3 :: x4 :: x5 :: x6 :: x7 :: x8 :: x9 :: x10 :: x11 :: some (.int (Int32.ofInt x)) :: r) st h := by
  intro H locs ls h1 h2 h3
  have hm : (12, Value.int (Int32.ofInt x)) ∈ mh_lo g 0 (x0 :: x1 :: x2 :: x3 :: x4 :: x5 :: x6 :: x7 :: x8 :: x9 :: x10 :: x11 :: some (.int (Int32.ofInt x)) :: r) := by
    have := mh_lo_at (g := g) (k := 12) (v := .int (Int32.ofInt x)) (x0 :: x1 :: x2 :: x3 :: x4 :: x5 :: x6 :: x7 :: x8 :: x9 :: x10 :: x11 :: some (.int (Int32.ofInt x)) :: r) 0 rfl
    rw [Nat.zero_add] at this
    exact this
  obtain ⟨j, hj⟩ := List.getElem?_of_mem hm
  refine lv_iinc (v := Int32.ofInt (x + c)) F.exec F.code hd h3 hj (Int32.ofInt_add x c).symm hn rfl (fun ls2 h4 => ?_)
  have h5 := mh_st1_sub (v := .int (Int32.ofInt (x + c))) h4
  rw [show mh_st1 (x0 :: x1 :: x2 :: x3 :: x4 :: x5 :: x6 :: x7 :: x8 :: x9 :: x10 :: x11 :: some (.int (Int32.ofInt x)) :: r) 12 (.int (Int32.ofInt (x + c))) = x0 :: x1 :: x2 :: x3 :: x4 :: x5 :: x6 :: x7 :: x8 :: x9 :: x10 :: x11 :: some (.int (Int32.ofInt (x + c))) :: r from mh_st1_s (r := some (.int (Int32.ofInt x)) :: r) [x0, x1, x2, x3, x4, x5, x6, x7, x8, x9, x10] x11 hc] at h5
  exact k H locs ls2 h1 h2 h5
theorem mh_iinc13 (F : mh_Fr g f own cc nL d) {x0 x1 x2 x3 x4 x5 x6 x7 x8 x9 x10 x11 x12 : Option Value} {r : List (Option Value)} {x c : Int} (hd : decode cc pc = .ok (.iinc 13 c, 3)) (hc : mh_c1 x12 = true) (hn : 13 < nL) (k : mh_V g f nL n cl sl (pc + 3) (x0 :: x1 :: x2 :: x3 :: x4 :: x5 :: x6 :: x7 :: x8 :: x9 :: x10 :: x11 :: x12 :: some (.int (Int32.ofInt (x + c))) :: r) st h) : mh_V g f nL n cl sl pc (x0 :: x1 :: x2 :: x3 :: x4 :: x5 :: x6 :: x7 :: x8 :: x9 :: x10 :: x11 :: x12 :: some (.int (Int32.ofInt x)) :: r) st h := by
  intro H locs ls h1 h2 h3
  have hm : (13, Value.int (Int32.ofInt x)) ∈ mh_lo g 0 (x0 :: x1 :: x2 :: x3 :: x4 :: x5 :: x6 :: x7 :: x8 :: x9 :: x10 :: x11 :: x12 :: some (.int (Int32.ofInt x)) :: r) := by
    have := mh_lo_at (g := g) (k := 13) (v := .int (Int32.ofInt x)) (x0 :: x1 :: x2 :: x3 :: x4 :: x5 :: x6 :: x7 :: x8 :: x9 :: x10 :: x11 :: x12 :: some (.int (Int32.ofInt x)) :: r) 0 rfl
    rw [Nat.zero_add] at this
    exact this
  obtain ⟨j, hj⟩ := List.getElem?_of_mem hm
  refine lv_iinc (v := Int32.ofInt (x + c)) F.exec F.code hd h3 hj (Int32.ofInt_add x c).symm hn rfl (fun ls2 h4 => ?_)
  have h5 := mh_st1_sub (v := .int (Int32.ofInt (x + c))) h4
  rw [show mh_st1 (x0 :: x1 :: x2 :: x3 :: x4 :: x5 :: x6 :: x7 :: x8 :: x9 :: x10 :: x11 :: x12 :: some (.int (Int32.ofInt x)) :: r) 13 (.int (Int32.ofInt (x + c))) = x0 :: x1 :: x2 :: x3 :: x4 :: x5 :: x6 :: x7 :: x8 :: x9 :: x10 :: x11 :: x12 :: some (.int (Int32.ofInt (x + c))) :: r from mh_st1_s (r := some (.int (Int32.ofInt x)) :: r) [x0, x1, x2, x3, x4, x5, x6, x7, x8, x9, x10, x11] x12 hc] at h5
  exact k H locs ls2 h1 h2 h5
/-- a contract that answers v and leaves the world -/
def mh_MP (g : mh_G) (d : Nat) (y : MethodName) (cc : ByteArray) (nL : Nat) (ret : Option FieldType) (n : Nat) (av : List Value) (h : Nat → Int → Int) (v : Option Value) : Prop := mh_M g d y cc nL ret n 0 0 av h (fun r h' => r = v ∧ h' = h)
theorem mh_callV0 (F : mh_Fr g f own cc nL d) (hd1 : 1 ≤ d) {ix a ci np mL : Nat} {y : MethodName} {b : ByteArray} {As st0 : List Value} (hM : mh_M g (d - 1) y b mL ret n 0 0 (.ref a :: As) h post) (hw : mh_cV own ix y b mL ret np) (hd : decode cc pc = .ok (.invokevirtual ix, 3)) (hs : mh_sh a = .inl ci) (hC : mh_C ci = y.cls) (ha : a < n) (hn : As.length = np) (h0 : st0 = As.reverse ++ .ref a :: st) (h8 : (st.map fun v => v.category).sum ≤ 8) (hc : cl ≤ (mh_R f).cells ∧ sl ≤ (mh_R f).slots)
    (k : ∀ (r : Option Value) (h' : Nat → Int → Int), post r h' → mh_V g f nL n cl sl (pc + 3) loc (r.toList ++ st) h') : mh_V g f nL n cl sl pc loc st0 h := mh_callV F hd1 hM hw hd hs hC ha hn h0 h8 hc k
theorem mh_callS0 (F : mh_Fr g f own cc nL d) (hd1 : 1 ≤ d) {ix np mL : Nat} {y : MethodName} {b : ByteArray} {As st0 : List Value} (hM : mh_M g (d - 1) y b mL ret n 0 0 As h post) (hw : mh_cS own ix y b mL ret np) (hd : decode cc pc = .ok (.invokestatic ix, 3)) (hn : As.length = np) (h0 : st0 = As.reverse ++ st) (h8 : (st.map fun v => v.category).sum ≤ 8) (hc : cl ≤ (mh_R f).cells ∧ sl ≤ (mh_R f).slots)
    (k : ∀ (r : Option Value) (h' : Nat → Int → Int), post r h' → mh_V g f nL n cl sl (pc + 3) loc (r.toList ++ st) h') : mh_V g f nL n cl sl pc loc st0 h := mh_callS F hd1 hM hw hd hn h0 h8 hc k
theorem mh_callSU0 (F : mh_Fr g f own cc nL d) (hd1 : 1 ≤ d) {ix a ci np mL : Nat} {y : MethodName} {b : ByteArray} {As st0 : List Value} (hM : mh_M g (d - 1) y b mL ret n 0 0 (.ref a :: As) h post) (hw : mh_cSU own ix y b mL ret np) (hd : decode cc pc = .ok (.invokespecial ix, 3)) (hs : mh_sh a = .inl ci) (ha : a < n) (hn : As.length = np) (h0 : st0 = As.reverse ++ .ref a :: st) (h8 : (st.map fun v => v.category).sum ≤ 8) (hc : cl ≤ (mh_R f).cells ∧ sl ≤ (mh_R f).slots)
    (k : ∀ (r : Option Value) (h' : Nat → Int → Int), post r h' → mh_V g f nL n cl sl (pc + 3) loc (r.toList ++ st) h') : mh_V g f nL n cl sl pc loc st0 h := mh_callSU F hd1 hM hw hd hs ha hn h0 h8 hc k
theorem mh_callU0 (F : mh_Fr g f own cc nL d) (hd1 : 1 ≤ d) {ix a ci np mL m0 : Nat} {x y : MethodName} {owner : String} {b b0 : ByteArray} {r0 : Option FieldType} {As st0 : List Value} (hM : mh_M g (d - 1) y b mL ret n 0 0 (.ref a :: As) h post) (hw : mh_cU own ix (mh_C ci) owner x y b mL ret np b0 m0 r0) (hd : decode cc pc = .ok (.invokevirtual ix, 3)) (hs : mh_sh a = .inl ci) (ha : a < n) (hn : As.length = np) (h0 : st0 = As.reverse ++ .ref a :: st) (h8 : (st.map fun v => v.category).sum ≤ 8) (hc : cl ≤ (mh_R f).cells ∧ sl ≤ (mh_R f).slots)
    (k : ∀ (r : Option Value) (h' : Nat → Int → Int), post r h' → mh_V g f nL n cl sl (pc + 3) loc (r.toList ++ st) h') : mh_V g f nL n cl sl pc loc st0 h := mh_callU F hd1 hM hw hd hs ha hn h0 h8 hc k
theorem mh_callVp (F : mh_Fr g f own cc nL d) (hd1 : 1 ≤ d) {ix a ci np mL : Nat} {y : MethodName} {b : ByteArray} {As st0 : List Value} {v : Option Value} (hM : mh_MP g (d - 1) y b mL ret n (.ref a :: As) h v) (hw : mh_cV own ix y b mL ret np) (hd : decode cc pc = .ok (.invokevirtual ix, 3)) (hs : mh_sh a = .inl ci) (hC : mh_C ci = y.cls) (ha : a < n) (hn : As.length = np) (h0 : st0 = As.reverse ++ .ref a :: st) (h8 : (st.map fun v => v.category).sum ≤ 8) (hc : cl ≤ (mh_R f).cells ∧ sl ≤ (mh_R f).slots)
    (k : mh_V g f nL n cl sl (pc + 3) loc (v.toList ++ st) h) : mh_V g f nL n cl sl pc loc st0 h := mh_callV F hd1 hM hw hd hs hC ha hn h0 h8 hc (fun r h' q => by rw [q.1, q.2]; exact k)
theorem mh_callSp (F : mh_Fr g f own cc nL d) (hd1 : 1 ≤ d) {ix np mL : Nat} {y : MethodName} {b : ByteArray} {As st0 : List Value} {v : Option Value} (hM : mh_MP g (d - 1) y b mL ret n As h v) (hw : mh_cS own ix y b mL ret np) (hd : decode cc pc = .ok (.invokestatic ix, 3)) (hn : As.length = np) (h0 : st0 = As.reverse ++ st) (h8 : (st.map fun v => v.category).sum ≤ 8) (hc : cl ≤ (mh_R f).cells ∧ sl ≤ (mh_R f).slots)
    (k : mh_V g f nL n cl sl (pc + 3) loc (v.toList ++ st) h) : mh_V g f nL n cl sl pc loc st0 h := mh_callS F hd1 hM hw hd hn h0 h8 hc (fun r h' q => by rw [q.1, q.2]; exact k)
theorem mh_callSUp (F : mh_Fr g f own cc nL d) (hd1 : 1 ≤ d) {ix a ci np mL : Nat} {y : MethodName} {b : ByteArray} {As st0 : List Value} {v : Option Value} (hM : mh_MP g (d - 1) y b mL ret n (.ref a :: As) h v) (hw : mh_cSU own ix y b mL ret np) (hd : decode cc pc = .ok (.invokespecial ix, 3)) (hs : mh_sh a = .inl ci) (ha : a < n) (hn : As.length = np) (h0 : st0 = As.reverse ++ .ref a :: st) (h8 : (st.map fun v => v.category).sum ≤ 8) (hc : cl ≤ (mh_R f).cells ∧ sl ≤ (mh_R f).slots)
    (k : mh_V g f nL n cl sl (pc + 3) loc (v.toList ++ st) h) : mh_V g f nL n cl sl pc loc st0 h := mh_callSU F hd1 hM hw hd hs ha hn h0 h8 hc (fun r h' q => by rw [q.1, q.2]; exact k)
theorem mh_callUp (F : mh_Fr g f own cc nL d) (hd1 : 1 ≤ d) {ix a ci np mL m0 : Nat} {x y : MethodName} {owner : String} {b b0 : ByteArray} {r0 : Option FieldType} {As st0 : List Value} {v : Option Value} (hM : mh_MP g (d - 1) y b mL ret n (.ref a :: As) h v) (hw : mh_cU own ix (mh_C ci) owner x y b mL ret np b0 m0 r0) (hd : decode cc pc = .ok (.invokevirtual ix, 3)) (hs : mh_sh a = .inl ci) (ha : a < n) (hn : As.length = np) (h0 : st0 = As.reverse ++ .ref a :: st) (h8 : (st.map fun v => v.category).sum ≤ 8) (hc : cl ≤ (mh_R f).cells ∧ sl ≤ (mh_R f).slots)
    (k : mh_V g f nL n cl sl (pc + 3) loc (v.toList ++ st) h) : mh_V g f nL n cl sl pc loc st0 h := mh_callU F hd1 hM hw hd hs ha hn h0 h8 hc (fun r h' q => by rw [q.1, q.2]; exact k)
theorem mh_ireturnp (F : mh_Fr g f own cc nL d) {v : Int} {h0 : Nat → Int → Int} (Z : mh_Rt g f n cl sl (some .int) (fun r h' => r = some (.int (Int32.ofInt v)) ∧ h' = h0)) (hd : decode cc pc = .ok (.ireturn, 1)) {x : Int} (hx : x = v) (hh : h = h0) : mh_V g f nL n cl sl pc loc [.int (Int32.ofInt x)] h := mh_ireturn F Z hd ⟨by rw [hx], hh⟩
def mh_B (p : Prop) [Decidable p] : Int := if p then 1 else 0
theorem mh_B1 {p : Prop} [Decidable p] (q : p) : mh_B p = 1 := if_pos q
theorem mh_B0 {p : Prop} [Decidable p] (q : ¬ p) : mh_B p = 0 := if_neg q
theorem mh_B01 {p : Prop} [Decidable p] : mh_B p = 0 ∨ mh_B p = 1 := by unfold mh_B; split <;> simp
theorem mh_Brg {p : Prop} [Decidable p] : -2147483648 ≤ mh_B p ∧ mh_B p < 2147483648 := by unfold mh_B; split <;> decide
theorem mh_zreturnp (F : mh_Fr g f own cc nL d) {p : Prop} [Decidable p] {h0 : Nat → Int → Int} (Z : mh_Rt g f n cl sl (some .boolean) (fun r h' => r = some (.int (Int32.ofInt (mh_B p))) ∧ h' = h0)) (hd : decode cc pc = .ok (.ireturn, 1)) {x : Int} (hx : (x = 1 ∧ p) ∨ (x = 0 ∧ ¬ p)) (hh : h = h0) : mh_V g f nL n cl sl pc loc [.int (Int32.ofInt x)] h := by
  refine mh_zreturn F Z hd (by rcases hx with q | q <;> simp [q.1]) ⟨?_, hh⟩
  rcases hx with q | q
  · rw [q.1, mh_B1 q.2]
  · rw [q.1, mh_B0 q.2]
theorem mh_ifb_eq (F : mh_Fr g f own cc nL d) {p : Prop} [Decidable p] {off : Int} {tgt : Nat} (hd : decode cc pc = .ok (.ifCond .eq off, 3)) (ht : (pc : Int) + off = (tgt : Int)) (kt : ¬ p → mh_V g f nL n cl sl tgt loc st h) (kf : p → mh_V g f nL n cl sl (pc + 3) loc st h) : mh_V g f nL n cl sl pc loc (.int (Int32.ofInt (mh_B p)) :: st) h :=
  mh_if_eq F hd ht mh_Brg (fun q => kt (fun z => by rw [mh_B1 z] at q; exact absurd q (by decide))) (fun q => kf (Decidable.byContradiction fun z => q (mh_B0 z)))
theorem mh_ifb_ne (F : mh_Fr g f own cc nL d) {p : Prop} [Decidable p] {off : Int} {tgt : Nat} (hd : decode cc pc = .ok (.ifCond .ne off, 3)) (ht : (pc : Int) + off = (tgt : Int)) (kt : p → mh_V g f nL n cl sl tgt loc st h) (kf : ¬ p → mh_V g f nL n cl sl (pc + 3) loc st h) : mh_V g f nL n cl sl pc loc (.int (Int32.ofInt (mh_B p)) :: st) h :=
  mh_if_ne F hd ht mh_Brg (fun q => kt (Decidable.byContradiction fun z => q (mh_B0 z))) (fun q => kf (fun z => by rw [mh_B1 z] at q; exact absurd q (by decide)))
end
/-- rows: what one object or array holds -/
def mh_ur (s : Int → Int) (i v : Int) : Int → Int := fun j => if j = i then v else s j
theorem mh_up_row {h : Nat → Int → Int} {a b : Nat} {k v : Int} (q : b ≠ a) : mh_up h a k v b = h b := by
  funext j; exact mh_up_ne (fun z => q z.1)
theorem mh_up_rs {h : Nat → Int → Int} {a : Nat} {k v : Int} : mh_up h a k v a = mh_ur (h a) k v := by
  funext j; simp [mh_up, mh_ur]
def mh_fr (S : List Nat) (h h' : Nat → Int → Int) : Prop := ∀ a, a ∉ S → h' a = h a
theorem mh_fr.rf {h : Nat → Int → Int} : mh_fr [] h h := fun _ _ => rfl
theorem mh_fr.up {S : List Nat} {h h1 h2 : Nat → Int → Int} {a : Nat} {k v : Int} (H : mh_fr S h h1) (e : h2 = mh_up h1 a k v) : mh_fr (a :: S) h h2 := fun b hb => by
  rw [e, mh_up_row (fun z => hb (by simp [z]))]
  exact H b (fun z => hb (List.mem_cons_of_mem _ z))
theorem mh_fr.upi {S : List Nat} {h h1 h2 : Nat → Int → Int} {a : Nat} {k v : Int} (H : mh_fr S h h1) (e : h2 = mh_up h1 a k v) (ha : a ∈ S) : mh_fr S h h2 := fun b hb => by
  rw [e, mh_up_row (fun z : b = a => hb (by rw [z]; exact ha))]
  exact H b hb
theorem mh_fr.tr {S S' : List Nat} {h h1 h2 : Nat → Int → Int} (H : mh_fr S h h1) (H2 : mh_fr S' h1 h2) : mh_fr (S' ++ S) h h2 := fun b hb => by
  rw [H2 b (fun z => hb (List.mem_append.mpr (Or.inl z))), H b (fun z => hb (List.mem_append.mpr (Or.inr z)))]
theorem mh_fr.mono {S S' : List Nat} {h h' : Nat → Int → Int} (H : mh_fr S h h') (hs : ∀ a ∈ S, a ∈ S') : mh_fr S' h h' := fun b hb => H b (fun z => hb (hs b z))
theorem mh_up_id {h : Nat → Int → Int} {a : Nat} {k v : Int} (e : h a k = v) : mh_up h a k v = h := by
  funext b j; unfold mh_up; split
  · rename_i z; rw [z.1, z.2, e]
  · rfl
section
variable {g : mh_G} {f : mh_F} {own : String} {cc : ByteArray} {nL d n cl sl pc : Nat} {loc : List (Option Value)} {st : List Value} {h : Nat → Int → Int}
theorem mh_getir (F : mh_Fr g f own cc nL d) {a ci ix : Nat} {z : Int} {ty : FieldType} {s : Int → Int} (hs : mh_sh a = .inl ci) (ha : a < n) (hw : mh_fw own ix ci z ty) (hd : decode cc pc = .ok (.getfield ix, 3)) (hi : mh_ir ty = false) (hr : h a = s) (k : mh_V g f nL n cl sl (pc + 3) loc (.int (Int32.ofInt (s z)) :: st) h) : mh_V g f nL n cl sl pc loc (.ref a :: st) h :=
  mh_geti F hs ha hw hd hi (by rw [hr]; exact k)
theorem mh_ialoadr (F : mh_Fr g f own cc nL d) {a len : Nat} {i : Int} {s : Int → Int} (hs : mh_sh a = .inr (0, len)) (ha : a < n) (hi : 0 ≤ i ∧ i < (len : Int)) (hd : decode cc pc = .ok (.iaload, 1)) (hr : h a = s) (k : mh_V g f nL n cl sl (pc + 1) loc (.int (Int32.ofInt (s i)) :: st) h) : mh_V g f nL n cl sl pc loc (.int (Int32.ofInt i) :: .ref a :: st) h :=
  mh_iaload F hs ha hi hd (by rw [hr]; exact k)
theorem mh_baloadr (F : mh_Fr g f own cc nL d) {a len : Nat} {i : Int} {s : Int → Int} (hs : mh_sh a = .inr (2, len)) (ha : a < n) (hi : 0 ≤ i ∧ i < (len : Int)) (hd : decode cc pc = .ok (.baload, 1)) (hr : h a = s) (k : mh_V g f nL n cl sl (pc + 1) loc (.int (Int32.ofInt (s i)) :: st) h) : mh_V g f nL n cl sl pc loc (.int (Int32.ofInt i) :: .ref a :: st) h :=
  mh_baload F hs ha hi hd (by rw [hr]; exact k)
theorem mh_zaloadr (F : mh_Fr g f own cc nL d) {a len : Nat} {i : Int} {s : Int → Int} (hs : mh_sh a = .inr (1, len)) (ha : a < n) (hi : 0 ≤ i ∧ i < (len : Int)) (hd : decode cc pc = .ok (.baload, 1)) (hr : h a = s) (k : mh_V g f nL n cl sl (pc + 1) loc (.int (Int32.ofInt (s i)) :: st) h) : mh_V g f nL n cl sl pc loc (.int (Int32.ofInt i) :: .ref a :: st) h :=
  mh_zaload F hs ha hi hd (by rw [hr]; exact k)
theorem mh_laloadr (F : mh_Fr g f own cc nL d) {a len : Nat} {i : Int} {s : Int → Int} (hs : mh_sh a = .inr (6, len)) (ha : a < n) (hi : 0 ≤ i ∧ i < (len : Int)) (hd : decode cc pc = .ok (.laload, 1)) (hr : h a = s) (k : mh_V g f nL n cl sl (pc + 1) loc (.long (Int64.ofInt (s i)) :: st) h) : mh_V g f nL n cl sl pc loc (.int (Int32.ofInt i) :: .ref a :: st) h :=
  mh_laload F hs ha hi hd (by rw [hr]; exact k)
theorem mh_ireturnw (F : mh_Fr g f own cc nL d) {v : Int} {h0 : Nat → Int → Int} (Z : mh_Rt g f n cl sl (some .int) (fun r h' => r = some (.int (Int32.ofInt v)) ∧ h' = h0)) (hd : decode cc pc = .ok (.ireturn, 1)) {x : Int} (hx : Int32.ofInt x = Int32.ofInt v) (hh : h = h0) : mh_V g f nL n cl sl pc loc [.int (Int32.ofInt x)] h := mh_ireturn F Z hd ⟨by rw [hx], hh⟩
end
def sp_wr (x : Int) : Int := (Int32.ofInt x).toInt
theorem sp_wrI (x : Int) : Int32.ofInt (sp_wr x) = Int32.ofInt x := Int32.ofInt_toInt _
theorem sp_wrR (x : Int) : -2147483648 ≤ sp_wr x ∧ sp_wr x < 2147483648 := ⟨Int32.le_toInt _, Int32.toInt_lt _⟩
theorem sp_wr_id {x : Int} (h : -2147483648 ≤ x ∧ x < 2147483648) : sp_wr x = x := Int32.toInt_ofInt_of_le h.1 h.2
theorem mh_eqI {x y : Int} (h : x = y) : Int32.ofInt x = Int32.ofInt y := by rw [h]
section
variable {g : mh_G} {f : mh_F} {nL n cl sl pc : Nat} {loc : List (Option Value)} {st : List Value} {h : Nat → Int → Int}
/-- a local is forgotten -/
theorem mh_weak {loc2 : List (Option Value)} (hw : ∀ (k : Nat) (v : Value), loc2[k]? = some (some v) → loc[k]? = some (some v)) (k : mh_V g f nL n cl sl pc loc2 st h) : mh_V g f nL n cl sl pc loc st h := by
  intro H locs ls h1 h2 h3
  refine k H locs ls h1 h2 ⟨h3.1, h3.2.1, fun q hq => ?_⟩
  obtain ⟨j, v, rfl, hj⟩ := mh_lo_of _ _ _ hq
  have := mh_lo_at (g := g) loc 0 (hw j v hj)
  exact h3.2.2 _ this
theorem mh_drop0 {r : List (Option Value)} {x : Option Value} (k : mh_V g f nL n cl sl pc (none :: r) st h) : mh_V g f nL n cl sl pc (x :: r) st h := mh_weak (fun j v q => by
  rcases j with _ | j
  · simp at q
  · exact q) k
theorem mh_drop1 {x0 : Option Value} {r : List (Option Value)} {x : Option Value} (k : mh_V g f nL n cl sl pc (x0 :: none :: r) st h) : mh_V g f nL n cl sl pc (x0 :: x :: r) st h := mh_weak (fun j v q => by
  rcases j with _ | j
  · exact q
  rcases j with _ | j
  · simp at q
  · exact q) k
theorem mh_drop2 {x0 x1 : Option Value} {r : List (Option Value)} {x : Option Value} (k : mh_V g f nL n cl sl pc (x0 :: x1 :: none :: r) st h) : mh_V g f nL n cl sl pc (x0 :: x1 :: x :: r) st h := mh_weak (fun j v q => by
  rcases j with _ | j
  · exact q
  rcases j with _ | j
  · exact q
  rcases j with _ | j
  · simp at q
  · exact q) k
theorem mh_drop3 {x0 x1 x2 : Option Value} {r : List (Option Value)} {x : Option Value} (k : mh_V g f nL n cl sl pc (x0 :: x1 :: x2 :: none :: r) st h) : mh_V g f nL n cl sl pc (x0 :: x1 :: x2 :: x :: r) st h := mh_weak (fun j v q => by
  rcases j with _ | j
  · exact q
  rcases j with _ | j
  · exact q
  rcases j with _ | j
  · exact q
  rcases j with _ | j
  · simp at q
  · exact q) k
theorem mh_drop4 {x0 x1 x2 x3 : Option Value} {r : List (Option Value)} {x : Option Value} (k : mh_V g f nL n cl sl pc (x0 :: x1 :: x2 :: x3 :: none :: r) st h) : mh_V g f nL n cl sl pc (x0 :: x1 :: x2 :: x3 :: x :: r) st h := mh_weak (fun j v q => by
  rcases j with _ | j
  · exact q
  rcases j with _ | j
  · exact q
  rcases j with _ | j
  · exact q
  rcases j with _ | j
  · exact q
  rcases j with _ | j
  · simp at q
  · exact q) k
theorem mh_drop5 {x0 x1 x2 x3 x4 : Option Value} {r : List (Option Value)} {x : Option Value} (k : mh_V g f nL n cl sl pc (x0 :: x1 :: x2 :: x3 :: x4 :: none :: r) st h) : mh_V g f nL n cl sl pc (x0 :: x1 :: x2 :: x3 :: x4 :: x :: r) st h := mh_weak (fun j v q => by
  rcases j with _ | j
  · exact q
  rcases j with _ | j
  · exact q
  rcases j with _ | j
  · exact q
  rcases j with _ | j
  · exact q
  rcases j with _ | j
  · exact q
  rcases j with _ | j
  · simp at q
  · exact q) k
theorem mh_drop6 {x0 x1 x2 x3 x4 x5 : Option Value} {r : List (Option Value)} {x : Option Value} (k : mh_V g f nL n cl sl pc (x0 :: x1 :: x2 :: x3 :: x4 :: x5 :: none :: r) st h) : mh_V g f nL n cl sl pc (x0 :: x1 :: x2 :: x3 :: x4 :: x5 :: x :: r) st h := mh_weak (fun j v q => by
  rcases j with _ | j
  · exact q
  rcases j with _ | j
  · exact q
  rcases j with _ | j
  · exact q
  rcases j with _ | j
  · exact q
  rcases j with _ | j
  · exact q
  rcases j with _ | j
  · exact q
  rcases j with _ | j
  · simp at q
  · exact q) k
theorem mh_drop7 {x0 x1 x2 x3 x4 x5 x6 : Option Value} {r : List (Option Value)} {x : Option Value} (k : mh_V g f nL n cl sl pc (x0 :: x1 :: x2 :: x3 :: x4 :: x5 :: x6 :: none :: r) st h) : mh_V g f nL n cl sl pc (x0 :: x1 :: x2 :: x3 :: x4 :: x5 :: x6 :: x :: r) st h := mh_weak (fun j v q => by
  rcases j with _ | j
  · exact q
  rcases j with _ | j
  · exact q
  rcases j with _ | j
  · exact q
  rcases j with _ | j
  · exact q
  rcases j with _ | j
  · exact q
  rcases j with _ | j
  · exact q
  rcases j with _ | j
  · exact q
  rcases j with _ | j
  · simp at q
  · exact q) k
theorem mh_drop8 {x0 x1 x2 x3 x4 x5 x6 x7 : Option Value} {r : List (Option Value)} {x : Option Value} (k : mh_V g f nL n cl sl pc (x0 :: x1 :: x2 :: x3 :: x4 :: x5 :: x6 :: x7 :: none :: r) st h) : mh_V g f nL n cl sl pc (x0 :: x1 :: x2 :: x3 :: x4 :: x5 :: x6 :: x7 :: x :: r) st h := mh_weak (fun j v q => by
  rcases j with _ | j
  · exact q
  rcases j with _ | j
  · exact q
  rcases j with _ | j
  · exact q
  rcases j with _ | j
  · exact q
  rcases j with _ | j
  · exact q
  rcases j with _ | j
  · exact q
  rcases j with _ | j
  · exact q
  rcases j with _ | j
  · exact q
  rcases j with _ | j
  · simp at q
  · exact q) k
theorem mh_drop9 {x0 x1 x2 x3 x4 x5 x6 x7 x8 : Option Value} {r : List (Option Value)} {x : Option Value} (k : mh_V g f nL n cl sl pc (x0 :: x1 :: x2 :: x3 :: x4 :: x5 :: x6 :: x7 :: x8 :: none :: r) st h) : mh_V g f nL n cl sl pc (x0 :: x1 :: x2 :: x3 :: x4 :: x5 :: x6 :: x7 :: x8 :: x :: r) st h := mh_weak (fun j v q => by
  rcases j with _ | j
  · exact q
  rcases j with _ | j
  · exact q
  rcases j with _ | j
  · exact q
  rcases j with _ | j
  · exact q
  rcases j with _ | j
  · exact q
  rcases j with _ | j
  · exact q
  rcases j with _ | j
  · exact q
  rcases j with _ | j
  · exact q
  rcases j with _ | j
  · exact q
  rcases j with _ | j
  · simp at q
  · exact q) k
theorem mh_drop10 {x0 x1 x2 x3 x4 x5 x6 x7 x8 x9 : Option Value} {r : List (Option Value)} {x : Option Value} (k : mh_V g f nL n cl sl pc (x0 :: x1 :: x2 :: x3 :: x4 :: x5 :: x6 :: x7 :: x8 :: x9 :: none :: r) st h) : mh_V g f nL n cl sl pc (x0 :: x1 :: x2 :: x3 :: x4 :: x5 :: x6 :: x7 :: x8 :: x9 :: x :: r) st h := mh_weak (fun j v q => by
  rcases j with _ | j
  · exact q
  rcases j with _ | j
  · exact q
  rcases j with _ | j
  · exact q
  rcases j with _ | j
  · exact q
  rcases j with _ | j
  · exact q
  rcases j with _ | j
  · exact q
  rcases j with _ | j
  · exact q
  rcases j with _ | j
  · exact q
  rcases j with _ | j
  · exact q
  rcases j with _ | j
  · exact q
  rcases j with _ | j
  · simp at q
  · exact q) k
theorem mh_drop11 {x0 x1 x2 x3 x4 x5 x6 x7 x8 x9 x10 : Option Value} {r : List (Option Value)} {x : Option Value} (k : mh_V g f nL n cl sl pc (x0 :: x1 :: x2 :: x3 :: x4 :: x5 :: x6 :: x7 :: x8 :: x9 :: x10 :: none :: r) st h) : mh_V g f nL n cl sl pc (x0 :: x1 :: x2 :: x3 :: x4 :: x5 :: x6 :: x7 :: x8 :: x9 :: x10 :: x :: r) st h := mh_weak (fun j v q => by
  rcases j with _ | j
  · exact q
  rcases j with _ | j
  · exact q
  rcases j with _ | j
  · exact q
  rcases j with _ | j
  · exact q
  rcases j with _ | j
  · exact q
  rcases j with _ | j
  · exact q
  rcases j with _ | j
  · exact q
  rcases j with _ | j
  · exact q
  rcases j with _ | j
  · exact q
  rcases j with _ | j
  · exact q
  rcases j with _ | j
  · exact q
  rcases j with _ | j
  · simp at q
  · exact q) k
theorem mh_drop12 {x0 x1 x2 x3 x4 x5 x6 x7 x8 x9 x10 x11 : Option Value} {r : List (Option Value)} {x : Option Value} (k : mh_V g f nL n cl sl pc (x0 :: x1 :: x2 :: x3 :: x4 :: x5 :: x6 :: x7 :: x8 :: x9 :: x10 :: x11 :: none :: r) st h) : mh_V g f nL n cl sl pc (x0 :: x1 :: x2 :: x3 :: x4 :: x5 :: x6 :: x7 :: x8 :: x9 :: x10 :: x11 :: x :: r) st h := mh_weak (fun j v q => by
  rcases j with _ | j
  · exact q
  rcases j with _ | j
  · exact q
  rcases j with _ | j
  · exact q
  rcases j with _ | j
  · exact q
  rcases j with _ | j
  · exact q
  rcases j with _ | j
  · exact q
  rcases j with _ | j
  · exact q
  rcases j with _ | j
  · exact q
  rcases j with _ | j
  · exact q
  rcases j with _ | j
  · exact q
  rcases j with _ | j
  · exact q
  rcases j with _ | j
  · exact q
  rcases j with _ | j
  · simp at q
  · exact q) k
theorem mh_drop13 {x0 x1 x2 x3 x4 x5 x6 x7 x8 x9 x10 x11 x12 : Option Value} {r : List (Option Value)} {x : Option Value} (k : mh_V g f nL n cl sl pc (x0 :: x1 :: x2 :: x3 :: x4 :: x5 :: x6 :: x7 :: x8 :: x9 :: x10 :: x11 :: x12 :: none :: r) st h) : mh_V g f nL n cl sl pc (x0 :: x1 :: x2 :: x3 :: x4 :: x5 :: x6 :: x7 :: x8 :: x9 :: x10 :: x11 :: x12 :: x :: r) st h := mh_weak (fun j v q => by
  rcases j with _ | j
  · exact q
  rcases j with _ | j
  · exact q
  rcases j with _ | j
  · exact q
  rcases j with _ | j
  · exact q
  rcases j with _ | j
  · exact q
  rcases j with _ | j
  · exact q
  rcases j with _ | j
  · exact q
  rcases j with _ | j
  · exact q
  rcases j with _ | j
  · exact q
  rcases j with _ | j
  · exact q
  rcases j with _ | j
  · exact q
  rcases j with _ | j
  · exact q
  rcases j with _ | j
  · exact q
  rcases j with _ | j
  · simp at q
  · exact q) k
end
def mh_fx : List (Nat × Int × Nat) := [(0, 0, 25), (0, 1, 50), (0, 3, 1), (0, 4, 9), (0, 5, 10), (0, 6, 16), (0, 7, 17), (0, 8, 22), (0, 9, 23), (0, 10, 24), (1, 0, 2), (1, 1, 3), (1, 2, 4), (1, 3, 5), (1, 4, 6), (1, 5, 7), (1, 6, 8), (9, 0, 75), (9, 1, 76), (9, 2, 77), (9, 3, 78), (9, 4, 79), (9, 5, 80), (10, 0, 11), (10, 1, 12), (10, 2, 13), (10, 3, 14), (10, 4, 15), (17, 0, 18), (17, 1, 19), (17, 2, 20), (17, 3, 21), (25, 0, 26), (25, 1, 27), (25, 2, 28), (25, 3, 29), (25, 4, 30), (25, 5, 31), (25, 9, 32), (25, 11, 33), (25, 12, 38), (25, 13, 43), (31, 0, 44), (31, 1, 45), (31, 2, 46), (31, 3, 47), (31, 4, 48), (31, 5, 49), (33, 0, 1000000), (33, 2, 34), (33, 4, 35), (33, 6, 36), (38, 0, 1000001), (38, 2, 39), (38, 4, 40), (38, 6, 41), (50, 0, 51), (50, 1, 52), (50, 2, 53), (50, 3, 54), (50, 4, 55), (50, 5, 56), (50, 9, 57), (50, 11, 58), (50, 12, 63), (50, 13, 68), (56, 0, 69), (56, 1, 70), (56, 2, 71), (56, 3, 72), (56, 4, 73), (56, 5, 74), (58, 0, 1000000), (58, 2, 59), (58, 4, 60), (58, 6, 61), (63, 0, 1000001), (63, 2, 64), (63, 4, 65), (63, 6, 66), (81, 0, 82), (81, 1, 83), (81, 2, 84), (81, 5, 85), (81, 6, 86), (81, 7, 87), (81, 8, 88), (81, 14, 89), (81, 15, 90), (81, 21, 91), (81, 26, 92), (81, 27, 93), (81, 28, 94), (81, 29, 95)]
/-- the references that never change -/
def mh_FX (h : Nat → Int → Int) : Prop := ∀ q ∈ mh_fx, h q.1 q.2.1 = (q.2.2 : Int) + 1
theorem fx_0_0 {h : Nat → Int → Int} (H : mh_FX h) : h 0 0 = ((25 : Nat) : Int) + 1 := H (0, 0, 25) (List.mem_of_getElem? (i := 0) rfl)
theorem fx_0_1 {h : Nat → Int → Int} (H : mh_FX h) : h 0 1 = ((50 : Nat) : Int) + 1 := H (0, 1, 50) (List.mem_of_getElem? (i := 1) rfl)
theorem fx_0_3 {h : Nat → Int → Int} (H : mh_FX h) : h 0 3 = ((1 : Nat) : Int) + 1 := H (0, 3, 1) (List.mem_of_getElem? (i := 2) rfl)
theorem fx_0_4 {h : Nat → Int → Int} (H : mh_FX h) : h 0 4 = ((9 : Nat) : Int) + 1 := H (0, 4, 9) (List.mem_of_getElem? (i := 3) rfl)
theorem fx_0_5 {h : Nat → Int → Int} (H : mh_FX h) : h 0 5 = ((10 : Nat) : Int) + 1 := H (0, 5, 10) (List.mem_of_getElem? (i := 4) rfl)
theorem fx_0_6 {h : Nat → Int → Int} (H : mh_FX h) : h 0 6 = ((16 : Nat) : Int) + 1 := H (0, 6, 16) (List.mem_of_getElem? (i := 5) rfl)
theorem fx_0_7 {h : Nat → Int → Int} (H : mh_FX h) : h 0 7 = ((17 : Nat) : Int) + 1 := H (0, 7, 17) (List.mem_of_getElem? (i := 6) rfl)
theorem fx_0_8 {h : Nat → Int → Int} (H : mh_FX h) : h 0 8 = ((22 : Nat) : Int) + 1 := H (0, 8, 22) (List.mem_of_getElem? (i := 7) rfl)
theorem fx_0_9 {h : Nat → Int → Int} (H : mh_FX h) : h 0 9 = ((23 : Nat) : Int) + 1 := H (0, 9, 23) (List.mem_of_getElem? (i := 8) rfl)
theorem fx_0_10 {h : Nat → Int → Int} (H : mh_FX h) : h 0 10 = ((24 : Nat) : Int) + 1 := H (0, 10, 24) (List.mem_of_getElem? (i := 9) rfl)
theorem fx_1_0 {h : Nat → Int → Int} (H : mh_FX h) : h 1 0 = ((2 : Nat) : Int) + 1 := H (1, 0, 2) (List.mem_of_getElem? (i := 10) rfl)
theorem fx_1_1 {h : Nat → Int → Int} (H : mh_FX h) : h 1 1 = ((3 : Nat) : Int) + 1 := H (1, 1, 3) (List.mem_of_getElem? (i := 11) rfl)
theorem fx_1_2 {h : Nat → Int → Int} (H : mh_FX h) : h 1 2 = ((4 : Nat) : Int) + 1 := H (1, 2, 4) (List.mem_of_getElem? (i := 12) rfl)
theorem fx_1_3 {h : Nat → Int → Int} (H : mh_FX h) : h 1 3 = ((5 : Nat) : Int) + 1 := H (1, 3, 5) (List.mem_of_getElem? (i := 13) rfl)
theorem fx_1_4 {h : Nat → Int → Int} (H : mh_FX h) : h 1 4 = ((6 : Nat) : Int) + 1 := H (1, 4, 6) (List.mem_of_getElem? (i := 14) rfl)
theorem fx_1_5 {h : Nat → Int → Int} (H : mh_FX h) : h 1 5 = ((7 : Nat) : Int) + 1 := H (1, 5, 7) (List.mem_of_getElem? (i := 15) rfl)
theorem fx_1_6 {h : Nat → Int → Int} (H : mh_FX h) : h 1 6 = ((8 : Nat) : Int) + 1 := H (1, 6, 8) (List.mem_of_getElem? (i := 16) rfl)
theorem fx_9_0 {h : Nat → Int → Int} (H : mh_FX h) : h 9 0 = ((75 : Nat) : Int) + 1 := H (9, 0, 75) (List.mem_of_getElem? (i := 17) rfl)
theorem fx_9_1 {h : Nat → Int → Int} (H : mh_FX h) : h 9 1 = ((76 : Nat) : Int) + 1 := H (9, 1, 76) (List.mem_of_getElem? (i := 18) rfl)
theorem fx_9_2 {h : Nat → Int → Int} (H : mh_FX h) : h 9 2 = ((77 : Nat) : Int) + 1 := H (9, 2, 77) (List.mem_of_getElem? (i := 19) rfl)
theorem fx_9_3 {h : Nat → Int → Int} (H : mh_FX h) : h 9 3 = ((78 : Nat) : Int) + 1 := H (9, 3, 78) (List.mem_of_getElem? (i := 20) rfl)
theorem fx_9_4 {h : Nat → Int → Int} (H : mh_FX h) : h 9 4 = ((79 : Nat) : Int) + 1 := H (9, 4, 79) (List.mem_of_getElem? (i := 21) rfl)
theorem fx_9_5 {h : Nat → Int → Int} (H : mh_FX h) : h 9 5 = ((80 : Nat) : Int) + 1 := H (9, 5, 80) (List.mem_of_getElem? (i := 22) rfl)
theorem fx_10_0 {h : Nat → Int → Int} (H : mh_FX h) : h 10 0 = ((11 : Nat) : Int) + 1 := H (10, 0, 11) (List.mem_of_getElem? (i := 23) rfl)
theorem fx_10_1 {h : Nat → Int → Int} (H : mh_FX h) : h 10 1 = ((12 : Nat) : Int) + 1 := H (10, 1, 12) (List.mem_of_getElem? (i := 24) rfl)
theorem fx_10_2 {h : Nat → Int → Int} (H : mh_FX h) : h 10 2 = ((13 : Nat) : Int) + 1 := H (10, 2, 13) (List.mem_of_getElem? (i := 25) rfl)
theorem fx_10_3 {h : Nat → Int → Int} (H : mh_FX h) : h 10 3 = ((14 : Nat) : Int) + 1 := H (10, 3, 14) (List.mem_of_getElem? (i := 26) rfl)
theorem fx_10_4 {h : Nat → Int → Int} (H : mh_FX h) : h 10 4 = ((15 : Nat) : Int) + 1 := H (10, 4, 15) (List.mem_of_getElem? (i := 27) rfl)
theorem fx_17_0 {h : Nat → Int → Int} (H : mh_FX h) : h 17 0 = ((18 : Nat) : Int) + 1 := H (17, 0, 18) (List.mem_of_getElem? (i := 28) rfl)
theorem fx_17_1 {h : Nat → Int → Int} (H : mh_FX h) : h 17 1 = ((19 : Nat) : Int) + 1 := H (17, 1, 19) (List.mem_of_getElem? (i := 29) rfl)
theorem fx_17_2 {h : Nat → Int → Int} (H : mh_FX h) : h 17 2 = ((20 : Nat) : Int) + 1 := H (17, 2, 20) (List.mem_of_getElem? (i := 30) rfl)
theorem fx_17_3 {h : Nat → Int → Int} (H : mh_FX h) : h 17 3 = ((21 : Nat) : Int) + 1 := H (17, 3, 21) (List.mem_of_getElem? (i := 31) rfl)
theorem fx_25_0 {h : Nat → Int → Int} (H : mh_FX h) : h 25 0 = ((26 : Nat) : Int) + 1 := H (25, 0, 26) (List.mem_of_getElem? (i := 32) rfl)
theorem fx_25_1 {h : Nat → Int → Int} (H : mh_FX h) : h 25 1 = ((27 : Nat) : Int) + 1 := H (25, 1, 27) (List.mem_of_getElem? (i := 33) rfl)
theorem fx_25_2 {h : Nat → Int → Int} (H : mh_FX h) : h 25 2 = ((28 : Nat) : Int) + 1 := H (25, 2, 28) (List.mem_of_getElem? (i := 34) rfl)
theorem fx_25_3 {h : Nat → Int → Int} (H : mh_FX h) : h 25 3 = ((29 : Nat) : Int) + 1 := H (25, 3, 29) (List.mem_of_getElem? (i := 35) rfl)
theorem fx_25_4 {h : Nat → Int → Int} (H : mh_FX h) : h 25 4 = ((30 : Nat) : Int) + 1 := H (25, 4, 30) (List.mem_of_getElem? (i := 36) rfl)
theorem fx_25_5 {h : Nat → Int → Int} (H : mh_FX h) : h 25 5 = ((31 : Nat) : Int) + 1 := H (25, 5, 31) (List.mem_of_getElem? (i := 37) rfl)
theorem fx_25_9 {h : Nat → Int → Int} (H : mh_FX h) : h 25 9 = ((32 : Nat) : Int) + 1 := H (25, 9, 32) (List.mem_of_getElem? (i := 38) rfl)
theorem fx_25_11 {h : Nat → Int → Int} (H : mh_FX h) : h 25 11 = ((33 : Nat) : Int) + 1 := H (25, 11, 33) (List.mem_of_getElem? (i := 39) rfl)
theorem fx_25_12 {h : Nat → Int → Int} (H : mh_FX h) : h 25 12 = ((38 : Nat) : Int) + 1 := H (25, 12, 38) (List.mem_of_getElem? (i := 40) rfl)
theorem fx_25_13 {h : Nat → Int → Int} (H : mh_FX h) : h 25 13 = ((43 : Nat) : Int) + 1 := H (25, 13, 43) (List.mem_of_getElem? (i := 41) rfl)
theorem fx_31_0 {h : Nat → Int → Int} (H : mh_FX h) : h 31 0 = ((44 : Nat) : Int) + 1 := H (31, 0, 44) (List.mem_of_getElem? (i := 42) rfl)
theorem fx_31_1 {h : Nat → Int → Int} (H : mh_FX h) : h 31 1 = ((45 : Nat) : Int) + 1 := H (31, 1, 45) (List.mem_of_getElem? (i := 43) rfl)
theorem fx_31_2 {h : Nat → Int → Int} (H : mh_FX h) : h 31 2 = ((46 : Nat) : Int) + 1 := H (31, 2, 46) (List.mem_of_getElem? (i := 44) rfl)
theorem fx_31_3 {h : Nat → Int → Int} (H : mh_FX h) : h 31 3 = ((47 : Nat) : Int) + 1 := H (31, 3, 47) (List.mem_of_getElem? (i := 45) rfl)
theorem fx_31_4 {h : Nat → Int → Int} (H : mh_FX h) : h 31 4 = ((48 : Nat) : Int) + 1 := H (31, 4, 48) (List.mem_of_getElem? (i := 46) rfl)
theorem fx_31_5 {h : Nat → Int → Int} (H : mh_FX h) : h 31 5 = ((49 : Nat) : Int) + 1 := H (31, 5, 49) (List.mem_of_getElem? (i := 47) rfl)
theorem fx_33_0 {h : Nat → Int → Int} (H : mh_FX h) : h 33 0 = ((1000000 : Nat) : Int) + 1 := H (33, 0, 1000000) (List.mem_of_getElem? (i := 48) rfl)
theorem fx_33_2 {h : Nat → Int → Int} (H : mh_FX h) : h 33 2 = ((34 : Nat) : Int) + 1 := H (33, 2, 34) (List.mem_of_getElem? (i := 49) rfl)
theorem fx_33_4 {h : Nat → Int → Int} (H : mh_FX h) : h 33 4 = ((35 : Nat) : Int) + 1 := H (33, 4, 35) (List.mem_of_getElem? (i := 50) rfl)
theorem fx_33_6 {h : Nat → Int → Int} (H : mh_FX h) : h 33 6 = ((36 : Nat) : Int) + 1 := H (33, 6, 36) (List.mem_of_getElem? (i := 51) rfl)
theorem fx_38_0 {h : Nat → Int → Int} (H : mh_FX h) : h 38 0 = ((1000001 : Nat) : Int) + 1 := H (38, 0, 1000001) (List.mem_of_getElem? (i := 52) rfl)
theorem fx_38_2 {h : Nat → Int → Int} (H : mh_FX h) : h 38 2 = ((39 : Nat) : Int) + 1 := H (38, 2, 39) (List.mem_of_getElem? (i := 53) rfl)
theorem fx_38_4 {h : Nat → Int → Int} (H : mh_FX h) : h 38 4 = ((40 : Nat) : Int) + 1 := H (38, 4, 40) (List.mem_of_getElem? (i := 54) rfl)
theorem fx_38_6 {h : Nat → Int → Int} (H : mh_FX h) : h 38 6 = ((41 : Nat) : Int) + 1 := H (38, 6, 41) (List.mem_of_getElem? (i := 55) rfl)
theorem fx_50_0 {h : Nat → Int → Int} (H : mh_FX h) : h 50 0 = ((51 : Nat) : Int) + 1 := H (50, 0, 51) (List.mem_of_getElem? (i := 56) rfl)
theorem fx_50_1 {h : Nat → Int → Int} (H : mh_FX h) : h 50 1 = ((52 : Nat) : Int) + 1 := H (50, 1, 52) (List.mem_of_getElem? (i := 57) rfl)
theorem fx_50_2 {h : Nat → Int → Int} (H : mh_FX h) : h 50 2 = ((53 : Nat) : Int) + 1 := H (50, 2, 53) (List.mem_of_getElem? (i := 58) rfl)
theorem fx_50_3 {h : Nat → Int → Int} (H : mh_FX h) : h 50 3 = ((54 : Nat) : Int) + 1 := H (50, 3, 54) (List.mem_of_getElem? (i := 59) rfl)
theorem fx_50_4 {h : Nat → Int → Int} (H : mh_FX h) : h 50 4 = ((55 : Nat) : Int) + 1 := H (50, 4, 55) (List.mem_of_getElem? (i := 60) rfl)
theorem fx_50_5 {h : Nat → Int → Int} (H : mh_FX h) : h 50 5 = ((56 : Nat) : Int) + 1 := H (50, 5, 56) (List.mem_of_getElem? (i := 61) rfl)
theorem fx_50_9 {h : Nat → Int → Int} (H : mh_FX h) : h 50 9 = ((57 : Nat) : Int) + 1 := H (50, 9, 57) (List.mem_of_getElem? (i := 62) rfl)
theorem fx_50_11 {h : Nat → Int → Int} (H : mh_FX h) : h 50 11 = ((58 : Nat) : Int) + 1 := H (50, 11, 58) (List.mem_of_getElem? (i := 63) rfl)
theorem fx_50_12 {h : Nat → Int → Int} (H : mh_FX h) : h 50 12 = ((63 : Nat) : Int) + 1 := H (50, 12, 63) (List.mem_of_getElem? (i := 64) rfl)
theorem fx_50_13 {h : Nat → Int → Int} (H : mh_FX h) : h 50 13 = ((68 : Nat) : Int) + 1 := H (50, 13, 68) (List.mem_of_getElem? (i := 65) rfl)
theorem fx_56_0 {h : Nat → Int → Int} (H : mh_FX h) : h 56 0 = ((69 : Nat) : Int) + 1 := H (56, 0, 69) (List.mem_of_getElem? (i := 66) rfl)
theorem fx_56_1 {h : Nat → Int → Int} (H : mh_FX h) : h 56 1 = ((70 : Nat) : Int) + 1 := H (56, 1, 70) (List.mem_of_getElem? (i := 67) rfl)
theorem fx_56_2 {h : Nat → Int → Int} (H : mh_FX h) : h 56 2 = ((71 : Nat) : Int) + 1 := H (56, 2, 71) (List.mem_of_getElem? (i := 68) rfl)
theorem fx_56_3 {h : Nat → Int → Int} (H : mh_FX h) : h 56 3 = ((72 : Nat) : Int) + 1 := H (56, 3, 72) (List.mem_of_getElem? (i := 69) rfl)
theorem fx_56_4 {h : Nat → Int → Int} (H : mh_FX h) : h 56 4 = ((73 : Nat) : Int) + 1 := H (56, 4, 73) (List.mem_of_getElem? (i := 70) rfl)
theorem fx_56_5 {h : Nat → Int → Int} (H : mh_FX h) : h 56 5 = ((74 : Nat) : Int) + 1 := H (56, 5, 74) (List.mem_of_getElem? (i := 71) rfl)
theorem fx_58_0 {h : Nat → Int → Int} (H : mh_FX h) : h 58 0 = ((1000000 : Nat) : Int) + 1 := H (58, 0, 1000000) (List.mem_of_getElem? (i := 72) rfl)
theorem fx_58_2 {h : Nat → Int → Int} (H : mh_FX h) : h 58 2 = ((59 : Nat) : Int) + 1 := H (58, 2, 59) (List.mem_of_getElem? (i := 73) rfl)
theorem fx_58_4 {h : Nat → Int → Int} (H : mh_FX h) : h 58 4 = ((60 : Nat) : Int) + 1 := H (58, 4, 60) (List.mem_of_getElem? (i := 74) rfl)
theorem fx_58_6 {h : Nat → Int → Int} (H : mh_FX h) : h 58 6 = ((61 : Nat) : Int) + 1 := H (58, 6, 61) (List.mem_of_getElem? (i := 75) rfl)
theorem fx_63_0 {h : Nat → Int → Int} (H : mh_FX h) : h 63 0 = ((1000001 : Nat) : Int) + 1 := H (63, 0, 1000001) (List.mem_of_getElem? (i := 76) rfl)
theorem fx_63_2 {h : Nat → Int → Int} (H : mh_FX h) : h 63 2 = ((64 : Nat) : Int) + 1 := H (63, 2, 64) (List.mem_of_getElem? (i := 77) rfl)
theorem fx_63_4 {h : Nat → Int → Int} (H : mh_FX h) : h 63 4 = ((65 : Nat) : Int) + 1 := H (63, 4, 65) (List.mem_of_getElem? (i := 78) rfl)
theorem fx_63_6 {h : Nat → Int → Int} (H : mh_FX h) : h 63 6 = ((66 : Nat) : Int) + 1 := H (63, 6, 66) (List.mem_of_getElem? (i := 79) rfl)
theorem fx_81_0 {h : Nat → Int → Int} (H : mh_FX h) : h 81 0 = ((82 : Nat) : Int) + 1 := H (81, 0, 82) (List.mem_of_getElem? (i := 80) rfl)
theorem fx_81_1 {h : Nat → Int → Int} (H : mh_FX h) : h 81 1 = ((83 : Nat) : Int) + 1 := H (81, 1, 83) (List.mem_of_getElem? (i := 81) rfl)
theorem fx_81_2 {h : Nat → Int → Int} (H : mh_FX h) : h 81 2 = ((84 : Nat) : Int) + 1 := H (81, 2, 84) (List.mem_of_getElem? (i := 82) rfl)
theorem fx_81_5 {h : Nat → Int → Int} (H : mh_FX h) : h 81 5 = ((85 : Nat) : Int) + 1 := H (81, 5, 85) (List.mem_of_getElem? (i := 83) rfl)
theorem fx_81_6 {h : Nat → Int → Int} (H : mh_FX h) : h 81 6 = ((86 : Nat) : Int) + 1 := H (81, 6, 86) (List.mem_of_getElem? (i := 84) rfl)
theorem fx_81_7 {h : Nat → Int → Int} (H : mh_FX h) : h 81 7 = ((87 : Nat) : Int) + 1 := H (81, 7, 87) (List.mem_of_getElem? (i := 85) rfl)
theorem fx_81_8 {h : Nat → Int → Int} (H : mh_FX h) : h 81 8 = ((88 : Nat) : Int) + 1 := H (81, 8, 88) (List.mem_of_getElem? (i := 86) rfl)
theorem fx_81_14 {h : Nat → Int → Int} (H : mh_FX h) : h 81 14 = ((89 : Nat) : Int) + 1 := H (81, 14, 89) (List.mem_of_getElem? (i := 87) rfl)
theorem fx_81_15 {h : Nat → Int → Int} (H : mh_FX h) : h 81 15 = ((90 : Nat) : Int) + 1 := H (81, 15, 90) (List.mem_of_getElem? (i := 88) rfl)
theorem fx_81_21 {h : Nat → Int → Int} (H : mh_FX h) : h 81 21 = ((91 : Nat) : Int) + 1 := H (81, 21, 91) (List.mem_of_getElem? (i := 89) rfl)
theorem fx_81_26 {h : Nat → Int → Int} (H : mh_FX h) : h 81 26 = ((92 : Nat) : Int) + 1 := H (81, 26, 92) (List.mem_of_getElem? (i := 90) rfl)
theorem fx_81_27 {h : Nat → Int → Int} (H : mh_FX h) : h 81 27 = ((93 : Nat) : Int) + 1 := H (81, 27, 93) (List.mem_of_getElem? (i := 91) rfl)
theorem fx_81_28 {h : Nat → Int → Int} (H : mh_FX h) : h 81 28 = ((94 : Nat) : Int) + 1 := H (81, 28, 94) (List.mem_of_getElem? (i := 92) rfl)
theorem fx_81_29 {h : Nat → Int → Int} (H : mh_FX h) : h 81 29 = ((95 : Nat) : Int) + 1 := H (81, 29, 95) (List.mem_of_getElem? (i := 93) rfl)
theorem mh_FX.upa {h : Nat → Int → Int} (H : mh_FX h) {a : Nat} {i v : Int} (hne : mh_fx.all (fun q => q.1 != a) = true) : mh_FX (mh_up h a i v) := by
  intro q hq
  have := List.all_eq_true.mp hne q hq
  rw [mh_up_ne (fun z => by simp [z.1] at this)]
  exact H q hq
theorem mh_FX.upz {h : Nat → Int → Int} (H : mh_FX h) {a : Nat} {i v : Int} (hne : mh_fx.all (fun q => !(q.1 == a && q.2.1 == i)) = true) : mh_FX (mh_up h a i v) := by
  intro q hq
  have := List.all_eq_true.mp hne q hq
  rw [mh_up_ne (fun z => by simp [z.1, z.2] at this)]
  exact H q hq
theorem mh_FX.ups {h : Nat → Int → Int} (H : mh_FX h) {a : Nat} {i v : Int} (hne : ∀ q ∈ mh_fx, q.1 ≠ a) : mh_FX (mh_up h a i v) := by
  intro q hq
  rw [mh_up_ne (fun z => hne q hq z.1)]
  exact H q hq
theorem mh_FX.of {h h' : Nat → Int → Int} (H : mh_FX h) (e : ∀ q ∈ mh_fx, h' q.1 q.2.1 = h q.1 q.2.1) : mh_FX h' := fun q hq => by rw [e q hq]; exact H q hq
