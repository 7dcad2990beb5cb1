/-! what a text gives: its signs worked off on a stack -/
theorem mh_sv {x v : Int} (h : x = v) : (some (Value.int (Int32.ofInt x))) = some (.int (Int32.ofInt v)) := by rw [h]
theorem mh_svI {x v : Int} (h : Int32.ofInt x = Int32.ofInt v) : (some (Value.int (Int32.ofInt x))) = some (.int (Int32.ofInt v)) := by rw [h]
theorem mh_FX.fr {h h' : Nat → Int → Int} {S : List Nat} (H : mh_FX h) (q : mh_fr S h h') (hs : mh_fx.all (fun x => !(S.contains x.1)) = true) : mh_FX h' := H.of (fun x hx => by
  have := List.all_eq_true.mp hs x hx
  rw [q x.1 (fun z => by simp [z] at this)])
/-- what a kind is: warms, jolts, turns at -/
def sp_warms (k m v : Int) : Int := if k = 1 ∨ k = 4 then v + m.tdiv 3 else if k = 2 then v.tdiv 2 else if k = 5 then max 0 (v.tdiv 2 - 1) else if k = 6 then v + 2 else v
def sp_jolts (k m v : Int) : Int := if k = 3 then 2 * v else if k = 4 then max 0 (v - 2) else if k = 6 then 2 * v + m else v
def sp_turns (k m : Int) : Int := if k = 1 then 80 else if k = 4 then 80 + 5 * m else if k = 5 then 120 else 100
def sp_held (v a b : Int) : Int := max a (min b v)
def sp_done (g x y : Int) : Int :=
  if g = 124 then mh_B (x ≠ 0 ∨ y ≠ 0) else if g = 38 then mh_B (x ≠ 0 ∧ y ≠ 0) else if g = 60 then mh_B (x < y) else if g = 61 then mh_B (x = y) else if g = 62 then mh_B (y < x)
  else if g = 43 then sp_wr (x + y) else if g = 45 then sp_wr (x - y) else if g = 42 then sp_wr (x * y) else if g = 47 then (if y = 0 then 0 else sp_wr (x.tdiv y)) else (if y = 0 then 0 else sp_wr (x.tmod y))
theorem sp_doneR (g x y : Int) : -2147483648 ≤ sp_done g x y ∧ sp_done g x y < 2147483648 := by
  unfold sp_done
  repeat' split
  all_goals first | exact mh_Brg | exact sp_wrR _ | decide
/-- one sign, on the depth and the stack -/
def sp_stp (nm : Int → Int) (c : Int) (p : Int × (Int → Int)) : Int × (Int → Int) :=
  if -100 < c then (p.1 + 1, mh_ur p.2 p.1 (if 0 ≤ c then c else nm (-1 - c)))
  else if c = -133 then (p.1, mh_ur p.2 (p.1 - 1) (if p.2 (p.1 - 1) = 0 then 1 else 0))
  else (p.1 - 1, mh_ur p.2 (p.1 - 2) (sp_done (-100 - c) (p.2 (p.1 - 2)) (p.2 (p.1 - 1))))
def sp_run (nm : Int → Int) (code : Nat → Int) : Nat → Int × (Int → Int) → Int × (Int → Int)
  | 0, p => p
  | k + 1, p => sp_stp nm (code k) (sp_run nm code k p)
def sp_dep (code : Nat → Int) : Nat → Int
  | 0 => 0
  | k + 1 => sp_dep code k + (if -100 < code k then 1 else if code k = -133 then 0 else -1)
/-- a row of signs that a stack works off -/
def sp_wf (code : Nat → Int) (len : Int) : Prop := 0 ≤ len ∧ len ≤ 50 ∧ (∀ k : Nat, (k : Int) < len → -224 ≤ code k ∧ code k ≤ 9999 ∧ (-100 < code k → -3 ≤ code k) ∧ (¬ -100 < code k → 1 ≤ sp_dep code k) ∧ (¬ -100 < code k → code k ≠ -133 → 2 ≤ sp_dep code k)) ∧ (0 < len → 1 ≤ sp_dep code len.toNat)
def sp_code (s : Int → Int) (u : Int) : Nat → Int := fun k => s (97 + 50 * u + (k : Int))
theorem sp_dep_le (code : Nat → Int) (k : Nat) : sp_dep code k ≤ k := by
  induction k with
  | zero => simp [sp_dep]
  | succ k ih =>
    unfold sp_dep
    have : (if -100 < code k then (1 : Int) else if code k = -133 then 0 else -1) ≤ 1 := by repeat' split <;> omega
    omega
theorem sp_run_dep (nm : Int → Int) (code : Nat → Int) (f : Int → Int) (k : Nat) : (sp_run nm code k (0, f)).1 = sp_dep code k := by
  induction k with
  | zero => rfl
  | succ k ih =>
    unfold sp_run sp_dep sp_stp
    split
    · simp [ih]
    · split
      · simp [ih]
      · show (sp_run nm code k (0, f)).1 - 1 = _
        rw [ih]; omega
theorem sp_dep_nn {code : Nat → Int} {len : Int} (h : sp_wf code len) (k : Nat) (hk : (k : Int) ≤ len) : 0 ≤ sp_dep code k := by
  induction k with
  | zero => simp [sp_dep]
  | succ k ih =>
    have h1 := h.2.2.1 k (by omega)
    have h2 := ih (by omega)
    unfold sp_dep
    split
    · omega
    · rename_i c
      have := h1.2.2.2.1 c
      split <;> omega
/-- the values that stand are ints; they do not hang on what lay on the stack -/
theorem sp_run_same {nm nm2 : Int → Int} {code : Nat → Int} {len : Int} (h : sp_wf code len) (hn : ∀ i, 0 ≤ i → i < 3 → nm i = nm2 i) (hr : ∀ i, 0 ≤ i → i < 3 → -2147483648 ≤ nm i ∧ nm i < 2147483648) (f f2 : Int → Int) (k : Nat) (hk : (k : Int) ≤ len) :
    ∀ i, 0 ≤ i → i < sp_dep code k → (sp_run nm code k (0, f)).2 i = (sp_run nm2 code k (0, f2)).2 i ∧ (-2147483648 ≤ (sp_run nm code k (0, f)).2 i ∧ (sp_run nm code k (0, f)).2 i < 2147483648) := by
  induction k with
  | zero => intro i h0 h1; simp [sp_dep] at h1; omega
  | succ k ih =>
    have h1 := h.2.2.1 k (by omega)
    have ih := ih (by omega)
    have d1 := sp_run_dep nm code f k
    have d2 := sp_run_dep nm2 code f2 k
    have dn := sp_dep_nn h k (by omega)
    intro i i0 i1
    unfold sp_run
    unfold sp_dep at i1
    by_cases c : -100 < code k
    · simp only [sp_stp, if_pos c, d1, d2, mh_ur] at i1 ⊢
      by_cases e : i = sp_dep code k
      · simp only [if_pos e]
        by_cases c2 : 0 ≤ code k
        · simp only [if_pos c2]; exact ⟨trivial, by omega, by omega⟩
        · simp only [if_neg c2]
          have := h1.2.2.1 c
          exact ⟨hn _ (by omega) (by omega), hr _ (by omega) (by omega)⟩
      · simp only [if_neg e]
        exact ih i i0 (by omega)
    · have h2 := h1.2.2.2.1 c
      by_cases c3 : code k = -133
      · simp only [sp_stp, if_neg c, if_pos c3, d1, d2, mh_ur] at i1 ⊢
        by_cases e : i = sp_dep code k - 1
        · simp only [if_pos e]
          rw [(ih (sp_dep code k - 1) (by omega) (by omega)).1]
          refine ⟨rfl, ?_⟩
          split <;> decide
        · simp only [if_neg e]
          exact ih i i0 (by omega)
      · have h3 := h1.2.2.2.2 c c3
        simp only [sp_stp, if_neg c, if_neg c3, d1, d2, mh_ur] at i1 ⊢
        by_cases e : i = sp_dep code k - 2
        · simp only [if_pos e]
          rw [(ih (sp_dep code k - 2) (by omega) (by omega)).1, (ih (sp_dep code k - 1) (by omega) (by omega)).1]
          exact ⟨rfl, sp_doneR _ _ _⟩
        · simp only [if_neg e]
          exact ih i i0 (by omega)
def sp_nm (a b c : Int) : Int → Int := fun i => if i = 0 then a else if i = 1 then b else c
def sp_val (code : Nat → Int) (len a b c : Int) : Int := (sp_run (sp_nm a b c) code len.toNat (0, fun _ => 0)).2 0
/-- what a use gives: its text, or as it is without one -/
def sp_law (s : Int → Int) (u a b c : Int) : Int :=
  if u = 0 then sp_held (if 0 < s 95 then sp_val (sp_code s 0) (s 95) a b c else a.tdiv 4) 0 40
  else sp_held (if 0 < s 96 then sp_val (sp_code s 1) (s 96) a b c else if a = 0 then 50 else if a = 1 then 30 else 0) 0 999
def sp_wfs (s : Int → Int) : Prop := sp_wf (sp_code s 0) (s 95) ∧ sp_wf (sp_code s 1) (s 96)
theorem sp_law_same {s t : Int → Int} (h : ∀ i, 95 ≤ i → s i = t i) (u a b c : Int) : sp_law s u a b c = sp_law t u a b c := by
  have e0 : sp_code s 0 = sp_code t 0 := by funext k; exact h _ (by omega)
  have e1 : sp_code s 1 = sp_code t 1 := by funext k; exact h _ (by omega)
  unfold sp_law
  rw [e0, e1, h 95 (by omega), h 96 (by omega)]
theorem sp_wfs_same {s t : Int → Int} (h : ∀ i, 95 ≤ i → s i = t i) (q : sp_wfs s) : sp_wfs t := by
  have e0 : sp_code s 0 = sp_code t 0 := by funext k; exact h _ (by omega)
  have e1 : sp_code s 1 = sp_code t 1 := by funext k; exact h _ (by omega)
  unfold sp_wfs at *
  rw [e0, e1, h 95 (by omega), h 96 (by omega)] at q
  exact q
theorem sp_law_rg0 {s : Int → Int} {a b c : Int} : 0 ≤ sp_law s 0 a b c ∧ sp_law s 0 a b c ≤ 40 := by unfold sp_law sp_held; simp only [if_true]; omega
theorem sp_law_rg1 {s : Int → Int} {a b c : Int} : 0 ≤ sp_law s 1 a b c ∧ sp_law s 1 a b c ≤ 999 := by
  unfold sp_law sp_held; rw [if_neg (by decide)]; omega
def sp_cnt (p : Int → Bool) : Nat → Int
  | 0 => 0
  | k + 1 => sp_cnt p k + (if p (k : Int) then 1 else 0)
theorem sp_cnt_rg (p : Int → Bool) (k : Nat) : 0 ≤ sp_cnt p k ∧ sp_cnt p k ≤ k := by
  induction k with
  | zero => simp [sp_cnt]
  | succ k ih => unfold sp_cnt; split <;> omega
theorem sp_cnt_at (p : Int → Bool) {k : Int} (h : 0 ≤ k) : sp_cnt p (k + 1).toNat = sp_cnt p k.toNat + (if p k then 1 else 0) := by
  rw [show (k + 1).toNat = k.toNat + 1 by omega]
  show _ + (if p (k.toNat : Int) then (1 : Int) else 0) = _
  rw [Int.toNat_of_nonneg h]
theorem sp_run_at (nm : Int → Int) (code : Nat → Int) (p : Int × (Int → Int)) {k : Int} (h : 0 ≤ k) : sp_run nm code (k + 1).toNat p = sp_stp nm (code k.toNat) (sp_run nm code k.toNat p) := by
  rw [show (k + 1).toNat = k.toNat + 1 by omega]; rfl
theorem sp_code_at (s : Int → Int) (u : Int) {k : Int} (h : 0 ≤ k) : sp_code s u k.toNat = s (97 + 50 * u + k) := by
  unfold sp_code; rw [Int.toNat_of_nonneg h]
theorem mh_tdivR {x y : Int} (hx : -2147483648 ≤ x ∧ x < 2147483648) : -2147483648 ≤ x.tdiv y ∧ x.tdiv y ≤ 2147483648 := by
  have h := Int.natAbs_tdiv_le_natAbs x y
  omega
theorem mh_tmodR {x y : Int} (hx : -2147483648 ≤ x ∧ x < 2147483648) : -2147483648 ≤ x.tmod y ∧ x.tmod y < 2147483648 := by
  rcases Int.le_total 0 x with h | h
  · have h1 := Int.tmod_nonneg y h
    have h2 : (x.tmod y).natAbs ≤ x.natAbs := by rw [Int.natAbs_tmod]; exact Nat.mod_le _ _
    omega
  · have e : x.tmod y = -((-x).tmod y) := by rw [Int.neg_tmod]; omega
    have h1 := Int.tmod_nonneg y (show 0 ≤ -x by omega)
    have h2 : ((-x).tmod y).natAbs ≤ (-x).natAbs := by rw [Int.natAbs_tmod]; exact Nat.mod_le _ _
    omega
theorem sp_dep_same {c1 c2 : Nat → Int} {n : Nat} (h : ∀ k, k < n → c1 k = c2 k) : ∀ k, k ≤ n → sp_dep c1 k = sp_dep c2 k := by
  intro k
  induction k with
  | zero => intro _; rfl
  | succ k ih => intro hk; unfold sp_dep; rw [ih (by omega), h k (by omega)]
theorem sp_wf_same {c1 c2 : Nat → Int} {len : Int} (h : ∀ k : Nat, (k : Int) < len → c1 k = c2 k) (q : sp_wf c1 len) : sp_wf c2 len := by
  have hd : ∀ k, k ≤ len.toNat → sp_dep c1 k = sp_dep c2 k := sp_dep_same (fun k hk => h k (by omega))
  refine ⟨q.1, q.2.1, fun k hk => ?_, fun hl => ?_⟩
  · have := q.2.2.1 k hk
    rw [h k hk, hd k (by omega)] at this
    exact this
  · have := q.2.2.2 hl
    rw [hd _ (by omega)] at this
    exact this
/-- rows that agree at the texts' places -/
theorem sp_wfs_near {s t : Int → Int} (h : ∀ i, 95 ≤ i → i < 197 → s i = t i) (q : sp_wfs s) : sp_wfs t := by
  obtain ⟨q0, q1⟩ := q
  have e0 := h 95 (by omega) (by omega)
  have e1 := h 96 (by omega) (by omega)
  have b0 := q0.2.1
  have b1 := q1.2.1
  refine ⟨?_, ?_⟩
  · rw [← e0]; exact sp_wf_same (fun k hk => h _ (by omega) (by omega)) q0
  · rw [← e1]; exact sp_wf_same (fun k hk => h _ (by omega) (by omega)) q1
