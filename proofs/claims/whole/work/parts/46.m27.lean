/-! the texts: what is read, as functions. A state: place, wrong, how many signs, the signs -/
abbrev sx_S : Type := Int × Int × Int × (Int → Int)
def sx_hr (s : Int → Int) (p : sx_S) : Int := if p.1 < s 4 ∧ p.2.1 = 0 then s (197 + p.1) else -1
def sx_pa (p : sx_S) : sx_S := (p.1 + 1, p.2.1, p.2.2.1, p.2.2.2)
def sx_pw (p : sx_S) : sx_S := (p.1, 1, p.2.2.1, p.2.2.2)
def sx_pp (c : Int) (p : sx_S) : sx_S := if p.2.1 = 0 then (p.1, p.2.1, p.2.2.1 + 1, mh_ur p.2.2.2 p.2.2.1 c) else p
def sx_lp (s : Int → Int) (F : sx_S → sx_S) (ops : Int → Bool) : Nat → sx_S → sx_S
  | 0, p => p
  | f + 1, p => if ops (sx_hr s p) = true then sx_lp s F ops f (sx_pp (-100 - sx_hr s p) (F (sx_pa p))) else p
def sx_L (s : Int → Int) (F : sx_S → sx_S) (ops : Int → Bool) (p : sx_S) : sx_S := sx_lp s F ops (s 4 - p.1).toNat p
def sx_lv (s : Int → Int) (F : sx_S → sx_S) (ops : Int → Bool) (p : sx_S) : sx_S := sx_L s F ops (F p)
def sx_cm (s : Int → Int) (F : sx_S → sx_S) (p : sx_S) : sx_S := if sx_hr s (F p) = 60 ∨ sx_hr s (F p) = 61 ∨ sx_hr s (F p) = 62 then sx_pp (-100 - sx_hr s (F p)) (F (sx_pa (F p))) else F p
def sx_oP : Int → Bool := fun x => decide (x = 42 ∨ x = 47 ∨ x = 37)
def sx_oS : Int → Bool := fun x => decide (x = 43 ∨ x = 45)
def sx_oA : Int → Bool := fun x => decide (x = 38)
def sx_oT : Int → Bool := fun x => decide (x = 124)
def sx_P (s : Int → Int) (F : sx_S → sx_S) : sx_S → sx_S := sx_lv s F sx_oP
def sx_U (s : Int → Int) (F : sx_S → sx_S) : sx_S → sx_S := sx_lv s (sx_P s F) sx_oS
def sx_B (s : Int → Int) (F : sx_S → sx_S) : sx_S → sx_S := sx_cm s (sx_U s F)
def sx_A (s : Int → Int) (F : sx_S → sx_S) : sx_S → sx_S := sx_lv s (sx_B s F) sx_oA
def sx_T (s : Int → Int) (F : sx_S → sx_S) : sx_S → sx_S := sx_lv s (sx_A s F) sx_oT
def sx_nm (u b : Int) : Int := if u = 0 then (if b = 116 then 0 else if b = 113 then 1 else -1) else (if b = 115 then 0 else if b = 114 then 1 else if b = 109 then 2 else -1)
def sx_dg (s : Int → Int) : Nat → Int → sx_S → Int × sx_S
  | 0, v, p => (v, p)
  | f + 1, v, p => if 48 ≤ sx_hr s p ∧ sx_hr s p ≤ 57 then sx_dg s f (10 * v + sx_hr s p - 48) (sx_pa p) else (v, p)
def sx_nu (s : Int → Int) (p : sx_S) : sx_S := sx_pp (sx_dg s 4 0 p).1 (sx_dg s 4 0 p).2
def sx_cl (s : Int → Int) (p : sx_S) : sx_S := if sx_hr s p = 41 then sx_pa p else sx_pw p
def sx_Q (s : Int → Int) (u : Int) : Nat → sx_S → sx_S
  | 0 => fun p => if 48 ≤ sx_hr s p ∧ sx_hr s p ≤ 57 then sx_nu s p else if 0 ≤ sx_nm u (sx_hr s p) then sx_pp (-1 - sx_nm u (sx_hr s p)) (sx_pa p) else sx_pw p
  | d + 1 => fun p => if 48 ≤ sx_hr s p ∧ sx_hr s p ≤ 57 then sx_nu s p else if 0 ≤ sx_nm u (sx_hr s p) then sx_pp (-1 - sx_nm u (sx_hr s p)) (sx_pa p)
      else if sx_hr s p = 33 then sx_pp (-133) (sx_Q s u d (sx_pa p)) else if sx_hr s p = 40 then sx_cl s (sx_T s (sx_Q s u d) (sx_pa p)) else sx_pw p
/-! what is always so of them -/
def sx_by (s : Int → Int) : Prop := (0 ≤ s 4 ∧ s 4 ≤ 50) ∧ ∀ i, 0 ≤ i → i < s 4 → 0 ≤ s (197 + i) ∧ s (197 + i) ≤ 255
def sx_pv (s : Int → Int) (p : sx_S) : Prop := (0 ≤ p.1 ∧ p.1 ≤ s 4) ∧ (0 ≤ p.2.2.1 ∧ p.2.2.1 ≤ p.1) ∧ (p.2.1 = 0 ∨ p.2.1 = 1)
def sx_dp (p : sx_S) : Int := sp_dep (fun k => p.2.2.2 (k : Int)) p.2.2.1.toNat
def sx_ck (f : Int → Int) (k : Nat) : Prop := -224 ≤ f k ∧ f k ≤ 9999 ∧ (-100 < f k → -3 ≤ f k) ∧ (¬ -100 < f k → 1 ≤ sp_dep (fun j => f (j : Int)) k) ∧ (¬ -100 < f k → f k ≠ -133 → 2 ≤ sp_dep (fun j => f (j : Int)) k)
def sx_sg (p q : sx_S) (n : Int) : Prop := (∀ i, 0 ≤ i → i < p.2.2.1 → q.2.2.2 i = p.2.2.2 i) ∧ p.2.2.1 ≤ q.2.2.1 ∧ sx_dp q = sx_dp p + n ∧ ∀ k : Nat, p.2.2.1 ≤ (k : Int) → (k : Int) < q.2.2.1 → sx_ck q.2.2.2 k
def sx_gd (s : Int → Int) (F : sx_S → sx_S) : Prop := ∀ p, sx_pv s p → sx_pv s (F p) ∧ p.1 - p.2.2.1 ≤ (F p).1 - (F p).2.2.1 ∧ p.1 ≤ (F p).1 ∧ (p.2.1 = 1 → F p = p) ∧ ((F p).2.1 = 0 → p.1 < (F p).1) ∧ ((F p).2.1 = 0 → 0 ≤ sx_dp p → sx_sg p (F p) 1)
theorem sx_dep_pre {f g : Int → Int} {n : Nat} (h : ∀ i, 0 ≤ i → i < (n : Int) → f i = g i) : sp_dep (fun k => f (k : Int)) n = sp_dep (fun k => g (k : Int)) n :=
  sp_dep_same (fun k hk => h k (by omega) (by omega)) n (Nat.le_refl _)
theorem sx_ck_pre {f g : Int → Int} {n : Nat} (h : ∀ i, 0 ≤ i → i ≤ (n : Int) → f i = g i) (c : sx_ck f n) : sx_ck g n := by
  unfold sx_ck at *
  rw [← h n (by omega) (by omega), ← sx_dep_pre (fun i i0 i1 => h i i0 (by omega))]
  exact c
theorem sx_sg_rf {p q : sx_S} (h1 : q.2.2.1 = p.2.2.1) (h2 : q.2.2.2 = p.2.2.2) : sx_sg p q 0 := by
  refine ⟨fun i _ _ => by rw [h2], by omega, ?_, fun k k0 k1 => by omega⟩
  unfold sx_dp
  rw [h1, h2]; omega
theorem sx_sg_tr {p q r : sx_S} {n m : Int} (hp : 0 ≤ p.2.2.1) (h1 : sx_sg p q n) (h2 : sx_sg q r m) : sx_sg p r (n + m) := by
  obtain ⟨a1, a2, a3, a4⟩ := h1
  obtain ⟨b1, b2, b3, b4⟩ := h2
  refine ⟨fun i i0 i1 => (b1 i i0 (by omega)).trans (a1 i i0 i1), by omega, by omega, fun k k0 k1 => ?_⟩
  by_cases c : (k : Int) < q.2.2.1
  · exact sx_ck_pre (fun i i0 i1 => (b1 i i0 (by omega)).symm) (a4 k k0 c)
  · exact b4 k (by omega) k1
theorem sx_sg_pp {p : sx_S} {c : Int} (hw : p.2.1 = 0) (hm : 0 ≤ p.2.2.1) (hc : -224 ≤ c ∧ c ≤ 9999) (h3 : -100 < c → -3 ≤ c) (h4 : ¬ -100 < c → 1 ≤ sx_dp p) (h5 : ¬ -100 < c → c ≠ -133 → 2 ≤ sx_dp p) : sx_sg p (sx_pp c p) (if -100 < c then 1 else if c = -133 then 0 else -1) := by
  unfold sx_pp
  rw [if_pos hw]
  have hd : sp_dep (fun k => mh_ur p.2.2.2 p.2.2.1 c (k : Int)) p.2.2.1.toNat = sx_dp p := sx_dep_pre (fun i i0 i1 => mh_ur_ne (by omega))
  have hv : mh_ur p.2.2.2 p.2.2.1 c ((p.2.2.1.toNat : Nat) : Int) = c := mh_ur_eq (by omega)
  refine ⟨fun i i0 i1 => mh_ur_ne (by omega), ?_, ?_, fun k k0 k1 => ?_⟩
  · show p.2.2.1 ≤ p.2.2.1 + 1; omega
  · show sp_dep (fun k => mh_ur p.2.2.2 p.2.2.1 c (k : Int)) (p.2.2.1 + 1).toNat = _
    rw [show (p.2.2.1 + 1).toNat = p.2.2.1.toNat + 1 by omega]
    show sp_dep _ p.2.2.1.toNat + (if -100 < mh_ur p.2.2.2 p.2.2.1 c ((p.2.2.1.toNat : Nat) : Int) then (1 : Int) else if mh_ur p.2.2.2 p.2.2.1 c ((p.2.2.1.toNat : Nat) : Int) = -133 then 0 else -1) = _
    rw [hd, hv]
  · have e : k = p.2.2.1.toNat := by
      have k1' : (k : Int) < p.2.2.1 + 1 := k1
      omega
    subst e
    show sx_ck (mh_ur p.2.2.2 p.2.2.1 c) _
    unfold sx_ck
    rw [hv, hd]
    exact ⟨hc.1, hc.2, h3, h4, h5⟩
theorem sx_hr_rg {s : Int → Int} {p : sx_S} (hb : sx_by s) (hp : sx_pv s p) : -1 ≤ sx_hr s p ∧ sx_hr s p ≤ 255 ∧ (sx_hr s p ≠ -1 → p.1 < s 4 ∧ p.2.1 = 0) := by
  unfold sx_hr
  split
  · have := hb.2 p.1 hp.1.1 (by omega)
    exact ⟨by omega, by omega, fun _ => by omega⟩
  · exact ⟨by omega, by omega, fun h => absurd rfl h⟩
theorem sx_pa_pv {s : Int → Int} {p : sx_S} (h : p.1 < s 4) (hp : sx_pv s p) : sx_pv s (sx_pa p) := by
  unfold sx_pv sx_pa at *; simp only []; omega
/-- one operator and what follows it -/
theorem sx_op {s : Int → Int} {F : sx_S → sx_S} {p : sx_S} {g : Int} (hF : sx_gd s F) (hp : sx_pv s p) (h4 : p.1 < s 4) (hw : p.2.1 = 0) (hg : 1 ≤ g ∧ g ≤ 124 ∧ g ≠ 33) :
    sx_pv s (sx_pp (-100 - g) (F (sx_pa p))) ∧ p.1 - p.2.2.1 ≤ (sx_pp (-100 - g) (F (sx_pa p))).1 - (sx_pp (-100 - g) (F (sx_pa p))).2.2.1 ∧ p.1 < (sx_pp (-100 - g) (F (sx_pa p))).1 ∧ ((sx_pp (-100 - g) (F (sx_pa p))).2.1 = 0 → 1 ≤ sx_dp p → sx_sg p (sx_pp (-100 - g) (F (sx_pa p))) 0) := by
  obtain ⟨a1, a2, a3, a4, a5, a6⟩ := hF (sx_pa p) (sx_pa_pv h4 hp)
  have e1 : (sx_pa p).1 = p.1 + 1 := rfl
  have e2 : (sx_pa p).2.2.1 = p.2.2.1 := rfl
  have e3 : (sx_pa p).2.2.2 = p.2.2.2 := rfl
  rw [e1] at a2 a3 a5
  rw [e2] at a2
  obtain ⟨b1, b2, b3⟩ := a1
  obtain ⟨g1, g2, g3⟩ := id hp
  by_cases q : (F (sx_pa p)).2.1 = 0
  · have hpp : sx_pp (-100 - g) (F (sx_pa p)) = ((F (sx_pa p)).1, (F (sx_pa p)).2.1, (F (sx_pa p)).2.2.1 + 1, mh_ur (F (sx_pa p)).2.2.2 (F (sx_pa p)).2.2.1 (-100 - g)) := by unfold sx_pp; rw [if_pos q]
    refine ⟨?_, ?_, ?_, fun _ hd => ?_⟩
    · rw [hpp]; unfold sx_pv; simp only []; omega
    · rw [hpp]; show _ ≤ (F (sx_pa p)).1 - ((F (sx_pa p)).2.2.1 + 1); omega
    · rw [hpp]; show _ < (F (sx_pa p)).1; omega
    · have z1 := sx_sg_rf (p := p) (q := sx_pa p) e2 e3
      have ed : sx_dp (sx_pa p) = sx_dp p + 0 := z1.2.2.1
      have z2 := a6 q (by omega)
      have ed2 := z2.2.2.1
      have z3 := sx_sg_pp (p := F (sx_pa p)) (c := -100 - g) q b2.1 (by omega) (by omega) (by omega) (by omega)
      rw [if_neg (by omega), if_neg (by omega)] at z3
      have z4 := sx_sg_tr hp.2.1.1 (sx_sg_tr hp.2.1.1 z1 z2) z3
      exact z4
  · have hpp : sx_pp (-100 - g) (F (sx_pa p)) = F (sx_pa p) := by unfold sx_pp; rw [if_neg q]
    rw [hpp]
    exact ⟨⟨b1, b2, b3⟩, by omega, by omega, fun h => absurd h q⟩
def sx_ok (ops : Int → Bool) : Prop := ∀ x, ops x = true → 1 ≤ x ∧ x ≤ 124 ∧ x ≠ 33
theorem sx_lp_gd {s : Int → Int} {F : sx_S → sx_S} {ops : Int → Bool} (hb : sx_by s) (hF : sx_gd s F) (ho : sx_ok ops) (f : Nat) : ∀ p, sx_pv s p → sx_pv s (sx_lp s F ops f p) ∧ p.1 - p.2.2.1 ≤ (sx_lp s F ops f p).1 - (sx_lp s F ops f p).2.2.1 ∧ p.1 ≤ (sx_lp s F ops f p).1 ∧ (p.2.1 = 1 → sx_lp s F ops f p = p) ∧ ((sx_lp s F ops f p).2.1 = 0 → p.2.1 = 0 ∧ (1 ≤ sx_dp p → sx_sg p (sx_lp s F ops f p) 0)) := by
  induction f with
  | zero => exact fun p hp => ⟨hp, Int.le_refl _, Int.le_refl _, fun _ => rfl, fun h => ⟨h, fun _ => sx_sg_rf rfl rfl⟩⟩
  | succ f ih =>
    intro p hp
    have hr := sx_hr_rg hb hp
    by_cases q : ops (sx_hr s p) = true
    · have hq := ho _ q
      have hr2 := hr.2.2 (by omega)
      have e : sx_lp s F ops (f + 1) p = sx_lp s F ops f (sx_pp (-100 - sx_hr s p) (F (sx_pa p))) := if_pos q
      rw [e]
      obtain ⟨c1, c2, c3, c4⟩ := sx_op hF hp hr2.1 hr2.2 hq
      obtain ⟨d1, d2, d3, d4, d5⟩ := ih _ c1
      refine ⟨d1, by omega, by omega, fun h => by omega, fun h => ⟨hr2.2, fun hd => ?_⟩⟩
      have d6 := d5 h
      have z1 := c4 d6.1 hd
      have z2 := d6.2 (by have := z1.2.2.1; omega)
      exact sx_sg_tr hp.2.1.1 z1 z2
    · have e : sx_lp s F ops (f + 1) p = p := if_neg q
      rw [e]
      exact ⟨hp, Int.le_refl _, Int.le_refl _, fun _ => rfl, fun h => ⟨h, fun _ => sx_sg_rf rfl rfl⟩⟩
theorem sx_lv_gd {s : Int → Int} {F : sx_S → sx_S} {ops : Int → Bool} (hb : sx_by s) (hF : sx_gd s F) (ho : sx_ok ops) : sx_gd s (sx_lv s F ops) := by
  intro p hp
  obtain ⟨a1, a2, a3, a4, a5, a6⟩ := hF p hp
  obtain ⟨d1, d2, d3, d4, d5⟩ := sx_lp_gd hb hF ho (s 4 - (F p).1).toNat (F p) a1
  show sx_pv s (sx_lp s F ops (s 4 - (F p).1).toNat (F p)) ∧ _
  refine ⟨d1, ?_, ?_, fun h => ?_, fun h => ?_, fun h hd => ?_⟩
  · show _ ≤ (sx_lp s F ops (s 4 - (F p).1).toNat (F p)).1 - (sx_lp s F ops (s 4 - (F p).1).toNat (F p)).2.2.1; omega
  · show _ ≤ (sx_lp s F ops (s 4 - (F p).1).toNat (F p)).1; omega
  · have e := a4 h
    show sx_lp s F ops (s 4 - (F p).1).toNat (F p) = p
    rw [d4 (by rw [e]; exact h)]; exact e
  · have d6 := d5 h
    show _ < (sx_lp s F ops (s 4 - (F p).1).toNat (F p)).1
    have := a5 d6.1; omega
  · have d6 := d5 h
    have z1 := a6 d6.1 hd
    exact sx_sg_tr hp.2.1.1 z1 (d6.2 (by have := z1.2.2.1; omega))
theorem sx_cm_gd {s : Int → Int} {F : sx_S → sx_S} (hb : sx_by s) (hF : sx_gd s F) : sx_gd s (sx_cm s F) := by
  intro p hp
  obtain ⟨a1, a2, a3, a4, a5, a6⟩ := hF p hp
  have hr := sx_hr_rg hb a1
  by_cases q : sx_hr s (F p) = 60 ∨ sx_hr s (F p) = 61 ∨ sx_hr s (F p) = 62
  · have e : sx_cm s F p = sx_pp (-100 - sx_hr s (F p)) (F (sx_pa (F p))) := if_pos q
    have hr2 := hr.2.2 (by omega)
    obtain ⟨c1, c2, c3, c4⟩ := sx_op hF a1 hr2.1 hr2.2 (g := sx_hr s (F p)) (by omega)
    rw [e]
    refine ⟨c1, by omega, by omega, fun h => ?_, fun h => by omega, fun h hd => ?_⟩
    · have := a4 h; rw [this] at hr2; omega
    · have z1 := a6 hr2.2 hd
      exact sx_sg_tr hp.2.1.1 z1 (c4 h (by have := z1.2.2.1; omega))
  · have e : sx_cm s F p = F p := if_neg q
    rw [e]; exact ⟨a1, a2, a3, a4, a5, a6⟩
theorem sx_okP : sx_ok sx_oP := fun x h => by have := of_decide_eq_true h; omega
theorem sx_okS : sx_ok sx_oS := fun x h => by have := of_decide_eq_true h; omega
theorem sx_okA : sx_ok sx_oA := fun x h => by have := of_decide_eq_true h; omega
theorem sx_okT : sx_ok sx_oT := fun x h => by have := of_decide_eq_true h; omega
theorem sx_P_gd {s : Int → Int} {F : sx_S → sx_S} (hb : sx_by s) (hF : sx_gd s F) : sx_gd s (sx_P s F) := sx_lv_gd hb hF sx_okP
theorem sx_U_gd {s : Int → Int} {F : sx_S → sx_S} (hb : sx_by s) (hF : sx_gd s F) : sx_gd s (sx_U s F) := sx_lv_gd hb (sx_P_gd hb hF) sx_okS
theorem sx_B_gd {s : Int → Int} {F : sx_S → sx_S} (hb : sx_by s) (hF : sx_gd s F) : sx_gd s (sx_B s F) := sx_cm_gd hb (sx_U_gd hb hF)
theorem sx_A_gd {s : Int → Int} {F : sx_S → sx_S} (hb : sx_by s) (hF : sx_gd s F) : sx_gd s (sx_A s F) := sx_lv_gd hb (sx_B_gd hb hF) sx_okA
theorem sx_T_gd {s : Int → Int} {F : sx_S → sx_S} (hb : sx_by s) (hF : sx_gd s F) : sx_gd s (sx_T s F) := sx_lv_gd hb (sx_A_gd hb hF) sx_okT
theorem sx_p10 (f : Nat) : (1 : Int) ≤ 10 ^ f := by
  induction f with
  | zero => decide
  | succ n ih => rw [Int.pow_succ]; omega
/-- digits -/
theorem sx_dg_rg {s : Int → Int} (hb : sx_by s) (f : Nat) : ∀ (v b : Int) (p : sx_S), sx_pv s p → 0 ≤ v → v < b → 0 < b → ∃ e, (0 ≤ (sx_dg s f v p).1 ∧ (sx_dg s f v p).1 < b * 10 ^ f) ∧ (0 ≤ e ∧ e ≤ (f : Int)) ∧ (sx_dg s f v p).2 = (p.1 + e, p.2.1, p.2.2.1, p.2.2.2) ∧ p.1 + e ≤ s 4 := by
  induction f with
  | zero => exact fun v b p hp h0 h1 h2 => ⟨0, ⟨h0, by simpa [sx_dg] using h1⟩, ⟨Int.le_refl _, Int.le_refl _⟩, by simp [sx_dg], by have := hp.1; omega⟩
  | succ f ih =>
    intro v b p hp h0 h1 h2
    by_cases q : 48 ≤ sx_hr s p ∧ sx_hr s p ≤ 57
    · have hr := (sx_hr_rg hb hp).2.2 (by omega)
      have e : sx_dg s (f + 1) v p = sx_dg s f (10 * v + sx_hr s p - 48) (sx_pa p) := if_pos q
      obtain ⟨n, g1, g2, g3, g4⟩ := ih (10 * v + sx_hr s p - 48) (b * 10) (sx_pa p) (sx_pa_pv hr.1 hp) (by omega) (by omega) (by omega)
      rw [e]
      have eb : b * 10 * 10 ^ f = b * 10 ^ (f + 1) := by rw [Int.pow_succ, Int.mul_assoc, Int.mul_comm 10]
      have g4' : p.1 + 1 + n ≤ s 4 := g4
      refine ⟨n + 1, ⟨g1.1, by rw [← eb]; exact g1.2⟩, by omega, ?_, by omega⟩
      rw [g3]
      show (p.1 + 1 + n, p.2.1, p.2.2.1, p.2.2.2) = _
      rw [show p.1 + 1 + n = p.1 + (n + 1) by omega]
    · have e : sx_dg s (f + 1) v p = (v, p) := if_neg q
      rw [e]
      refine ⟨0, ⟨h0, ?_⟩, by omega, by simp, by have := hp.1; omega⟩
      have : (1 : Int) ≤ 10 ^ (f + 1) := sx_p10 (f + 1)
      calc v < b := h1
        _ = b * 1 := (Int.mul_one b).symm
        _ ≤ b * 10 ^ (f + 1) := Int.mul_le_mul_of_nonneg_left this (by omega)
theorem sx_nm_rg (u b : Int) : -1 ≤ sx_nm u b ∧ sx_nm u b ≤ 2 ∧ (0 ≤ sx_nm u b → 109 ≤ b ∧ b ≤ 116) := by
  unfold sx_nm
  (repeat' split) <;> omega
def sx_gr (s : Int → Int) (p r : sx_S) : Prop := sx_pv s r ∧ p.1 - p.2.2.1 ≤ r.1 - r.2.2.1 ∧ p.1 ≤ r.1 ∧ (p.2.1 = 1 → r = p) ∧ (r.2.1 = 0 → p.1 < r.1) ∧ (r.2.1 = 0 → 0 ≤ sx_dp p → sx_sg p r 1)
theorem sx_put {s : Int → Int} {p : sx_S} {c n : Int} (hp : sx_pv s p) (hw : p.2.1 = 0) (hn : 1 ≤ n) (h4 : p.1 + n ≤ s 4) (hc : -3 ≤ c ∧ c ≤ 9999) : sx_gr s p (sx_pp c (p.1 + n, p.2.1, p.2.2.1, p.2.2.2)) := by
  have hpp : sx_pp c (p.1 + n, p.2.1, p.2.2.1, p.2.2.2) = (p.1 + n, p.2.1, p.2.2.1 + 1, mh_ur p.2.2.2 p.2.2.1 c) := if_pos hw
  obtain ⟨b1, b2, b3⟩ := hp
  refine ⟨?_, ?_, ?_, fun h => by omega, fun _ => ?_, fun _ hd => ?_⟩
  · rw [hpp]; unfold sx_pv; simp only []; omega
  · rw [hpp]; show _ ≤ p.1 + n - (p.2.2.1 + 1); omega
  · rw [hpp]; show _ ≤ p.1 + n; omega
  · rw [hpp]; show _ < p.1 + n; omega
  · have z1 := sx_sg_rf (p := p) (q := (p.1 + n, p.2.1, p.2.2.1, p.2.2.2)) rfl rfl
    have z3 := sx_sg_pp (p := (p.1 + n, p.2.1, p.2.2.1, p.2.2.2)) (c := c) hw b2.1 (by omega) (by omega) (by omega) (by omega)
    rw [if_pos (by omega)] at z3
    have z4 := sx_sg_tr b2.1 z1 z3
    exact z4
theorem sx_pw_gr {s : Int → Int} {p : sx_S} (hp : sx_pv s p) : sx_gr s p (sx_pw p) := by
  obtain ⟨b1, b2, b3⟩ := hp
  refine ⟨⟨b1, b2, Or.inr rfl⟩, Int.le_refl _, Int.le_refl _, fun h => ?_, fun h => ?_, fun h => ?_⟩
  · show (p.1, (1 : Int), p.2.2.1, p.2.2.2) = p
    rw [← h]
  · exact absurd h (by show ¬ (1 : Int) = 0; decide)
  · exact absurd h (by show ¬ (1 : Int) = 0; decide)
theorem sx_nu_gr {s : Int → Int} {p : sx_S} (hb : sx_by s) (hp : sx_pv s p) (hd : 48 ≤ sx_hr s p ∧ sx_hr s p ≤ 57) : sx_gr s p (sx_nu s p) := by
  have hr := (sx_hr_rg hb hp).2.2 (by omega)
  have e : sx_dg s 4 0 p = sx_dg s 3 (10 * 0 + sx_hr s p - 48) (sx_pa p) := if_pos hd
  obtain ⟨n, g1, g2, g3, g4⟩ := sx_dg_rg hb 3 (10 * 0 + sx_hr s p - 48) 10 (sx_pa p) (sx_pa_pv hr.1 hp) (by omega) (by omega) (by decide)
  have g5 : (sx_dg s 3 (10 * 0 + sx_hr s p - 48) (sx_pa p)).1 < 10000 := g1.2
  have g4' : p.1 + 1 + n ≤ s 4 := g4
  unfold sx_nu
  rw [e, g3]
  show sx_gr s p (sx_pp _ (p.1 + 1 + n, p.2.1, p.2.2.1, p.2.2.2))
  rw [show p.1 + 1 + n = p.1 + (1 + n) by omega]
  exact sx_put hp hr.2 (by omega) (by omega) (by omega)
theorem sx_nm_gr {s : Int → Int} {p : sx_S} {u : Int} (hb : sx_by s) (hp : sx_pv s p) (hd : 0 ≤ sx_nm u (sx_hr s p)) : sx_gr s p (sx_pp (-1 - sx_nm u (sx_hr s p)) (sx_pa p)) := by
  have hn := sx_nm_rg u (sx_hr s p)
  have hr := (sx_hr_rg hb hp).2.2 (by omega)
  exact sx_put hp hr.2 (by decide) (by omega) (by omega)
theorem sx_Q_gd {s : Int → Int} {u : Int} (hb : sx_by s) (d : Nat) : sx_gd s (sx_Q s u d) := by
  induction d with
  | zero =>
    intro p hp
    show sx_gr s p (if 48 ≤ sx_hr s p ∧ sx_hr s p ≤ 57 then sx_nu s p else if 0 ≤ sx_nm u (sx_hr s p) then sx_pp (-1 - sx_nm u (sx_hr s p)) (sx_pa p) else sx_pw p)
    split
    · exact sx_nu_gr hb hp (by assumption)
    · split
      · exact sx_nm_gr hb hp (by assumption)
      · exact sx_pw_gr hp
  | succ d ih =>
    intro p hp
    have hr := sx_hr_rg hb hp
    show sx_gr s p (if 48 ≤ sx_hr s p ∧ sx_hr s p ≤ 57 then sx_nu s p else if 0 ≤ sx_nm u (sx_hr s p) then sx_pp (-1 - sx_nm u (sx_hr s p)) (sx_pa p)
      else if sx_hr s p = 33 then sx_pp (-133) (sx_Q s u d (sx_pa p)) else if sx_hr s p = 40 then sx_cl s (sx_T s (sx_Q s u d) (sx_pa p)) else sx_pw p)
    split
    · exact sx_nu_gr hb hp (by assumption)
    · split
      · exact sx_nm_gr hb hp (by assumption)
      · split
        · rename_i q
          have hr2 := hr.2.2 (by omega)
          obtain ⟨a1, a2, a3, a4, a5, a6⟩ := ih (sx_pa p) (sx_pa_pv hr2.1 hp)
          have e1 : (sx_pa p).1 = p.1 + 1 := rfl
          have e2 : (sx_pa p).2.2.1 = p.2.2.1 := rfl
          rw [e1] at a2 a3 a5
          rw [e2] at a2
          obtain ⟨b1, b2, b3⟩ := a1
          obtain ⟨g1, g2, g3⟩ := id hp
          by_cases q2 : (sx_Q s u d (sx_pa p)).2.1 = 0
          · have hpp : sx_pp (-133) (sx_Q s u d (sx_pa p)) = ((sx_Q s u d (sx_pa p)).1, (sx_Q s u d (sx_pa p)).2.1, (sx_Q s u d (sx_pa p)).2.2.1 + 1, mh_ur (sx_Q s u d (sx_pa p)).2.2.2 (sx_Q s u d (sx_pa p)).2.2.1 (-133)) := if_pos q2
            refine ⟨?_, ?_, ?_, fun h => by omega, fun _ => ?_, fun _ hd => ?_⟩
            · rw [hpp]; unfold sx_pv; simp only []; omega
            · rw [hpp]; show _ ≤ (sx_Q s u d (sx_pa p)).1 - ((sx_Q s u d (sx_pa p)).2.2.1 + 1); omega
            · rw [hpp]; show _ ≤ (sx_Q s u d (sx_pa p)).1; omega
            · rw [hpp]; show _ < (sx_Q s u d (sx_pa p)).1; omega
            · have z1 := sx_sg_rf (p := p) (q := sx_pa p) rfl rfl
              have ed : sx_dp (sx_pa p) = sx_dp p + 0 := z1.2.2.1
              have z2 := a6 q2 (by omega)
              have ed2 := z2.2.2.1
              have z3 := sx_sg_pp (p := sx_Q s u d (sx_pa p)) (c := -133) q2 b2.1 (by decide) (by decide) (by omega) (by omega)
              rw [if_neg (by decide), if_pos rfl] at z3
              exact sx_sg_tr hp.2.1.1 (sx_sg_tr hp.2.1.1 z1 z2) z3
          · have hpp : sx_pp (-133) (sx_Q s u d (sx_pa p)) = sx_Q s u d (sx_pa p) := if_neg q2
            rw [hpp]
            exact ⟨⟨b1, b2, b3⟩, by omega, by omega, fun h => by omega, fun h => absurd h q2, fun h => absurd h q2⟩
        · split
          · rename_i q
            have hr2 := hr.2.2 (by omega)
            obtain ⟨a1, a2, a3, a4, a5, a6⟩ := sx_T_gd hb ih (sx_pa p) (sx_pa_pv hr2.1 hp)
            have e1 : (sx_pa p).1 = p.1 + 1 := rfl
            have e2 : (sx_pa p).2.2.1 = p.2.2.1 := rfl
            rw [e1] at a2 a3 a5
            rw [e2] at a2
            have hr3 := sx_hr_rg hb a1
            have z1 := sx_sg_rf (p := p) (q := sx_pa p) rfl rfl
            have ed : sx_dp (sx_pa p) = sx_dp p + 0 := z1.2.2.1
            generalize sx_T s (sx_Q s u d) (sx_pa p) = r at *
            unfold sx_cl
            split
            · have hr4 := hr3.2.2 (by omega)
              refine ⟨sx_pa_pv hr4.1 a1, ?_, ?_, fun h => by omega, fun _ => ?_, fun _ hd => ?_⟩
              · show _ ≤ r.1 + 1 - r.2.2.1; omega
              · show _ ≤ r.1 + 1; omega
              · show _ < r.1 + 1; omega
              · have z2 := a6 hr4.2 (by omega)
                exact sx_sg_tr hp.2.1.1 (sx_sg_tr hp.2.1.1 z1 z2) (sx_sg_rf (p := r) (q := sx_pa r) rfl rfl)
            · obtain ⟨b1, b2, b3⟩ := a1
              exact ⟨⟨b1, b2, Or.inr rfl⟩, by show _ ≤ r.1 - r.2.2.1; omega, by show _ ≤ r.1; omega, fun h => by omega, fun h => absurd h (by show ¬ (1 : Int) = 0; decide), fun h => absurd h (by show ¬ (1 : Int) = 0; decide)⟩
          · exact sx_pw_gr hp
/-- the measure does not matter, as long as it is enough -/
theorem sx_lp_fuel {s : Int → Int} {F : sx_S → sx_S} {ops : Int → Bool} (hb : sx_by s) (hF : sx_gd s F) (ho : sx_ok ops) (f : Nat) : ∀ (g : Nat) (p : sx_S), sx_pv s p → s 4 - p.1 ≤ (f : Int) → s 4 - p.1 ≤ (g : Int) → sx_lp s F ops f p = sx_lp s F ops g p := by
  induction f with
  | zero =>
    intro g p hp h1 h2
    have hr := sx_hr_rg hb hp
    cases g with
    | zero => rfl
    | succ g =>
      show p = (if ops (sx_hr s p) = true then _ else p)
      rw [if_neg]
      intro q
      have := ho _ q
      have := hr.2.2 (by omega)
      omega
  | succ f ih =>
    intro g p hp h1 h2
    have hr := sx_hr_rg hb hp
    by_cases q : ops (sx_hr s p) = true
    · have hq := ho _ q
      have hr2 := hr.2.2 (by omega)
      obtain ⟨c1, c2, c3, c4⟩ := sx_op hF hp hr2.1 hr2.2 hq
      cases g with
      | zero => omega
      | succ g =>
        show (if ops (sx_hr s p) = true then sx_lp s F ops f _ else p) = (if ops (sx_hr s p) = true then sx_lp s F ops g _ else p)
        rw [if_pos q, if_pos q]
        exact ih g _ c1 (by omega) (by omega)
    · cases g with
      | zero => show (if ops (sx_hr s p) = true then _ else p) = p; rw [if_neg q]
      | succ g => show (if ops (sx_hr s p) = true then _ else p) = (if ops (sx_hr s p) = true then _ else p); rw [if_neg q, if_neg q]
theorem sx_L_st {s : Int → Int} {F : sx_S → sx_S} {ops : Int → Bool} {p : sx_S} (hb : sx_by s) (hF : sx_gd s F) (ho : sx_ok ops) (hp : sx_pv s p) (q : ops (sx_hr s p) = true) : sx_L s F ops p = sx_L s F ops (sx_pp (-100 - sx_hr s p) (F (sx_pa p))) := by
  have hq := ho _ q
  have hr2 := (sx_hr_rg hb hp).2.2 (by omega)
  obtain ⟨c1, c2, c3, c4⟩ := sx_op hF hp hr2.1 hr2.2 hq
  unfold sx_L
  rw [show (s 4 - p.1).toNat = (s 4 - p.1 - 1).toNat + 1 by omega]
  show (if ops (sx_hr s p) = true then sx_lp s F ops (s 4 - p.1 - 1).toNat _ else p) = _
  rw [if_pos q]
  exact sx_lp_fuel hb hF ho _ _ _ c1 (by omega) (by omega)
theorem sx_L_no {s : Int → Int} {F : sx_S → sx_S} {ops : Int → Bool} {p : sx_S} (q : ¬ ops (sx_hr s p) = true) : sx_L s F ops p = p := by
  unfold sx_L
  cases (s 4 - p.1).toNat with
  | zero => rfl
  | succ f => exact if_neg q
