/-! the grammar: places, sums, comparisons -/
def kdT (T : Nat → Int) (n p : Nat) : Nat := if n ≤ p then 0 else if dgB T n p = true then 1 else if ltB T n p = true then 2 else 3
def twB (T : Nat → Int) (n p : Nat) : Bool := decide ((T p = 60 ∨ T p = 62) ∧ p + 1 < n ∧ T (p + 1) = 61)
def enT (T : Nat → Int) (n p : Nat) : Nat := if kdT T n p = 1 then dgE T n p else if kdT T n p = 2 then ltE T n p else if twB T n p = true then p + 2 else p + 1
def vaT (T : Nat → Int) (n p : Nat) : Int := if kdT T n p = 0 then 0 else if kdT T n p = 1 then (if 5 < dgE T n p - p then -1 else nvF T p (dgE T n p - p)) else if kdT T n p = 2 then wdA T n p else if twB T n p = true then T p + 256 else T p
def nxT (T : Nat → Int) (n p : Nat) : Nat := skT T n (enT T n p)
abbrev Ps : Type := Nat × Nat × List St
abbrev Pr : Type := Sum Nat Ps
def bdP (r : Pr) (k : Ps → Pr) : Pr := match r with | .inl e => .inl e | .inr s => k s
def gVal (T : Nat → Int) (n : Nat) (s : Ps) : Pr :=
  if kdT T n s.1 = 1 then (if vaT T n s.1 = -1 then .inl (1 + 8 * s.1 + 1) else if 60 ≤ s.2.1 then .inl (1 + 8 * s.1 + 3) else .inr (nxT T n s.1, s.2.1 + 1, s.2.2 ++ [(0, (vaT T n s.1).toNat)])) else
  if kdT T n s.1 = 2 ∧ 0 ≤ vaT T n s.1 ∧ vaT T n s.1 < 13 then (if 60 ≤ s.2.1 then .inl (1 + 8 * s.1 + 3) else .inr (nxT T n s.1, s.2.1 + 1, s.2.2 ++ [(1, (vaT T n s.1).toNat)])) else .inl (1 + 8 * s.1)
def opM (T : Nat → Int) (n p : Nat) : Nat := if kdT T n p = 3 then (if vaT T n p = 42 then 4 else if vaT T n p = 47 then 5 else if vaT T n p = 37 then 6 else 0) else 0
def opS (T : Nat → Int) (n p : Nat) : Nat := if kdT T n p = 3 then (if vaT T n p = 43 then 2 else if vaT T n p = 45 then 3 else 0) else 0
def opC (T : Nat → Int) (n p : Nat) : Nat := if kdT T n p = 3 then (if vaT T n p = 60 then 7 else if vaT T n p = 316 then 8 else if vaT T n p = 61 then 9 else if vaT T n p = 318 then 10 else if vaT T n p = 62 then 11 else 0) else 0
def tmF (T : Nat → Int) (n : Nat) : Nat → Ps → Pr
  | 0, s => .inr s
  | f + 1, s => if opM T n s.1 = 0 then .inr s else bdP (gVal T n (nxT T n s.1, s.2)) (fun s' => tmF T n f (s'.1, s'.2.1, s'.2.2 ++ [(opM T n s.1, 0)]))
def gTerm (T : Nat → Int) (n : Nat) (s : Ps) : Pr := bdP (gVal T n s) (tmF T n 401)
def suF (T : Nat → Int) (n : Nat) : Nat → Ps → Pr
  | 0, s => .inr s
  | f + 1, s => if opS T n s.1 = 0 then .inr s else bdP (gTerm T n (nxT T n s.1, s.2)) (fun s' => suF T n f (s'.1, s'.2.1, s'.2.2 ++ [(opS T n s.1, 0)]))
def gSum (T : Nat → Int) (n : Nat) (s : Ps) : Pr := bdP (gTerm T n s) (suF T n 401)
def gCmp (T : Nat → Int) (n : Nat) (s : Ps) : Pr := bdP (gSum T n s) (fun s1 => if opC T n s1.1 = 0 then .inl (1 + 8 * s1.1) else if 60 ≤ s1.2.1 then .inl (1 + 8 * s1.1 + 3) else bdP (gSum T n (nxT T n s1.1, s1.2.1 + 1, s1.2.2)) (fun s2 => .inr (s2.1, s2.2.1, s2.2.2 ++ [(opC T n s1.1, 0)])))
/-- a place that is no blank, in the text -/
def atP (T : Nat → Int) (n p : Nat) : Prop := p ≤ n ∧ spB T n p = false
theorem sk_at {T : Nat → Int} {n p : Nat} (hn : n ≤ 400) (hp : p ≤ n) : atP T n (skT T n p) := ⟨(sk_rng hp).2, reF_end spB_n 400 p (by omega)⟩
theorem at_sk {T : Nat → Int} {n p : Nat} (hn : n ≤ 400) (h : atP T n p) : skT T n p = p := reF_at spB_n (Nat.le_refl _) (fun i h1 h2 => by omega) h.2 400 (by omega)
theorem en_rng {T : Nat → Int} {n p : Nat} (hp : p < n) : p < enT T n p ∧ enT T n p ≤ n := by
  have h := run_rng (T := T) (n := n) (p := p) (by omega)
  unfold enT
  split
  · rename_i c
    have hd : dgB T n p = true := by
      unfold kdT at c
      rw [if_neg (by omega)] at c
      split at c
      · assumption
      · split at c <;> omega
    refine ⟨?_, h.1.2⟩
    have e : dgE T n p = reF (dgB T n) 399 (p + 1) := by
      show reF (dgB T n) 400 p = _
      show (if dgB T n p = true then reF (dgB T n) 399 (p + 1) else p) = _
      rw [if_pos hd]
    have := reF_ge (dgB T n) 399 (p + 1)
    omega
  · split
    · rename_i c
      have hd : ltB T n p = true := by
        unfold kdT at c
        rw [if_neg (by omega)] at c
        split at c
        · omega
        · split at c
          · assumption
          · omega
      refine ⟨?_, h.2.2⟩
      have e : ltE T n p = reF (ltB T n) 399 (p + 1) := by
        show reF (ltB T n) 400 p = _
        show (if ltB T n p = true then reF (ltB T n) 399 (p + 1) else p) = _
        rw [if_pos hd]
      have := reF_ge (ltB T n) 399 (p + 1)
      omega
    · split
      · rename_i c
        have := of_decide_eq_true c
        omega
      · omega
theorem nx_rng {T : Nat → Int} {n p : Nat} (hn : n ≤ 400) (hp : p < n) : p < nxT T n p ∧ nxT T n p ≤ n ∧ atP T n (nxT T n p) := by
  have h := en_rng (T := T) hp
  have h2 := sk_rng (T := T) h.2
  exact ⟨Nat.lt_of_lt_of_le h.1 h2.1, h2.2, sk_at hn h.2⟩
theorem kd_lt {T : Nat → Int} {n p : Nat} (h : kdT T n p ≠ 0) : p < n := by
  apply Classical.byContradiction
  intro c
  exact h (by unfold kdT; rw [if_pos (by omega)])
/-- the model's parsing state: at p (before blanks), so many made, the steps so far -/
def rP (R : Md) (T : Nat → Int) (n t : Nat) (s : Ps) : Prop := rT R T n ∧ t < 6 ∧ mS R 11 = (t : Nat) ∧ mS R 9 = 0 ∧ (∃ q : Nat, mS R 8 = q ∧ q ≤ n ∧ skT T n q = s.1) ∧ mS R 12 = (s.2.1 : Nat) ∧ s.2.1 ≤ 60 ∧ mA R 4 t = (s.2.2.length : Nat) ∧ s.2.2.length ≤ 400 ∧ rCo (mA R 3) (400 * t) s.2.2
def frP (t : Nat) (R R' : Md) : Prop := (∀ j, (j < 8 ∨ j = 11 ∨ 12 < j) → mS R' j = mS R j) ∧ (∀ j, (j < 3 ∨ 4 < j) → mA R' j = mA R j) ∧ (∀ i, (i < 400 * t ∨ 400 * t + 400 ≤ i) → mA R' 3 i = mA R 3 i) ∧ ∀ i, i ≠ t → mA R' 4 i = mA R 4 i
theorem frP_t {t : Nat} {R R' R'' : Md} (h : frP t R R') (h' : frP t R' R'') : frP t R R'' := ⟨fun j q => (h'.1 j q).trans (h.1 j q), fun j q => (h'.2.1 j q).trans (h.2.1 j q), fun j q => (h'.2.2.1 j q).trans (h.2.2.1 j q), fun j q => (h'.2.2.2 j q).trans (h.2.2.2 j q)⟩
theorem frP_r (t : Nat) (R : Md) : frP t R R := ⟨fun _ _ => rfl, fun _ _ => rfl, fun _ _ => rfl, fun _ _ => rfl⟩
theorem frP_S {t : Nat} {R : Md} {j : Nat} {v : Int} (h : (7 < j ∧ j < 11) ∨ j = 12) : frP t R (sS R j v) := ⟨fun i q => mS_So (by omega), fun _ _ => rfl, fun _ _ => rfl, fun _ _ => rfl⟩
theorem rCo_app {g : Nat → Int} : ∀ {cs : List St} {at' : Nat} {c : St}, rCo g at' cs → g (at' + cs.length) = ((mkS c.1 + 16 * c.2 : Nat) : Int) → c.2 < 100000 → rCo g at' (cs ++ [c]) := by
  intro cs
  induction cs with
  | nil => intro at' c _ h h2; exact ⟨h, h2, trivial⟩
  | cons d cs ih => intro at' c h h1 h2; exact ⟨h.1, h.2.1, ih h.2.2 (by rw [show at' + 1 + cs.length = at' + (cs.length + 1) by omega]; exact h1) h2⟩
theorem rCo_ext {g g' : Nat → Int} : ∀ {cs : List St} {at' : Nat}, (∀ i, at' ≤ i → i < at' + cs.length → g' i = g i) → rCo g at' cs → rCo g' at' cs := by
  intro cs
  induction cs with
  | nil => intro at' _ _; trivial
  | cons c cs ih =>
    intro at' h h2
    have hl : (c :: cs).length = cs.length + 1 := rfl
    exact ⟨by rw [h at' (by omega) (by omega)]; exact h2.1, h2.2.1, ih (fun i h3 h4 => h i (by omega) (by omega)) h2.2.2⟩
section XS73
variable {D b k p q n t c v : Nat} {f g : Nat → xk_C} {w : Nat × Nat × Nat} {K : Option Value → xk_S → Prop} {R : Md} {x y z : Int} {T : Nat → Int} {s : Ps}
theorem u_puts (hD : 1 ≤ D) (hp : rP R T n t s) (hc : c ≤ 14) (hv : v < 100000) (hl : s.2.2.length < 400) (hpost : ∀ R', frP t R R' → rP R' T n t (s.1, s.2.1, s.2.2 ++ [(c, v)]) → mS R' 8 = mS R 8 → K none (xm f b R', w)) : xk_Cl D 157 [.ref b, .int (xj (mkS c : Nat)), .int (xj v)] (xm f b R, w) K := by
  rw [e157 (by omega)]
  obtain ⟨h0, h1, h11, h9, h8, h12, h13, h4, h14, h3⟩ := hp
  have hm := mk_lt c hc
  have po := hpost (sA (sA R 3 (upI (mA R 3) (400 * t + s.2.2.length) (mkS c + 16 * v : Nat))) 4 (upI (mA R 4) t (s.2.2.length + 1 : Nat))) ⟨fun _ _ => rfl, fun j q => by rw [mA_Ao (by omega), mA_Ao (by omega)], fun i q => by rw [mA_Ao (by decide), mA_A, up_n (by omega)], fun i q => by rw [mA_A, up_n q]⟩ ⟨h0, h1, h11, h9, h8, h12, h13, by rw [mA_A, up_e, List.length_append]; rfl, by show (s.2.2 ++ [(c, v)]).length ≤ 400; rw [List.length_append]; show s.2.2.length + 1 ≤ 400; omega, by
    rw [mA_Ao (by decide), mA_A]
    refine rCo_app (rCo_ext (fun i h5 h6 => up_n (by omega)) h3) ?_ hv
    exact up_e⟩ rfl
  have e16 : (mkS c : Int) + 16 * (v : Int) = ((mkS c + 16 * v : Nat) : Int) := by omega
  simp (disch := omega) only [b157_0, b157_1, b157_4, b157_7, b157_8, b157_11, b157_12, b157_13, b157_16, b157_17, b157_20, b157_21, b157_22, b157_23, b157_25, b157_26, b157_27, b157_28, b157_29, b157_30, b157_33, b157_34, b157_37, b157_38, b157_39, b157_40, b157_41, b157_42, ↓gm_0, ↓gm_1, ↓gm_2, ↓gm_3, ↓gm_4, ↓gm_5, ↓gm_6, ↓gm_7, ↓gm_8, ↓gm_9, ↓gm_10, ↓gm_11, ↓gm_12, ↓gm_13, ↓gm_14, ↓gm_15, ↓gm_16, ↓gm_17, ↓gm_18, ↓gm_19, ↓gm_20, ↓gm_21, ↓gm_22, ↓gm_23, ↓gm_24, ↓gm_25, ↓gm_26, ↓gm_27, ↓gm_28, ↓gm_29, ↓gm_30, ↓gm_31, ↓gm_32, ↓gm_33, ↓gm_34, ↓gm_35, ↓gm_36, ↓gm_37, ↓gm_38, ↓gm_39, ↓gm_40, ↓gm_41, ↓gm_42, ↓gm_43, ↓gm_44, ↓gm_45, ↓gm_46, ↓pm_1, ↓pm_2, ↓pm_8, ↓pm_9, ↓pm_10, ↓pm_11, ↓pm_12, ↓pm_13, ↓pm_14, ↓pm_16, ↓pm_18, ↓pm_21, ↓pm_22, ↓pm_23, ↓pm_24, ↓pm_25, ↓pm_26, ↓pm_28, ↓pm_31, ↓pm_35, ↓pm_36, ↓pm_37, ↓pm_38, ↓pm_40, ↓pm_43, ↓am_0, ↓wm_0, ↓am_3, ↓wm_3, ↓am_4, ↓wm_4, ↓am_5, ↓wm_5, ↓am_6, ↓wm_6, ↓am_7, ↓wm_7, ↓am_15, ↓wm_15, ↓am_17, ↓wm_17, ↓am_19, ↓wm_19, ↓am_20, ↓wm_20, ↓am_27, ↓wm_27, ↓am_29, ↓wm_29, ↓am_30, ↓wm_30, ↓am_32, ↓wm_32, ↓am_33, ↓wm_33, ↓am_34, ↓wm_34, ↓am_39, ↓wm_39, ↓am_41, ↓wm_41, ↓am_42, ↓wm_42, ↓am_44, ↓wm_44, ↓am_45, ↓wm_45, ↓am_46, ↓wm_46, ↓wn_0, ↓wn_46, or_false, false_or, rc_M, List.getElem?_cons_zero, List.getElem?_cons_succ, List.length_cons, List.length_nil, List.set_cons_zero, List.set_cons_succ, true_and, and_true, Option.toList_some, Option.toList_none, List.cons_append, List.nil_append, ↓reduceIte, not_false_eq_true, not_true_eq_false, Nat.reduceAdd, xj0_01, xj1_01, xb_B, xb_True, xb_False, ↓xj_in, xj_nat, Int.toNat_natCast, xj_lt_t, xj_lt_f, xj_le_t, xj_le_f, xj_eq_t, xj_eq_f, xj_lt, xj_le, xj_eq, xj_add, xj_sub, xj_mul, show ¬ xj 1 = xj 0 from by decide, tn_add, tn_mul, tn_sub, Int.toNat_natCast, Int.reduceToNat, mS_S, mS_So, mS_A, mS_J, mA_A, mA_Ao, mA_S, mA_J, mJ_J, mJ_Jo, mJ_S, mJ_A, sS_S, sA_A, sS_A, sS_J, sJ_A, h11, h4, e16]
  exact po
theorem u_makes (hD : 2 ≤ D) (hp : rP R T n t s) (hyes : s.2.1 < 60 → ∀ R', frP t R R' → rP R' T n t (s.1, s.2.1 + 1, s.2.2) → mS R' 8 = mS R 8 → mS R' 10 = mS R 10 → K (some (.int (xj 1))) (xm f b R', w)) (hno : 60 ≤ s.2.1 → ∀ R', frP t R R' → mS R' 9 = (1 + 8 * p + 3 : Nat) → K (some (.int (xj 0))) (xm f b R', w)) : xk_Cl D 158 [.ref b, .int (xj p)] (xm f b R, w) K := by
  rw [e158 (by omega)]
  obtain ⟨h0, h1, h11, h9, h8, h12, h13, h4, h14, h3⟩ := hp
  by_cases cc : s.2.1 < 60
  · have po := hyes cc (sS R 12 (s.2.1 + 1 : Nat)) (frP_S (by omega)) ⟨h0, h1, h11, h9, h8, mS_S, by show s.2.1 + 1 ≤ 60; omega, h4, h14, h3⟩ rfl rfl
    simp (disch := omega) only [b158_0, b158_1, b158_4, b158_6, b158_9, b158_10, b158_11, b158_12, b158_15, b158_16, b158_17, b158_18, b158_21, b158_22, b158_23, b158_26, b158_27, b158_15o, b158_15z, b158_15c, b158_27o, b158_27z, b158_27c, ↓gm_0, ↓gm_1, ↓gm_2, ↓gm_3, ↓gm_4, ↓gm_5, ↓gm_6, ↓gm_7, ↓gm_8, ↓gm_9, ↓gm_10, ↓gm_11, ↓gm_12, ↓gm_13, ↓gm_14, ↓gm_15, ↓gm_16, ↓gm_17, ↓gm_18, ↓gm_19, ↓gm_20, ↓gm_21, ↓gm_22, ↓gm_23, ↓gm_24, ↓gm_25, ↓gm_26, ↓gm_27, ↓gm_28, ↓gm_29, ↓gm_30, ↓gm_31, ↓gm_32, ↓gm_33, ↓gm_34, ↓gm_35, ↓gm_36, ↓gm_37, ↓gm_38, ↓gm_39, ↓gm_40, ↓gm_41, ↓gm_42, ↓gm_43, ↓gm_44, ↓gm_45, ↓gm_46, ↓pm_1, ↓pm_2, ↓pm_8, ↓pm_9, ↓pm_10, ↓pm_11, ↓pm_12, ↓pm_13, ↓pm_14, ↓pm_16, ↓pm_18, ↓pm_21, ↓pm_22, ↓pm_23, ↓pm_24, ↓pm_25, ↓pm_26, ↓pm_28, ↓pm_31, ↓pm_35, ↓pm_36, ↓pm_37, ↓pm_38, ↓pm_40, ↓pm_43, ↓am_0, ↓wm_0, ↓am_3, ↓wm_3, ↓am_4, ↓wm_4, ↓am_5, ↓wm_5, ↓am_6, ↓wm_6, ↓am_7, ↓wm_7, ↓am_15, ↓wm_15, ↓am_17, ↓wm_17, ↓am_19, ↓wm_19, ↓am_20, ↓wm_20, ↓am_27, ↓wm_27, ↓am_29, ↓wm_29, ↓am_30, ↓wm_30, ↓am_32, ↓wm_32, ↓am_33, ↓wm_33, ↓am_34, ↓wm_34, ↓am_39, ↓wm_39, ↓am_41, ↓wm_41, ↓am_42, ↓wm_42, ↓am_44, ↓wm_44, ↓am_45, ↓wm_45, ↓am_46, ↓wm_46, ↓wn_0, ↓wn_46, or_false, false_or, rc_M, List.getElem?_cons_zero, List.getElem?_cons_succ, List.length_cons, List.length_nil, List.set_cons_zero, List.set_cons_succ, true_and, and_true, Option.toList_some, Option.toList_none, List.cons_append, List.nil_append, ↓reduceIte, not_false_eq_true, not_true_eq_false, Nat.reduceAdd, xj0_01, xj1_01, xb_B, xb_True, xb_False, ↓xj_in, xj_nat, Int.toNat_natCast, xj_lt_t, xj_lt_f, xj_le_t, xj_le_f, xj_eq_t, xj_eq_f, xj_lt, xj_le, xj_eq, xj_add, xj_sub, xj_mul, show ¬ xj 1 = xj 0 from by decide, tn_add, tn_mul, tn_sub, Int.toNat_natCast, Int.reduceToNat, h12]
    exact po
  · have e60 : s.2.1 = 60 := by omega
    have po := hno (by omega) (sS R 9 (1 + 8 * p + 3)) (frP_S (by omega)) (by rw [mS_S]; omega)
    have h12' : mS R 12 = 60 := by rw [h12, e60]; rfl
    simp (disch := omega) only [b158_0, b158_1, b158_4, b158_6, b158_9, b158_10, b158_11, b158_12, b158_15, b158_16, b158_17, b158_18, b158_21, b158_22, b158_23, b158_26, b158_27, b158_15o, b158_15z, b158_15c, b158_27o, b158_27z, b158_27c, ↓gm_0, ↓gm_1, ↓gm_2, ↓gm_3, ↓gm_4, ↓gm_5, ↓gm_6, ↓gm_7, ↓gm_8, ↓gm_9, ↓gm_10, ↓gm_11, ↓gm_12, ↓gm_13, ↓gm_14, ↓gm_15, ↓gm_16, ↓gm_17, ↓gm_18, ↓gm_19, ↓gm_20, ↓gm_21, ↓gm_22, ↓gm_23, ↓gm_24, ↓gm_25, ↓gm_26, ↓gm_27, ↓gm_28, ↓gm_29, ↓gm_30, ↓gm_31, ↓gm_32, ↓gm_33, ↓gm_34, ↓gm_35, ↓gm_36, ↓gm_37, ↓gm_38, ↓gm_39, ↓gm_40, ↓gm_41, ↓gm_42, ↓gm_43, ↓gm_44, ↓gm_45, ↓gm_46, ↓pm_1, ↓pm_2, ↓pm_8, ↓pm_9, ↓pm_10, ↓pm_11, ↓pm_12, ↓pm_13, ↓pm_14, ↓pm_16, ↓pm_18, ↓pm_21, ↓pm_22, ↓pm_23, ↓pm_24, ↓pm_25, ↓pm_26, ↓pm_28, ↓pm_31, ↓pm_35, ↓pm_36, ↓pm_37, ↓pm_38, ↓pm_40, ↓pm_43, ↓am_0, ↓wm_0, ↓am_3, ↓wm_3, ↓am_4, ↓wm_4, ↓am_5, ↓wm_5, ↓am_6, ↓wm_6, ↓am_7, ↓wm_7, ↓am_15, ↓wm_15, ↓am_17, ↓wm_17, ↓am_19, ↓wm_19, ↓am_20, ↓wm_20, ↓am_27, ↓wm_27, ↓am_29, ↓wm_29, ↓am_30, ↓wm_30, ↓am_32, ↓wm_32, ↓am_33, ↓wm_33, ↓am_34, ↓wm_34, ↓am_39, ↓wm_39, ↓am_41, ↓wm_41, ↓am_42, ↓wm_42, ↓am_44, ↓wm_44, ↓am_45, ↓wm_45, ↓am_46, ↓wm_46, ↓wn_0, ↓wn_46, or_false, false_or, rc_M, List.getElem?_cons_zero, List.getElem?_cons_succ, List.length_cons, List.length_nil, List.set_cons_zero, List.set_cons_succ, true_and, and_true, Option.toList_some, Option.toList_none, List.cons_append, List.nil_append, ↓reduceIte, not_false_eq_true, not_true_eq_false, Nat.reduceAdd, xj0_01, xj1_01, xb_B, xb_True, xb_False, ↓xj_in, xj_nat, Int.toNat_natCast, xj_lt_t, xj_lt_f, xj_le_t, xj_le_f, xj_eq_t, xj_eq_f, xj_lt, xj_le, xj_eq, xj_add, xj_sub, xj_mul, show ¬ xj 1 = xj 0 from by decide, tn_add, tn_mul, tn_sub, Int.toNat_natCast, Int.reduceToNat, h12', m_fails, h9]
    exact po
end XS73
