/-! the model: what closes -/
def okS (σ : List Nat) : Prop := ∀ x, x ∈ σ → x = 11 ∨ x = 12 ∨ x = 13 ∨ x = 91
def tpS (σ : List Nat) : Prop := σ = [] ∨ ∃ τ, σ = 91 :: τ
def pnS (a wt : Bool) : List Nat := (if a = true then [12] else []) ++ (if wt = true then [13] else [])
theorem sg_1 {g : Nat → Int} : ∀ {σ : List Nat}, sgS g σ → 91 ∈ σ → ∃ i, i < σ.length ∧ g i = 91 := by
  intro σ
  induction σ with
  | nil => intro _ h; cases h
  | cons x σ ih =>
    intro h h2
    have hl : (x :: σ).length = σ.length + 1 := rfl
    rcases List.mem_cons.mp h2 with e | e
    · exact ⟨σ.length, by omega, by rw [h.1, ← e]; rfl⟩
    · obtain ⟨i, h3, h4⟩ := ih h.2 e
      exact ⟨i, by omega, h4⟩
theorem sg_2 {g : Nat → Int} : ∀ {σ : List Nat} {i : Nat}, sgS g σ → i < σ.length → ∃ x, x ∈ σ ∧ g i = (x : Nat) := by
  intro σ
  induction σ with
  | nil => intro i _ h; exact absurd h (by show ¬ i < 0; omega)
  | cons x σ ih =>
    intro i h h2
    have hl : (x :: σ).length = σ.length + 1 := rfl
    by_cases c : i = σ.length
    · exact ⟨x, List.mem_cons_self, by rw [c]; exact h.1⟩
    · obtain ⟨y, h3, h4⟩ := ih h.2 (i := i) (by omega)
      exact ⟨y, List.mem_cons_of_mem _ h3, h4⟩
section XS79
variable {D b k p q n t c v : Nat} {f g : Nat → xk_C} {w : Nat × Nat × Nat} {K : Option Value → xk_S → Prop} {R : Md} {x y z : Int} {T : Nat → Int} {s : Ps} {σ : List Nat}
theorem m_isInside (hD : 1 ≤ D) (hg : sgR R σ) (hs : okS σ) (hl : σ.length ≤ 400) : xk_Cl D 167 [.ref b] (xm f b R, w) K ↔ K (some (.int (xb (91 ∈ σ)))) (xm f b R, w) := by
  rw [e167 (by omega)]
  obtain ⟨g1, g2, g3⟩ := hg
  have lp : ∀ fu i : Nat, σ.length ≤ i + fu → i ≤ σ.length → (∀ j, j < i → mA R 15 j ≠ 91) → (xk_B (D - 1) 167 2 [.ref b, .int (xj i)] [] (xm f b R, w) K ↔ K (some (.int (xb (91 ∈ σ)))) (xm f b R, w)) := by
    intro fu
    induction fu with
    | zero =>
      intro i h1 h2 h3
      have hb : ¬ (91 ∈ σ) := fun q => by
        obtain ⟨j, h4, h5⟩ := sg_1 g3 q
        exact h3 j (by omega) h5
      rw [b167_2]
      simp (disch := omega) only [b167_3, b167_4, b167_7, b167_10, b167_11, b167_14, b167_15, b167_16, b167_18, b167_21, b167_22, b167_23, b167_26, b167_29, b167_30, b167_22o, b167_22z, b167_22c, b167_30o, b167_30z, b167_30c, ↓gm_0, ↓gm_1, ↓gm_2, ↓gm_3, ↓gm_4, ↓gm_5, ↓gm_6, ↓gm_7, ↓gm_8, ↓gm_9, ↓gm_10, ↓gm_11, ↓gm_12, ↓gm_13, ↓gm_14, ↓gm_15, ↓gm_16, ↓gm_17, ↓gm_18, ↓gm_19, ↓gm_20, ↓gm_21, ↓gm_22, ↓gm_23, ↓gm_24, ↓gm_25, ↓gm_26, ↓gm_27, ↓gm_28, ↓gm_29, ↓gm_30, ↓gm_31, ↓gm_32, ↓gm_33, ↓gm_34, ↓gm_35, ↓gm_36, ↓gm_37, ↓gm_38, ↓gm_39, ↓gm_40, ↓gm_41, ↓gm_42, ↓gm_43, ↓gm_44, ↓gm_45, ↓gm_46, ↓pm_1, ↓pm_2, ↓pm_8, ↓pm_9, ↓pm_10, ↓pm_11, ↓pm_12, ↓pm_13, ↓pm_14, ↓pm_16, ↓pm_18, ↓pm_21, ↓pm_22, ↓pm_23, ↓pm_24, ↓pm_25, ↓pm_26, ↓pm_28, ↓pm_31, ↓pm_35, ↓pm_36, ↓pm_37, ↓pm_38, ↓pm_40, ↓pm_43, ↓am_0, ↓wm_0, ↓am_3, ↓wm_3, ↓am_4, ↓wm_4, ↓am_5, ↓wm_5, ↓am_6, ↓wm_6, ↓am_7, ↓wm_7, ↓am_15, ↓wm_15, ↓am_17, ↓wm_17, ↓am_19, ↓wm_19, ↓am_20, ↓wm_20, ↓am_27, ↓wm_27, ↓am_29, ↓wm_29, ↓am_30, ↓wm_30, ↓am_32, ↓wm_32, ↓am_33, ↓wm_33, ↓am_34, ↓wm_34, ↓am_39, ↓wm_39, ↓am_41, ↓wm_41, ↓am_42, ↓wm_42, ↓am_44, ↓wm_44, ↓am_45, ↓wm_45, ↓am_46, ↓wm_46, ↓wn_0, ↓wn_46, or_false, false_or, rc_M, List.getElem?_cons_zero, List.getElem?_cons_succ, List.length_cons, List.length_nil, List.set_cons_zero, List.set_cons_succ, true_and, and_true, Option.toList_some, Option.toList_none, List.cons_append, List.nil_append, ↓reduceIte, not_false_eq_true, not_true_eq_false, Nat.reduceAdd, xj0_01, xj1_01, xb_B, xb_True, xb_False, ↓xj_in, xj_nat, Int.toNat_natCast, xj_lt_t, xj_lt_f, xj_le_t, xj_le_f, xj_eq_t, xj_eq_f, xj_lt, xj_le, xj_eq, xj_add, xj_sub, xj_mul, show ¬ xj 1 = xj 0 from by decide, tn_add, tn_mul, tn_sub, Int.toNat_natCast, Int.reduceToNat, g1, xb_F hb]
    | succ fu ih =>
      intro i h1 h2 h3
      by_cases c : i < σ.length
      · obtain ⟨x, hx, hx2⟩ := sg_2 g3 c
        have ho := hs x hx
        rw [b167_2]
        by_cases c2 : x = 91
        · have hb : 91 ∈ σ := by rw [← c2]; exact hx
          have hx2 : mA R 15 i = 91 := by rw [hx2, c2]; rfl
          simp (disch := omega) only [b167_3, b167_4, b167_7, b167_10, b167_11, b167_14, b167_15, b167_16, b167_18, b167_21, b167_22, b167_23, b167_26, b167_29, b167_30, b167_22o, b167_22z, b167_22c, b167_30o, b167_30z, b167_30c, ↓gm_0, ↓gm_1, ↓gm_2, ↓gm_3, ↓gm_4, ↓gm_5, ↓gm_6, ↓gm_7, ↓gm_8, ↓gm_9, ↓gm_10, ↓gm_11, ↓gm_12, ↓gm_13, ↓gm_14, ↓gm_15, ↓gm_16, ↓gm_17, ↓gm_18, ↓gm_19, ↓gm_20, ↓gm_21, ↓gm_22, ↓gm_23, ↓gm_24, ↓gm_25, ↓gm_26, ↓gm_27, ↓gm_28, ↓gm_29, ↓gm_30, ↓gm_31, ↓gm_32, ↓gm_33, ↓gm_34, ↓gm_35, ↓gm_36, ↓gm_37, ↓gm_38, ↓gm_39, ↓gm_40, ↓gm_41, ↓gm_42, ↓gm_43, ↓gm_44, ↓gm_45, ↓gm_46, ↓pm_1, ↓pm_2, ↓pm_8, ↓pm_9, ↓pm_10, ↓pm_11, ↓pm_12, ↓pm_13, ↓pm_14, ↓pm_16, ↓pm_18, ↓pm_21, ↓pm_22, ↓pm_23, ↓pm_24, ↓pm_25, ↓pm_26, ↓pm_28, ↓pm_31, ↓pm_35, ↓pm_36, ↓pm_37, ↓pm_38, ↓pm_40, ↓pm_43, ↓am_0, ↓wm_0, ↓am_3, ↓wm_3, ↓am_4, ↓wm_4, ↓am_5, ↓wm_5, ↓am_6, ↓wm_6, ↓am_7, ↓wm_7, ↓am_15, ↓wm_15, ↓am_17, ↓wm_17, ↓am_19, ↓wm_19, ↓am_20, ↓wm_20, ↓am_27, ↓wm_27, ↓am_29, ↓wm_29, ↓am_30, ↓wm_30, ↓am_32, ↓wm_32, ↓am_33, ↓wm_33, ↓am_34, ↓wm_34, ↓am_39, ↓wm_39, ↓am_41, ↓wm_41, ↓am_42, ↓wm_42, ↓am_44, ↓wm_44, ↓am_45, ↓wm_45, ↓am_46, ↓wm_46, ↓wn_0, ↓wn_46, or_false, false_or, rc_M, List.getElem?_cons_zero, List.getElem?_cons_succ, List.length_cons, List.length_nil, List.set_cons_zero, List.set_cons_succ, true_and, and_true, Option.toList_some, Option.toList_none, List.cons_append, List.nil_append, ↓reduceIte, not_false_eq_true, not_true_eq_false, Nat.reduceAdd, xj0_01, xj1_01, xb_B, xb_True, xb_False, ↓xj_in, xj_nat, Int.toNat_natCast, xj_lt_t, xj_lt_f, xj_le_t, xj_le_f, xj_eq_t, xj_eq_f, xj_lt, xj_le, xj_eq, xj_add, xj_sub, xj_mul, show ¬ xj 1 = xj 0 from by decide, tn_add, tn_mul, tn_sub, Int.toNat_natCast, Int.reduceToNat, mS_S, mS_So, mS_A, mS_J, mA_A, mA_Ao, mA_S, mA_J, mJ_J, mJ_Jo, mJ_S, mJ_A, sS_S, sA_A, sS_A, sS_J, sJ_A, g1, hx2, xb_T hb]
        · have nx := ih (i + 1) (by omega) (by omega) (fun j q => by
            by_cases cj : j = i
            · rw [cj, hx2]; omega
            · exact h3 j (by omega))
          have ei : ((i : Int) + 1) = ((i + 1 : Nat) : Int) := by omega
          simp (disch := omega) only [b167_3, b167_4, b167_7, b167_10, b167_11, b167_14, b167_15, b167_16, b167_18, b167_21, b167_22, b167_23, b167_26, b167_29, b167_30, b167_22o, b167_22z, b167_22c, b167_30o, b167_30z, b167_30c, ↓gm_0, ↓gm_1, ↓gm_2, ↓gm_3, ↓gm_4, ↓gm_5, ↓gm_6, ↓gm_7, ↓gm_8, ↓gm_9, ↓gm_10, ↓gm_11, ↓gm_12, ↓gm_13, ↓gm_14, ↓gm_15, ↓gm_16, ↓gm_17, ↓gm_18, ↓gm_19, ↓gm_20, ↓gm_21, ↓gm_22, ↓gm_23, ↓gm_24, ↓gm_25, ↓gm_26, ↓gm_27, ↓gm_28, ↓gm_29, ↓gm_30, ↓gm_31, ↓gm_32, ↓gm_33, ↓gm_34, ↓gm_35, ↓gm_36, ↓gm_37, ↓gm_38, ↓gm_39, ↓gm_40, ↓gm_41, ↓gm_42, ↓gm_43, ↓gm_44, ↓gm_45, ↓gm_46, ↓pm_1, ↓pm_2, ↓pm_8, ↓pm_9, ↓pm_10, ↓pm_11, ↓pm_12, ↓pm_13, ↓pm_14, ↓pm_16, ↓pm_18, ↓pm_21, ↓pm_22, ↓pm_23, ↓pm_24, ↓pm_25, ↓pm_26, ↓pm_28, ↓pm_31, ↓pm_35, ↓pm_36, ↓pm_37, ↓pm_38, ↓pm_40, ↓pm_43, ↓am_0, ↓wm_0, ↓am_3, ↓wm_3, ↓am_4, ↓wm_4, ↓am_5, ↓wm_5, ↓am_6, ↓wm_6, ↓am_7, ↓wm_7, ↓am_15, ↓wm_15, ↓am_17, ↓wm_17, ↓am_19, ↓wm_19, ↓am_20, ↓wm_20, ↓am_27, ↓wm_27, ↓am_29, ↓wm_29, ↓am_30, ↓wm_30, ↓am_32, ↓wm_32, ↓am_33, ↓wm_33, ↓am_34, ↓wm_34, ↓am_39, ↓wm_39, ↓am_41, ↓wm_41, ↓am_42, ↓wm_42, ↓am_44, ↓wm_44, ↓am_45, ↓wm_45, ↓am_46, ↓wm_46, ↓wn_0, ↓wn_46, or_false, false_or, rc_M, List.getElem?_cons_zero, List.getElem?_cons_succ, List.length_cons, List.length_nil, List.set_cons_zero, List.set_cons_succ, true_and, and_true, Option.toList_some, Option.toList_none, List.cons_append, List.nil_append, ↓reduceIte, not_false_eq_true, not_true_eq_false, Nat.reduceAdd, xj0_01, xj1_01, xb_B, xb_True, xb_False, ↓xj_in, xj_nat, Int.toNat_natCast, xj_lt_t, xj_lt_f, xj_le_t, xj_le_f, xj_eq_t, xj_eq_f, xj_lt, xj_le, xj_eq, xj_add, xj_sub, xj_mul, show ¬ xj 1 = xj 0 from by decide, tn_add, tn_mul, tn_sub, Int.toNat_natCast, Int.reduceToNat, mS_S, mS_So, mS_A, mS_J, mA_A, mA_Ao, mA_S, mA_J, mJ_J, mJ_Jo, mJ_S, mJ_A, sS_S, sA_A, sS_A, sS_J, sJ_A, g1, hx2, ei]
          exact nx
      · have hb : ¬ (91 ∈ σ) := fun q => by
          obtain ⟨j, h4, h5⟩ := sg_1 g3 q
          exact h3 j (by omega) h5
        rw [b167_2]
        simp (disch := omega) only [b167_3, b167_4, b167_7, b167_10, b167_11, b167_14, b167_15, b167_16, b167_18, b167_21, b167_22, b167_23, b167_26, b167_29, b167_30, b167_22o, b167_22z, b167_22c, b167_30o, b167_30z, b167_30c, ↓gm_0, ↓gm_1, ↓gm_2, ↓gm_3, ↓gm_4, ↓gm_5, ↓gm_6, ↓gm_7, ↓gm_8, ↓gm_9, ↓gm_10, ↓gm_11, ↓gm_12, ↓gm_13, ↓gm_14, ↓gm_15, ↓gm_16, ↓gm_17, ↓gm_18, ↓gm_19, ↓gm_20, ↓gm_21, ↓gm_22, ↓gm_23, ↓gm_24, ↓gm_25, ↓gm_26, ↓gm_27, ↓gm_28, ↓gm_29, ↓gm_30, ↓gm_31, ↓gm_32, ↓gm_33, ↓gm_34, ↓gm_35, ↓gm_36, ↓gm_37, ↓gm_38, ↓gm_39, ↓gm_40, ↓gm_41, ↓gm_42, ↓gm_43, ↓gm_44, ↓gm_45, ↓gm_46, ↓pm_1, ↓pm_2, ↓pm_8, ↓pm_9, ↓pm_10, ↓pm_11, ↓pm_12, ↓pm_13, ↓pm_14, ↓pm_16, ↓pm_18, ↓pm_21, ↓pm_22, ↓pm_23, ↓pm_24, ↓pm_25, ↓pm_26, ↓pm_28, ↓pm_31, ↓pm_35, ↓pm_36, ↓pm_37, ↓pm_38, ↓pm_40, ↓pm_43, ↓am_0, ↓wm_0, ↓am_3, ↓wm_3, ↓am_4, ↓wm_4, ↓am_5, ↓wm_5, ↓am_6, ↓wm_6, ↓am_7, ↓wm_7, ↓am_15, ↓wm_15, ↓am_17, ↓wm_17, ↓am_19, ↓wm_19, ↓am_20, ↓wm_20, ↓am_27, ↓wm_27, ↓am_29, ↓wm_29, ↓am_30, ↓wm_30, ↓am_32, ↓wm_32, ↓am_33, ↓wm_33, ↓am_34, ↓wm_34, ↓am_39, ↓wm_39, ↓am_41, ↓wm_41, ↓am_42, ↓wm_42, ↓am_44, ↓wm_44, ↓am_45, ↓wm_45, ↓am_46, ↓wm_46, ↓wn_0, ↓wn_46, or_false, false_or, rc_M, List.getElem?_cons_zero, List.getElem?_cons_succ, List.length_cons, List.length_nil, List.set_cons_zero, List.set_cons_succ, true_and, and_true, Option.toList_some, Option.toList_none, List.cons_append, List.nil_append, ↓reduceIte, not_false_eq_true, not_true_eq_false, Nat.reduceAdd, xj0_01, xj1_01, xb_B, xb_True, xb_False, ↓xj_in, xj_nat, Int.toNat_natCast, xj_lt_t, xj_lt_f, xj_le_t, xj_le_f, xj_eq_t, xj_eq_f, xj_lt, xj_le, xj_eq, xj_add, xj_sub, xj_mul, show ¬ xj 1 = xj 0 from by decide, tn_add, tn_mul, tn_sub, Int.toNat_natCast, Int.reduceToNat, g1, xb_F hb]
  have l0 := lp σ.length 0 (by omega) (by omega) (fun j q => by omega)
  simp (disch := omega) only [b167_0, b167_1, List.getElem?_cons_zero, List.getElem?_cons_succ, List.length_cons, List.length_nil, List.set_cons_zero, List.set_cons_succ, true_and, and_true, Option.toList_some, Option.toList_none, List.cons_append, List.nil_append, ↓reduceIte, not_false_eq_true, not_true_eq_false, Nat.reduceAdd, xj0_01, xj1_01, xb_B, xb_True, xb_False]
  exact l0
theorem u_set2 {a wt : Bool} {ms : List St} (hD : 2 ≤ D) (hp : rP R T n t (p, c, ms)) (hg : sgR R (pnS a wt ++ σ)) (ht : tpS σ) (hl : σ.length < 398) (hr : ms.length < 400) (hK : ∀ R', frX t R R' → rP R' T n t (p, c, ms ++ (if a = true then [(12, 0)] else [])) → sgR R' (pnS false wt ++ σ) → mS R' 8 = mS R 8 → K none (xm f b R', w)) : xk_Cl D 161 [.ref b, .int (xj 2)] (xm f b R, w) K := by
  rw [e161 (by omega)]
  have hl2 : (pnS false wt ++ σ).length ≤ 399 := by rw [List.length_append]; cases wt <;> show _ + σ.length ≤ 399 <;> (try show 1 + σ.length ≤ 399) <;> (try show 0 + σ.length ≤ 399) <;> omega
  have en : ∀ R', sgR R' (pnS false wt ++ σ) → K none (xm f b R', w) → xk_B (D - 1) 161 0 [.ref b, .int (xj 2)] [] (xm f b R', w) K := fun R' g po => by
    have h := (b_settles_end (D := D - 1) (b := b) (k := 2) (f := f) (w := w) (K := K) (R := R') (by omega) g (by omega) (by omega) (fun y τ e => by
      cases wt
      · rcases ht with h | ⟨τ', h⟩
        · rw [h] at e; exact absurd e (by intro q; cases q)
        · rw [h] at e
          have e : 91 :: τ' = y :: τ := e
          cases e
          exact ⟨by decide, by decide⟩
      · have e : 13 :: σ = y :: τ := e
        cases e
        exact ⟨by decide, by decide⟩)).2 po
    exact h
  cases a
  · refine en R hg (hK R (frX_r t R) ?_ hg rfl)
    show rP R T n t (p, c, ms ++ [])
    rw [List.append_nil]
    exact hp
  · have hg : sgR R (12 :: (pnS false wt ++ σ)) := by cases wt <;> exact hg
    refine b_settles_go (y := 12) (s := (p, c, ms)) (k := 2) (by omega) hp hg (by omega) (by omega) (by omega) (by decide) hr (fun R' f1 p1 g1 e8 => ?_)
    exact en R' g1 (hK R' f1 p1 g1 e8)
theorem u_set1 {a wt : Bool} {ms : List St} (hD : 2 ≤ D) (hp : rP R T n t (p, c, ms)) (hg : sgR R (pnS a wt ++ σ)) (ht : tpS σ) (hl : σ.length < 398) (hr : (ms ++ (if a = true then [(12, 0)] else [])).length < 400) (hK : ∀ R', frX t R R' → rP R' T n t (p, c, (ms ++ (if a = true then [(12, 0)] else [])) ++ (if wt = true then [(13, 0)] else [])) → sgR R' σ → mS R' 8 = mS R 8 → K none (xm f b R', w)) : xk_Cl D 161 [.ref b, .int (xj 1)] (xm f b R, w) K := by
  rw [e161 (by omega)]
  have en : ∀ R', sgR R' σ → K none (xm f b R', w) → xk_B (D - 1) 161 0 [.ref b, .int (xj 1)] [] (xm f b R', w) K := fun R' g po => by
    have h := (b_settles_end (D := D - 1) (b := b) (k := 1) (f := f) (w := w) (K := K) (R := R') (by omega) g (by omega) (by omega) (fun y τ e => by
      rcases ht with h | ⟨τ', h⟩
      · rw [h] at e; exact absurd e (by intro q; cases q)
      · rw [h] at e
        cases e
        exact ⟨by decide, by decide⟩)).2 po
    exact h
  have st2 : ∀ R1 ms1, frX t R R1 → mS R1 8 = mS R 8 → ms1 = ms ++ (if a = true then [(12, 0)] else []) → rP R1 T n t (p, c, ms1) → sgR R1 (pnS false wt ++ σ) → xk_B (D - 1) 161 0 [.ref b, .int (xj 1)] [] (xm f b R1, w) K := by
    intro R1 ms1 f1 e1 hm p1 g1
    have hm1 : ms1.length < 400 := by rw [hm]; exact hr
    cases wt
    · refine en R1 g1 (hK R1 f1 ?_ g1 e1)
      show rP R1 T n t (p, c, (ms ++ _) ++ [])
      rw [List.append_nil, ← hm]
      exact p1
    · have g1 : sgR R1 (13 :: σ) := g1
      refine b_settles_go (y := 13) (s := (p, c, ms1)) (k := 1) (by omega) p1 g1 (by omega) (by omega) (by omega) (by decide) hm1 (fun R' f2 p2 g2 e8 => ?_)
      rw [hm] at p2
      exact en R' g2 (hK R' (frX_t f1 f2) p2 g2 (by rw [e8, e1]))
  cases a
  · refine st2 R ms (frX_r t R) rfl ?_ hp hg
    show ms = ms ++ []
    rw [List.append_nil]
  · have hg : sgR R (12 :: (pnS false wt ++ σ)) := by cases wt <;> exact hg
    have hl2 : (pnS false wt ++ σ).length < 400 := by rw [List.length_append]; cases wt <;> (try show 1 + σ.length < 400) <;> (try show 0 + σ.length < 400) <;> omega
    refine b_settles_go (y := 12) (s := (p, c, ms)) (k := 1) (by omega) hp hg hl2 (by omega) (by omega) (by decide) (by show ms.length < 400; have := hr; rw [List.length_append] at this; omega) (fun R' f1 p1 g1 e8 => ?_)
    exact st2 R' _ f1 e8 rfl p1 g1
end XS79
