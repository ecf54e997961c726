/-! the model signs by rules: choosing, by, waits -/
theorem w63 {O : Of} (hw : xw_Off O) (d : Dy) : smF (fun p => (63 : Nat).testBit p && inTF O d p) (of_wo O) (of_np O) = wtF O d := by
  have hn := hw.2.2.2.1
  refine smF_ext _ (fun i hi => ?_) (fun _ _ => rfl)
  have : (63 : Nat).testBit i = true := by
    have := Nat.testBit_two_pow_sub_one 6 i
    rw [show (2 ^ 6 - 1 : Nat) = 63 from rfl] at this
    rw [this]; simp; omega
  rw [this, Bool.true_and]
section XS68
variable {D b k p q s n t : Nat} {f g : Nat → xk_C} {w : Nat × Nat × Nat} {K : Option Value → xk_S → Prop} {O : Of} {L : Lg} {d : Dy} {R : Md} {x y z : Int} {u v : Int64} {ru : Ru}
theorem u_nextBy (hD : 5 ≤ D) (ht : t < 6) (hr : rK R O d) (hru : rRu R t ru) (hpost : ∀ R', frN R R' → K (some (.int (xj (nbF O d ru (of_np O)).1))) (xm f b R', w)) : xk_Cl D 218 [.ref b, .int (xj t)] (xm f b R, w) K := by
  rw [e218 (by omega)]
  have hn := hr.1.2.2.2.1
  simp only [b218_0, b218_1, b218_2, b218_3, b218_4, b218_5]
  have loop : ∀ (m j : Nat) (R' : Md) (l6 l7 : Value), j + m = of_np O → frN R R' → xk_B (D - 1) 218 7 [.ref b, .int (xj t), .int (xj (nbF O d ru j).1), .long (nbF O d ru j).2, xk_dd, .int (xj j), l6, l7] [] (xm f b R', w) K := by
    intro m
    induction m with
    | zero =>
      intro j R' l6 l7 hj fr
      have hj : j = of_np O := by omega
      subst hj
      have po := hpost R' fr
      have hr' : rK R' O d := rK_of (fr.2 20) hr
      have o5 := hr'.2.2.1.2.2.2.2.2.1
      simp (disch := omega) only [b218_7, b218_9, b218_10, b218_13, b218_14, b218_15, b218_65, b218_66, ↓gm_0, ↓gm_1, ↓gm_2, ↓gm_3, ↓gm_4, ↓gm_5, ↓gm_6, ↓gm_7, ↓gm_8, ↓gm_9, ↓gm_10, ↓gm_11, ↓gm_12, ↓gm_13, ↓gm_14, ↓gm_15, ↓gm_16, ↓gm_17, ↓gm_18, ↓gm_19, ↓gm_20, ↓gm_21, ↓gm_22, ↓gm_23, ↓gm_24, ↓gm_25, ↓gm_26, ↓gm_27, ↓gm_28, ↓gm_29, ↓gm_30, ↓gm_31, ↓gm_32, ↓gm_33, ↓gm_34, ↓gm_35, ↓gm_36, ↓gm_37, ↓gm_38, ↓gm_39, ↓gm_40, ↓gm_41, ↓gm_42, ↓gm_43, ↓gm_44, ↓gm_45, ↓gm_46, ↓pm_1, ↓pm_2, ↓pm_8, ↓pm_9, ↓pm_10, ↓pm_11, ↓pm_12, ↓pm_13, ↓pm_14, ↓pm_16, ↓pm_18, ↓pm_21, ↓pm_22, ↓pm_23, ↓pm_24, ↓pm_25, ↓pm_26, ↓pm_28, ↓pm_31, ↓pm_35, ↓pm_36, ↓pm_37, ↓pm_38, ↓pm_40, ↓pm_43, ↓am_0, ↓wm_0, ↓am_3, ↓wm_3, ↓am_4, ↓wm_4, ↓am_5, ↓wm_5, ↓am_6, ↓wm_6, ↓am_7, ↓wm_7, ↓am_15, ↓wm_15, ↓am_17, ↓wm_17, ↓am_19, ↓wm_19, ↓am_20, ↓wm_20, ↓am_27, ↓wm_27, ↓am_29, ↓wm_29, ↓am_30, ↓wm_30, ↓am_32, ↓wm_32, ↓am_33, ↓wm_33, ↓am_34, ↓wm_34, ↓am_39, ↓wm_39, ↓am_41, ↓wm_41, ↓am_42, ↓wm_42, ↓am_44, ↓wm_44, ↓am_45, ↓wm_45, ↓am_46, ↓wm_46, ↓wn_0, ↓wn_46, or_false, false_or, rc_M, List.getElem?_cons_zero, List.getElem?_cons_succ, List.length_cons, List.length_nil, List.set_cons_zero, List.set_cons_succ, true_and, and_true, Option.toList_some, Option.toList_none, List.cons_append, List.nil_append, ↓reduceIte, not_false_eq_true, not_true_eq_false, Nat.reduceAdd, xj0_01, xj1_01, xb_B, xb_True, xb_False, ↓xj_in, xj_nat, Int.toNat_natCast, xj_lt_t, xj_lt_f, xj_le_t, xj_le_f, xj_eq_t, xj_eq_f, xj_lt, xj_le, xj_eq, xj_add, xj_sub, xj_mul, show ¬ xj 1 = xj 0 from by decide, tn_add, tn_mul, tn_sub, Int.toNat_natCast, Int.reduceToNat, o5]
      exact po
    | succ m ihm =>
      intro j R' l6 l7 hj fr
      have hjn : j < of_np O := by omega
      have hr' : rK R' O d := rK_of (fr.2 20) hr
      have o5 := hr'.2.2.1.2.2.2.2.2.1
      have e : nbF O d ru (j + 1) = if canF O d j = true ∧ (nbF O d ru j).2 < rvF (wdF O d j) ru then ((j : Int), rvF (wdF O d j) ru) else nbF O d ru j := rfl
      have hrc : rK (canR R' O d j) O d := rK_can hr'
      rw [b218_7]
      cases hc : canF O d j
      · have nx := ihm (j + 1) (canR R' O d j) l6 l7 (by omega) (frN_t fr frN_can)
        rw [e, if_neg (fun q => by rw [hc] at q; cases q.1)] at nx
        simp (disch := omega) only [b218_9, b218_10, b218_13, b218_14, b218_15, b218_18, b218_19, b218_21, b218_24, b218_27, b218_59, b218_62, ↓gm_0, ↓gm_1, ↓gm_2, ↓gm_3, ↓gm_4, ↓gm_5, ↓gm_6, ↓gm_7, ↓gm_8, ↓gm_9, ↓gm_10, ↓gm_11, ↓gm_12, ↓gm_13, ↓gm_14, ↓gm_15, ↓gm_16, ↓gm_17, ↓gm_18, ↓gm_19, ↓gm_20, ↓gm_21, ↓gm_22, ↓gm_23, ↓gm_24, ↓gm_25, ↓gm_26, ↓gm_27, ↓gm_28, ↓gm_29, ↓gm_30, ↓gm_31, ↓gm_32, ↓gm_33, ↓gm_34, ↓gm_35, ↓gm_36, ↓gm_37, ↓gm_38, ↓gm_39, ↓gm_40, ↓gm_41, ↓gm_42, ↓gm_43, ↓gm_44, ↓gm_45, ↓gm_46, ↓pm_1, ↓pm_2, ↓pm_8, ↓pm_9, ↓pm_10, ↓pm_11, ↓pm_12, ↓pm_13, ↓pm_14, ↓pm_16, ↓pm_18, ↓pm_21, ↓pm_22, ↓pm_23, ↓pm_24, ↓pm_25, ↓pm_26, ↓pm_28, ↓pm_31, ↓pm_35, ↓pm_36, ↓pm_37, ↓pm_38, ↓pm_40, ↓pm_43, ↓am_0, ↓wm_0, ↓am_3, ↓wm_3, ↓am_4, ↓wm_4, ↓am_5, ↓wm_5, ↓am_6, ↓wm_6, ↓am_7, ↓wm_7, ↓am_15, ↓wm_15, ↓am_17, ↓wm_17, ↓am_19, ↓wm_19, ↓am_20, ↓wm_20, ↓am_27, ↓wm_27, ↓am_29, ↓wm_29, ↓am_30, ↓wm_30, ↓am_32, ↓wm_32, ↓am_33, ↓wm_33, ↓am_34, ↓wm_34, ↓am_39, ↓wm_39, ↓am_41, ↓wm_41, ↓am_42, ↓wm_42, ↓am_44, ↓wm_44, ↓am_45, ↓wm_45, ↓am_46, ↓wm_46, ↓wn_0, ↓wn_46, or_false, false_or, rc_M, List.getElem?_cons_zero, List.getElem?_cons_succ, List.length_cons, List.length_nil, List.set_cons_zero, List.set_cons_succ, true_and, and_true, Option.toList_some, Option.toList_none, List.cons_append, List.nil_append, ↓reduceIte, not_false_eq_true, not_true_eq_false, Nat.reduceAdd, xj0_01, xj1_01, xb_B, xb_True, xb_False, ↓xj_in, xj_nat, Int.toNat_natCast, xj_lt_t, xj_lt_f, xj_le_t, xj_le_f, xj_eq_t, xj_eq_f, xj_lt, xj_le, xj_eq, xj_add, xj_sub, xj_mul, show ¬ xj 1 = xj 0 from by decide, tn_add, tn_mul, tn_sub, Int.toNat_natCast, Int.reduceToNat, o5, m_canSign _ hr', hc, Bool.false_eq_true, xb_F]
        exact nx
      · have h23 : mS (reckR R' O d j) 23 = beginF O d j := by unfold reckR; simp (disch := omega) only [mS_S, mS_So, mS_A, mS_J, mA_A, mA_Ao, mA_S, mA_J, mJ_J, mJ_Jo, mJ_S, mJ_A, sS_S, sA_A, sS_A, sS_J, sJ_A]
        have hk : rK (reckR R' O d j) O d := hr'
        simp (disch := omega) only [b218_9, b218_10, b218_13, b218_14, b218_15, b218_18, b218_19, b218_21, b218_24, b218_27, b218_30, b218_31, ↓gm_0, ↓gm_1, ↓gm_2, ↓gm_3, ↓gm_4, ↓gm_5, ↓gm_6, ↓gm_7, ↓gm_8, ↓gm_9, ↓gm_10, ↓gm_11, ↓gm_12, ↓gm_13, ↓gm_14, ↓gm_15, ↓gm_16, ↓gm_17, ↓gm_18, ↓gm_19, ↓gm_20, ↓gm_21, ↓gm_22, ↓gm_23, ↓gm_24, ↓gm_25, ↓gm_26, ↓gm_27, ↓gm_28, ↓gm_29, ↓gm_30, ↓gm_31, ↓gm_32, ↓gm_33, ↓gm_34, ↓gm_35, ↓gm_36, ↓gm_37, ↓gm_38, ↓gm_39, ↓gm_40, ↓gm_41, ↓gm_42, ↓gm_43, ↓gm_44, ↓gm_45, ↓gm_46, ↓pm_1, ↓pm_2, ↓pm_8, ↓pm_9, ↓pm_10, ↓pm_11, ↓pm_12, ↓pm_13, ↓pm_14, ↓pm_16, ↓pm_18, ↓pm_21, ↓pm_22, ↓pm_23, ↓pm_24, ↓pm_25, ↓pm_26, ↓pm_28, ↓pm_31, ↓pm_35, ↓pm_36, ↓pm_37, ↓pm_38, ↓pm_40, ↓pm_43, ↓am_0, ↓wm_0, ↓am_3, ↓wm_3, ↓am_4, ↓wm_4, ↓am_5, ↓wm_5, ↓am_6, ↓wm_6, ↓am_7, ↓wm_7, ↓am_15, ↓wm_15, ↓am_17, ↓wm_17, ↓am_19, ↓wm_19, ↓am_20, ↓wm_20, ↓am_27, ↓wm_27, ↓am_29, ↓wm_29, ↓am_30, ↓wm_30, ↓am_32, ↓wm_32, ↓am_33, ↓wm_33, ↓am_34, ↓wm_34, ↓am_39, ↓wm_39, ↓am_41, ↓wm_41, ↓am_42, ↓wm_42, ↓am_44, ↓wm_44, ↓am_45, ↓wm_45, ↓am_46, ↓wm_46, ↓wn_0, ↓wn_46, or_false, false_or, rc_M, List.getElem?_cons_zero, List.getElem?_cons_succ, List.length_cons, List.length_nil, List.set_cons_zero, List.set_cons_succ, true_and, and_true, Option.toList_some, Option.toList_none, List.cons_append, List.nil_append, ↓reduceIte, not_false_eq_true, not_true_eq_false, Nat.reduceAdd, xj0_01, xj1_01, xb_B, xb_True, xb_False, ↓xj_in, xj_nat, Int.toNat_natCast, xj_lt_t, xj_lt_f, xj_le_t, xj_le_f, xj_eq_t, xj_eq_f, xj_lt, xj_le, xj_eq, xj_add, xj_sub, xj_mul, show ¬ xj 1 = xj 0 from by decide, tn_add, tn_mul, tn_sub, Int.toNat_natCast, Int.reduceToNat, o5, m_canSign _ hr', hc, xb_T, can_reck hjn hc]
        rw [b218_33, rc_M, true_and]
        refine u_words (by omega) hk hjn h23 (fun R2 s2 a2 j2 => ?_)
        have f2 : frN R R2 := frN_t fr (frN_t frN_reck ⟨fun j _ => s2 j, a2⟩)
        simp (disch := omega) only [b218_36, b218_37, ↓gm_0, ↓gm_1, ↓gm_2, ↓gm_3, ↓gm_4, ↓gm_5, ↓gm_6, ↓gm_7, ↓gm_8, ↓gm_9, ↓gm_10, ↓gm_11, ↓gm_12, ↓gm_13, ↓gm_14, ↓gm_15, ↓gm_16, ↓gm_17, ↓gm_18, ↓gm_19, ↓gm_20, ↓gm_21, ↓gm_22, ↓gm_23, ↓gm_24, ↓gm_25, ↓gm_26, ↓gm_27, ↓gm_28, ↓gm_29, ↓gm_30, ↓gm_31, ↓gm_32, ↓gm_33, ↓gm_34, ↓gm_35, ↓gm_36, ↓gm_37, ↓gm_38, ↓gm_39, ↓gm_40, ↓gm_41, ↓gm_42, ↓gm_43, ↓gm_44, ↓gm_45, ↓gm_46, ↓pm_1, ↓pm_2, ↓pm_8, ↓pm_9, ↓pm_10, ↓pm_11, ↓pm_12, ↓pm_13, ↓pm_14, ↓pm_16, ↓pm_18, ↓pm_21, ↓pm_22, ↓pm_23, ↓pm_24, ↓pm_25, ↓pm_26, ↓pm_28, ↓pm_31, ↓pm_35, ↓pm_36, ↓pm_37, ↓pm_38, ↓pm_40, ↓pm_43, ↓am_0, ↓wm_0, ↓am_3, ↓wm_3, ↓am_4, ↓wm_4, ↓am_5, ↓wm_5, ↓am_6, ↓wm_6, ↓am_7, ↓wm_7, ↓am_15, ↓wm_15, ↓am_17, ↓wm_17, ↓am_19, ↓wm_19, ↓am_20, ↓wm_20, ↓am_27, ↓wm_27, ↓am_29, ↓wm_29, ↓am_30, ↓wm_30, ↓am_32, ↓wm_32, ↓am_33, ↓wm_33, ↓am_34, ↓wm_34, ↓am_39, ↓wm_39, ↓am_41, ↓wm_41, ↓am_42, ↓wm_42, ↓am_44, ↓wm_44, ↓am_45, ↓wm_45, ↓am_46, ↓wm_46, ↓wn_0, ↓wn_46, or_false, false_or, rc_M, List.getElem?_cons_zero, List.getElem?_cons_succ, List.length_cons, List.length_nil, List.set_cons_zero, List.set_cons_succ, true_and, and_true, Option.toList_some, Option.toList_none, List.cons_append, List.nil_append, ↓reduceIte, not_false_eq_true, not_true_eq_false, Nat.reduceAdd, xj0_01, xj1_01, xb_B, xb_True, xb_False, ↓xj_in, xj_nat, Int.toNat_natCast, xj_lt_t, xj_lt_f, xj_le_t, xj_le_f, xj_eq_t, xj_eq_f, xj_lt, xj_le, xj_eq, xj_add, xj_sub, xj_mul, show ¬ xj 1 = xj 0 from by decide]
        rw [b218_38, rc_M, true_and]
        refine u_summedBy (wd := wdF O d j) (by omega) ht j2 (rRu_ext (f2.2 3) (f2.2 5) (f2.2 6) hru) (fun R3 f3 => ?_)
        have nx := ihm (j + 1) R3 (.long (rvF (wdF O d j) ru)) xk_dd (by omega) (frN_t f2 (frS_N f3))
        rw [e] at nx
        by_cases c : (nbF O d ru j).2 < rvF (wdF O d j) ru
        · rw [if_pos ⟨hc, c⟩] at nx
          simp (disch := omega) only [b218_41, b218_43, b218_45, b218_46, b218_47, b218_50, b218_53, b218_55, b218_56, b218_58, b218_59, b218_62, ↓gm_0, ↓gm_1, ↓gm_2, ↓gm_3, ↓gm_4, ↓gm_5, ↓gm_6, ↓gm_7, ↓gm_8, ↓gm_9, ↓gm_10, ↓gm_11, ↓gm_12, ↓gm_13, ↓gm_14, ↓gm_15, ↓gm_16, ↓gm_17, ↓gm_18, ↓gm_19, ↓gm_20, ↓gm_21, ↓gm_22, ↓gm_23, ↓gm_24, ↓gm_25, ↓gm_26, ↓gm_27, ↓gm_28, ↓gm_29, ↓gm_30, ↓gm_31, ↓gm_32, ↓gm_33, ↓gm_34, ↓gm_35, ↓gm_36, ↓gm_37, ↓gm_38, ↓gm_39, ↓gm_40, ↓gm_41, ↓gm_42, ↓gm_43, ↓gm_44, ↓gm_45, ↓gm_46, ↓pm_1, ↓pm_2, ↓pm_8, ↓pm_9, ↓pm_10, ↓pm_11, ↓pm_12, ↓pm_13, ↓pm_14, ↓pm_16, ↓pm_18, ↓pm_21, ↓pm_22, ↓pm_23, ↓pm_24, ↓pm_25, ↓pm_26, ↓pm_28, ↓pm_31, ↓pm_35, ↓pm_36, ↓pm_37, ↓pm_38, ↓pm_40, ↓pm_43, ↓am_0, ↓wm_0, ↓am_3, ↓wm_3, ↓am_4, ↓wm_4, ↓am_5, ↓wm_5, ↓am_6, ↓wm_6, ↓am_7, ↓wm_7, ↓am_15, ↓wm_15, ↓am_17, ↓wm_17, ↓am_19, ↓wm_19, ↓am_20, ↓wm_20, ↓am_27, ↓wm_27, ↓am_29, ↓wm_29, ↓am_30, ↓wm_30, ↓am_32, ↓wm_32, ↓am_33, ↓wm_33, ↓am_34, ↓wm_34, ↓am_39, ↓wm_39, ↓am_41, ↓wm_41, ↓am_42, ↓wm_42, ↓am_44, ↓wm_44, ↓am_45, ↓wm_45, ↓am_46, ↓wm_46, ↓wn_0, ↓wn_46, or_false, false_or, rc_M, List.getElem?_cons_zero, List.getElem?_cons_succ, List.length_cons, List.length_nil, List.set_cons_zero, List.set_cons_succ, true_and, and_true, Option.toList_some, Option.toList_none, List.cons_append, List.nil_append, ↓reduceIte, not_false_eq_true, not_true_eq_false, Nat.reduceAdd, xj0_01, xj1_01, xb_B, xb_True, xb_False, ↓xj_in, xj_nat, Int.toNat_natCast, xj_lt_t, xj_lt_f, xj_le_t, xj_le_f, xj_eq_t, xj_eq_f, xj_lt, xj_le, xj_eq, xj_add, xj_sub, xj_mul, show ¬ xj 1 = xj 0 from by decide, lc_gt, c]
          exact nx
        · rw [if_neg (fun q => c q.2)] at nx
          simp (disch := omega) only [b218_41, b218_43, b218_45, b218_46, b218_47, b218_50, b218_53, b218_55, b218_56, b218_58, b218_59, b218_62, ↓gm_0, ↓gm_1, ↓gm_2, ↓gm_3, ↓gm_4, ↓gm_5, ↓gm_6, ↓gm_7, ↓gm_8, ↓gm_9, ↓gm_10, ↓gm_11, ↓gm_12, ↓gm_13, ↓gm_14, ↓gm_15, ↓gm_16, ↓gm_17, ↓gm_18, ↓gm_19, ↓gm_20, ↓gm_21, ↓gm_22, ↓gm_23, ↓gm_24, ↓gm_25, ↓gm_26, ↓gm_27, ↓gm_28, ↓gm_29, ↓gm_30, ↓gm_31, ↓gm_32, ↓gm_33, ↓gm_34, ↓gm_35, ↓gm_36, ↓gm_37, ↓gm_38, ↓gm_39, ↓gm_40, ↓gm_41, ↓gm_42, ↓gm_43, ↓gm_44, ↓gm_45, ↓gm_46, ↓pm_1, ↓pm_2, ↓pm_8, ↓pm_9, ↓pm_10, ↓pm_11, ↓pm_12, ↓pm_13, ↓pm_14, ↓pm_16, ↓pm_18, ↓pm_21, ↓pm_22, ↓pm_23, ↓pm_24, ↓pm_25, ↓pm_26, ↓pm_28, ↓pm_31, ↓pm_35, ↓pm_36, ↓pm_37, ↓pm_38, ↓pm_40, ↓pm_43, ↓am_0, ↓wm_0, ↓am_3, ↓wm_3, ↓am_4, ↓wm_4, ↓am_5, ↓wm_5, ↓am_6, ↓wm_6, ↓am_7, ↓wm_7, ↓am_15, ↓wm_15, ↓am_17, ↓wm_17, ↓am_19, ↓wm_19, ↓am_20, ↓wm_20, ↓am_27, ↓wm_27, ↓am_29, ↓wm_29, ↓am_30, ↓wm_30, ↓am_32, ↓wm_32, ↓am_33, ↓wm_33, ↓am_34, ↓wm_34, ↓am_39, ↓wm_39, ↓am_41, ↓wm_41, ↓am_42, ↓wm_42, ↓am_44, ↓wm_44, ↓am_45, ↓wm_45, ↓am_46, ↓wm_46, ↓wn_0, ↓wn_46, or_false, false_or, rc_M, List.getElem?_cons_zero, List.getElem?_cons_succ, List.length_cons, List.length_nil, List.set_cons_zero, List.set_cons_succ, true_and, and_true, Option.toList_some, Option.toList_none, List.cons_append, List.nil_append, ↓reduceIte, not_false_eq_true, not_true_eq_false, Nat.reduceAdd, xj0_01, xj1_01, xb_B, xb_True, xb_False, ↓xj_in, xj_nat, Int.toNat_natCast, xj_lt_t, xj_lt_f, xj_le_t, xj_le_f, xj_eq_t, xj_eq_f, xj_lt, xj_le, xj_eq, xj_add, xj_sub, xj_mul, show ¬ xj 1 = xj 0 from by decide, lc_gt, c]
          exact nx
  exact loop (of_np O) 0 R xk_dd xk_dd (Nat.zero_add _) (frN_r R)
def frB (R R' : Md) : Prop := (∀ j, (j < 18 ∨ (18 < j ∧ j < 23) ∨ (26 < j ∧ j ≠ 31)) → mS R' j = mS R j) ∧ (∀ j, (j ≠ 20 ∧ j ≠ 30) → mA R' j = mA R j) ∧ ∀ i, (i < 10 ∨ 32 ≤ i) → mA R' 20 i = mA R 20 i
theorem frB_t {R R' R'' : Md} (h : frB R R') (h' : frB R' R'') : frB R R'' := ⟨fun j q => (h'.1 j q).trans (h.1 j q), fun j q => (h'.2.1 j q).trans (h.2.1 j q), fun j q => (h'.2.2 j q).trans (h.2.2 j q)⟩
theorem frN_B {R R' : Md} (h : frN R R') : frB R R' := ⟨fun j q => h.1 j (by omega), fun j _ => h.2 j, fun i _ => by rw [h.2]⟩
theorem frB_T {R R' : Md} (h : frB R R') : frT R R' := ⟨fun j q => h.1 j (by omega), fun j q => h.2.1 j (by omega), h.2.2⟩
theorem nb_full {O : Of} {d : Dy} {ru : Ru} (h : of_np O ≤ sgnN O d) : (nbF O d ru (of_np O)).1 < 0 := by
  have key : ∀ n, n ≤ of_np O → nbF O d ru n = (-1, 0) := by
    intro n
    induction n with
    | zero => intro _; rfl
    | succ n ih =>
      intro hn
      unfold nbF
      rw [can_full h (show n < of_np O by omega), if_neg (fun q => by cases q.1)]
      exact ih (by omega)
  rw [key _ (Nat.le_refl _)]
  decide
theorem u_signsBy (hD : 7 ≤ D) (ht : t < 6) (hr : rK R O d) (h22 : mS R 22 = 63) (hru : rRu R t ru) (hpost : ∀ R', frB R R' → rK R' O (byF O ru 6 d 0 row0).1 → mS R' 31 = ((byF O ru 6 d 0 row0).2.1 : Nat) → (byF O ru 6 d 0 row0).2.1 ≤ 6 → (∀ i, i < (byF O ru 6 d 0 row0).2.1 → mA R' 30 i = (byF O ru 6 d 0 row0).2.2 i) → (∀ i, i < (byF O ru 6 d 0 row0).2.1 → 0 ≤ (byF O ru 6 d 0 row0).2.2 i ∧ (byF O ru 6 d 0 row0).2.2 i < of_np O ∧ (byF O ru 6 d 0 row0).1.2.2.2.2.1.testBit ((byF O ru 6 d 0 row0).2.2 i).toNat = true) → K none (xm f b R', w)) : xk_Cl D 219 [.ref b, .int (xj t)] (xm f b R, w) K := by
  rw [e219 (by omega)]
  have hw := hr.1
  have hn := hw.2.2.2.1
  simp (disch := omega) only [b219_0, b219_1, b219_2, b219_5, b219_6, ↓gm_0, ↓gm_1, ↓gm_2, ↓gm_3, ↓gm_4, ↓gm_5, ↓gm_6, ↓gm_7, ↓gm_8, ↓gm_9, ↓gm_10, ↓gm_11, ↓gm_12, ↓gm_13, ↓gm_14, ↓gm_15, ↓gm_16, ↓gm_17, ↓gm_18, ↓gm_19, ↓gm_20, ↓gm_21, ↓gm_22, ↓gm_23, ↓gm_24, ↓gm_25, ↓gm_26, ↓gm_27, ↓gm_28, ↓gm_29, ↓gm_30, ↓gm_31, ↓gm_32, ↓gm_33, ↓gm_34, ↓gm_35, ↓gm_36, ↓gm_37, ↓gm_38, ↓gm_39, ↓gm_40, ↓gm_41, ↓gm_42, ↓gm_43, ↓gm_44, ↓gm_45, ↓gm_46, ↓pm_1, ↓pm_2, ↓pm_8, ↓pm_9, ↓pm_10, ↓pm_11, ↓pm_12, ↓pm_13, ↓pm_14, ↓pm_16, ↓pm_18, ↓pm_21, ↓pm_22, ↓pm_23, ↓pm_24, ↓pm_25, ↓pm_26, ↓pm_28, ↓pm_31, ↓pm_35, ↓pm_36, ↓pm_37, ↓pm_38, ↓pm_40, ↓pm_43, ↓am_0, ↓wm_0, ↓am_3, ↓wm_3, ↓am_4, ↓wm_4, ↓am_5, ↓wm_5, ↓am_6, ↓wm_6, ↓am_7, ↓wm_7, ↓am_15, ↓wm_15, ↓am_17, ↓wm_17, ↓am_19, ↓wm_19, ↓am_20, ↓wm_20, ↓am_27, ↓wm_27, ↓am_29, ↓wm_29, ↓am_30, ↓wm_30, ↓am_32, ↓wm_32, ↓am_33, ↓wm_33, ↓am_34, ↓wm_34, ↓am_39, ↓wm_39, ↓am_41, ↓wm_41, ↓am_42, ↓wm_42, ↓am_44, ↓wm_44, ↓am_45, ↓wm_45, ↓am_46, ↓wm_46, ↓wn_0, ↓wn_46, or_false, false_or, rc_M, List.getElem?_cons_zero, List.getElem?_cons_succ, List.length_cons, List.length_nil, List.set_cons_zero, List.set_cons_succ, true_and, and_true, Option.toList_some, Option.toList_none, List.cons_append, List.nil_append, ↓reduceIte, not_false_eq_true, not_true_eq_false, Nat.reduceAdd, xj0_01, xj1_01, xb_B, xb_True, xb_False, ↓xj_in, xj_nat, Int.toNat_natCast, xj_lt_t, xj_lt_f, xj_le_t, xj_le_f, xj_eq_t, xj_eq_f, xj_lt, xj_le, xj_eq, xj_add, xj_sub, xj_mul, show ¬ xj 1 = xj 0 from by decide]
  have loop : ∀ (n k : Nat) (d' : Dy) (row : Nat → Int) (R' : Md), k + n = 6 → frB R R' → rK R' O d' → k ≤ sgnN O d' → mS R' 31 = (k : Nat) → (∀ i, i < k → mA R' 30 i = row i) → (∀ i, i < k → 0 ≤ row i ∧ row i < of_np O ∧ d'.2.2.2.2.1.testBit (row i).toNat = true) → byF O ru n d' k row = byF O ru 6 d 0 row0 → xk_B (D - 1) 219 11 [.ref b, .int (xj t), .int (xj (nbF O d' ru (of_np O)).1)] [] (xm f b R', w) K := by
    intro n
    induction n with
    | zero =>
      intro k d' row R' hk fr hk' hsg h31 h30 hrow hby
      have hs6 : sgnN O d' ≤ of_np O := cnt_le _ _
      have hlt := nb_full (ru := ru) (show of_np O ≤ sgnN O d' by omega)
      have hrng := nbF_rng (O := O) (d := d') (ru := ru) (of_np O)
      have hby : (d', k, row) = byF O ru 6 d 0 row0 := hby
      have po := hpost R' fr
      rw [← hby] at po
      have po := po hk' h31 (by show k ≤ 6; omega) h30 hrow
      simp (disch := omega) only [b219_11, b219_12, b219_54, List.getElem?_cons_zero, List.getElem?_cons_succ, List.length_cons, List.length_nil, List.set_cons_zero, List.set_cons_succ, true_and, and_true, Option.toList_some, Option.toList_none, List.cons_append, List.nil_append, ↓reduceIte, not_false_eq_true, not_true_eq_false, Nat.reduceAdd, xj0_01, xj1_01, xb_B, xb_True, xb_False, ↓xj_in, xj_nat, Int.toNat_natCast, xj_lt_t, xj_lt_f, xj_le_t, xj_le_f, xj_eq_t, xj_eq_f, xj_lt, xj_le, xj_eq, xj_add, xj_sub, xj_mul, show ¬ xj 1 = xj 0 from by decide]
      exact po
    | succ n ih =>
      intro k d' row R' hk fr hk' hsg h31 h30 hrow hby
      have hrng := nbF_rng (O := O) (d := d') (ru := ru) (of_np O)
      have e : byF O ru (n + 1) d' k row = if (nbF O d' ru (of_np O)).1 < 0 then (d', k, row) else byF O ru n (writeD O d' (nbF O d' ru (of_np O)).1.toNat 63) (k + 1) (upI row k (nbF O d' ru (of_np O)).1) := rfl
      rw [e] at hby
      by_cases c : (nbF O d' ru (of_np O)).1 < 0
      · rw [if_pos c] at hby
        have po := hpost R' fr
        rw [← hby] at po
        have po := po hk' h31 (by show k ≤ 6; omega) h30 hrow
        simp (disch := omega) only [b219_11, b219_12, b219_54, List.getElem?_cons_zero, List.getElem?_cons_succ, List.length_cons, List.length_nil, List.set_cons_zero, List.set_cons_succ, true_and, and_true, Option.toList_some, Option.toList_none, List.cons_append, List.nil_append, ↓reduceIte, not_false_eq_true, not_true_eq_false, Nat.reduceAdd, xj0_01, xj1_01, xb_B, xb_True, xb_False, ↓xj_in, xj_nat, Int.toNat_natCast, xj_lt_t, xj_lt_f, xj_le_t, xj_le_f, xj_eq_t, xj_eq_f, xj_lt, xj_le, xj_eq, xj_add, xj_sub, xj_mul, show ¬ xj 1 = xj 0 from by decide]
        exact po
      · rw [if_neg c] at hby
        have hcan := hrng.2.2 (by omega)
        obtain ⟨p, hp⟩ : ∃ p : Nat, (nbF O d' ru (of_np O)).1 = p := ⟨(nbF O d' ru (of_np O)).1.toNat, by omega⟩
        rw [hp] at hby hcan hrng c ⊢
        rw [Int.toNat_natCast] at hby
        have hpn : p < of_np O := by omega
        have h22' : mS R' 22 = ((63 : Nat) : Int) := (fr.1 22 (by omega)).trans h22
        have hk2 : rK (reckR R' O d' p) O d' := hk'
        have hg := rG_reck (R := R') (O := O) (d := d') (p := p) h22' (by decide)
        have hk3 := rK_sign (q := 63) hk2 hpn hcan
        have hsg2 := sgn_up (q := 63) hpn hcan
        have h31' : mS (signR (reckR R' O d' p) O d' p 63) 31 = (k : Nat) := by rw [sg_S, rk_S (by omega)]; exact h31
        have fr3 : frB R (sS (sA (signR (reckR R' O d' p) O d' p 63) 30 (upI (mA R' 30) k p)) 31 (k + 1 : Nat)) := by
          refine frB_t fr ⟨fun j q => ?_, fun j q => ?_, fun i q => ?_⟩
          · rw [mS_So (by omega), mS_A, sg_S, rk_S (by omega)]
          · rw [mA_S, mA_Ao q.2]
            unfold signR
            rw [mA_Ao q.1]
            rfl
          · rw [mA_S, mA_Ao (by decide)]
            exact (frM_sign (R := reckR R' O d' p) (O := O) (d := d') (p := p) (q := 63) (by omega)).2.2.1 i q
        have hk4 : rK (sS (sA (signR (reckR R' O d' p) O d' p 63) 30 (upI (mA R' 30) k p)) 31 (k + 1 : Nat)) O (writeD O d' p 63) := rK_of (by rw [mA_S, mA_Ao (by decide)]) hk3
        have h30' : mA (signR (reckR R' O d' p) O d' p 63) 30 = mA R' 30 := by unfold signR; rw [mA_Ao (by decide)]; rfl
        rw [b219_11]
        simp (disch := omega) only [b219_12, b219_15, b219_16, b219_17, b219_20, b219_21, b219_22, b219_25, b219_26, b219_29, b219_30, b219_33, b219_34, b219_35, b219_36, b219_37, b219_40, b219_41, b219_42, b219_45, b219_46, ↓gm_0, ↓gm_1, ↓gm_2, ↓gm_3, ↓gm_4, ↓gm_5, ↓gm_6, ↓gm_7, ↓gm_8, ↓gm_9, ↓gm_10, ↓gm_11, ↓gm_12, ↓gm_13, ↓gm_14, ↓gm_15, ↓gm_16, ↓gm_17, ↓gm_18, ↓gm_19, ↓gm_20, ↓gm_21, ↓gm_22, ↓gm_23, ↓gm_24, ↓gm_25, ↓gm_26, ↓gm_27, ↓gm_28, ↓gm_29, ↓gm_30, ↓gm_31, ↓gm_32, ↓gm_33, ↓gm_34, ↓gm_35, ↓gm_36, ↓gm_37, ↓gm_38, ↓gm_39, ↓gm_40, ↓gm_41, ↓gm_42, ↓gm_43, ↓gm_44, ↓gm_45, ↓gm_46, ↓pm_1, ↓pm_2, ↓pm_8, ↓pm_9, ↓pm_10, ↓pm_11, ↓pm_12, ↓pm_13, ↓pm_14, ↓pm_16, ↓pm_18, ↓pm_21, ↓pm_22, ↓pm_23, ↓pm_24, ↓pm_25, ↓pm_26, ↓pm_28, ↓pm_31, ↓pm_35, ↓pm_36, ↓pm_37, ↓pm_38, ↓pm_40, ↓pm_43, ↓am_0, ↓wm_0, ↓am_3, ↓wm_3, ↓am_4, ↓wm_4, ↓am_5, ↓wm_5, ↓am_6, ↓wm_6, ↓am_7, ↓wm_7, ↓am_15, ↓wm_15, ↓am_17, ↓wm_17, ↓am_19, ↓wm_19, ↓am_20, ↓wm_20, ↓am_27, ↓wm_27, ↓am_29, ↓wm_29, ↓am_30, ↓wm_30, ↓am_32, ↓wm_32, ↓am_33, ↓wm_33, ↓am_34, ↓wm_34, ↓am_39, ↓wm_39, ↓am_41, ↓wm_41, ↓am_42, ↓wm_42, ↓am_44, ↓wm_44, ↓am_45, ↓wm_45, ↓am_46, ↓wm_46, ↓wn_0, ↓wn_46, or_false, false_or, rc_M, List.getElem?_cons_zero, List.getElem?_cons_succ, List.length_cons, List.length_nil, List.set_cons_zero, List.set_cons_succ, true_and, and_true, Option.toList_some, Option.toList_none, List.cons_append, List.nil_append, ↓reduceIte, not_false_eq_true, not_true_eq_false, Nat.reduceAdd, xj0_01, xj1_01, xb_B, xb_True, xb_False, ↓xj_in, xj_nat, Int.toNat_natCast, xj_lt_t, xj_lt_f, xj_le_t, xj_le_f, xj_eq_t, xj_eq_f, xj_lt, xj_le, xj_eq, xj_add, xj_sub, xj_mul, show ¬ xj 1 = xj 0 from by decide, tn_add, tn_mul, tn_sub, Int.toNat_natCast, Int.reduceToNat, mS_S, mS_So, mS_A, mS_J, mA_A, mA_Ao, mA_S, mA_J, mJ_J, mJ_Jo, mJ_S, mJ_A, sS_S, sA_A, sS_A, sS_J, sJ_A, m_reckons _ hk' hpn, m_signs _ hk2 hpn hg, h31', h30']
        rw [b219_47, rc_M, true_and]
        have hru4 := rRu_ext (R' := sS (sA (signR (reckR R' O d' p) O d' p 63) 30 (upI (mA R' 30) k p)) 31 (k + 1 : Nat)) (fr3.2.1 3 (by omega)) (fr3.2.1 5 (by omega)) (fr3.2.1 6 (by omega)) hru
        have st : ∀ i, (writeD O d' p 63).2.2.2.2.1.testBit i = (d'.2.2.2.2.1.testBit i || decide (p = i)) := fun i => by
          show (d'.2.2.2.2.1 ||| 2 ^ p).testBit i = _
          rw [Nat.testBit_or, Nat.testBit_two_pow]
        refine u_nextBy (by omega) ht hk4 hru4 (fun R5 f5 => ?_)
        have nx := ih (k + 1) (writeD O d' p 63) (upI row k p) R5 (by omega) (frB_t fr3 (frN_B f5)) (rK_of (f5.2 20) hk4) (by omega) (by rw [f5.1 31 (by omega), mS_A, mS_S]; rfl) (fun i hi => by
          rw [f5.2 30, mA_A]
          by_cases c2 : i = k
          · subst c2; rw [up_e, up_e]
          · rw [up_n c2, up_n c2]; exact h30 i (by omega)) (fun i hi => by
          rw [st]
          by_cases c2 : i = k
          · subst c2; rw [up_e, Int.toNat_natCast]; refine ⟨by omega, by omega, by simp⟩
          · rw [up_n c2]
            have h3 := hrow i (by omega)
            exact ⟨h3.1, h3.2.1, by rw [h3.2.2]; rfl⟩) hby
        simp (disch := omega) only [b219_50, b219_51, List.getElem?_cons_zero, List.getElem?_cons_succ, List.length_cons, List.length_nil, List.set_cons_zero, List.set_cons_succ, true_and, and_true, Option.toList_some, Option.toList_none, List.cons_append, List.nil_append, ↓reduceIte, not_false_eq_true, not_true_eq_false, Nat.reduceAdd, xj0_01, xj1_01, xb_B, xb_True, xb_False]
        exact nx
  rw [b219_7, rc_M, true_and]
  refine u_nextBy (R := sS R 31 0) (by omega) ht (show rK (sS R 31 0) O d from hr) (rRu_ext (R := R) rfl rfl rfl hru) (fun R5 f5 => ?_)
  have nx := loop 6 0 d row0 R5 (by omega) (frB_t ⟨fun j q => mS_So (by omega), fun _ _ => rfl, fun _ _ => rfl⟩ (frN_B f5)) (rK_of (f5.2 20) (show rK (sS R 31 0) O d from hr)) (Nat.zero_le _) (by rw [f5.1 31 (by omega), mS_S]; rfl) (fun i hi => by omega) (fun i hi => by omega) rfl
  simp (disch := omega) only [b219_10, List.getElem?_cons_zero, List.getElem?_cons_succ, List.length_cons, List.length_nil, List.set_cons_zero, List.set_cons_succ, true_and, and_true, Option.toList_some, Option.toList_none, List.cons_append, List.nil_append, ↓reduceIte, not_false_eq_true, not_true_eq_false, Nat.reduceAdd, xj0_01, xj1_01, xb_B, xb_True, xb_False]
  exact nx
end XS68
