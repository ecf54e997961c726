/-! the pen: second, keep -/
theorem cpB_rng {O : Of} {q s : Nat} {d : Dy} (hw : xw_Off O) (hd : xw_Day O d) : 0 ≤ (cpB O q s d).1 ∧ (cpB O q s d).1 ≤ 360 := by
  have h1 := (cp_plan (q := q) (s := unsF O d &&& s) (s' := s) (c := s) (d0 := d) hw (fun p hp => by rw [Nat.testBit_and, uns_bit hp]) (fun p hp h => h)).1
  have h2 := planB_ok (q := q) (s := unsF O d &&& s) (c := s) hw hd
  have h3 : 0 ≤ KF O s d ∧ KF O s d ≤ 30 * of_np O := smF_wo hw _ _ (Nat.le_refl _)
  have h4 := hw.2.2.2.1
  have h5 := h2.1
  have h6 := h2.2.1
  omega
theorem xw_pen {O : Of} {d : Dy} {y : Int} (hw : xw_Off O) (hd : xw_Day O d) (h1 : 0 ≤ y) (h2 : y < of_nc O) : xw_Day O (penD O d y) := by
  have hnc := hw.2.1
  have hm := hw.sm
  exact ⟨hd.1, hd.2.1, by show -1 ≤ y; omega, by show y ≤ 3; omega, hm.1, hm.2.1, hm.2.2.1, hm.2.2.2.1, hd.2.2.2.2.2.2.2.2⟩
section XS9b10
variable {D a b o k p q n nr r t c v fa s : Nat} {f f' : Nat → xk_C} {w : Nat × Nat × Nat} {K : Option Value → xk_S → Prop} {x y z : Int} {T : Nat → Int} {ru : Nat → Ru} {S : Dk} {H : Hi} {im : Nat → Int} {I : Nat → Dk} {d d1 : Dy}
theorem p_second (hD : 15 ≤ D) (h : xv_Pen f a n nr T ru S H im I) (hw : PW S) (y1 : -2147483648 ≤ y) (y2 : y ≤ 2147483647) (hpost : ∀ f', (∀ x, (x < a ∨ a + 204 ≤ x) → f' x = f x) → xv_Pen f' a n nr T ru S H im I → K (some (.int (xj (secZ S.1 S.2.1 y)))) (f', w)) : xk_Cl D 124 [.ref a, .int (xj y)] (f, w) K := by
  rw [e124 (by omega)]
  obtain ⟨⟨w1, w2, w3, w4, w5, w6, w7, w8⟩, hvs, hvl⟩ := hw
  have hn := w1.2.2.2.1
  have p0 := h.1
  have p5 : xv_Dk f (a + 22) S := h.2.2.2.2.2.1
  have ho := p5.2.1
  have hc := fun K' => s_hasClerk (D := D - 1) (K := K') (w := w) (by omega) ho w1 y1 y2
  unfold secZ at hpost
  by_cases c : 0 ≤ y ∧ y < of_nc S.1
  · have xw : ∀ i, @xb (0 ≤ y ∧ y < of_nc S.1) i = xj 1 := fun i => xb_T c
    have po := fun K' => s_papersOf (D := D - 1) (K := K') (w := w) (c := y) (by omega) ho w1 y1 y2
    have hpl := pap_lt (c := y) w1
    have x63 : (63 : Int) = ((63 : Nat) : Int) := rfl
    have an : xj 63 &&& (xj (msk (fun p => decide (of_ow S.1 p = y)) (of_np S.1) : Nat) ^^^ xj (-1)) = xj ((63 &&& (msk (fun p => decide (of_ow S.1 p = y)) (of_np S.1) ^^^ 2147483647) : Nat) : Int) := by
      rw [x63]; exact xj_andnot (by omega) (by omega)
    rw [if_pos c, cp_sec w1] at hpost
    have hot := and64 (b := msk (fun p => decide (of_ow S.1 p = y)) (of_np S.1) ^^^ 2147483647) (show 63 < 64 by decide)
    simp (disch := omega) only [b124_0, b124_1, b124_4, b124_7, b124_8, b124_9, b124_10, b124_13, b124_16, b124_19, b124_20, b124_21, b124_22, b124_25, b124_26, b124_28, b124_29, b124_30, b124_31, b124_32, b124_34, b124_35, b124_38, b124_39, b124_42, b124_45, b124_46, b124_49, b124_52, b124_54, List.getElem?_cons_zero, List.getElem?_cons_succ, List.length_cons, List.length_nil, List.set_cons_zero, List.set_cons_succ, true_and, and_true, Option.toList_some, Option.toList_none, List.cons_append, List.nil_append, ↓reduceIte, not_false_eq_true, not_true_eq_false, Nat.reduceAdd, xj0_01, xj1_01, xb_B, xb_True, xb_False, ↓gpn_7 p0, ↓gpn_13 p0, ↓gk_0 p5.1, ↓gk_1 p5.1, rc_Off ho, hc, xw, po, an, ↓xj_in, xj_nat, Int.toNat_natCast, xj_lt_t, xj_lt_f, xj_le_t, xj_le_f, xj_eq_t, xj_eq_f, xj_lt, xj_le, xj_eq, xj_add, xj_sub, xj_mul, show ¬ xj 1 = xj 0 from by decide]
    generalize msk (fun p => decide (of_ow S.1 p = y)) (of_np S.1) = th at *
    generalize 63 &&& (th ^^^ 2147483647) = ot at *
    obtain ⟨B0, s0, q0, mo0, row0', ds0, pl0, bo0⟩ := h.2.2.2.2.2.2.2.2.2.2.1
    rw [b124_56, rc_R pl0.1, true_and]
    refine p_search (s := ot) (q := ot) (by omega) h w1 p5.2.2.1 w4 w3 hvs (by omega) (by omega) (by omega) (fun f1 B1 s1 q1 mo1 row1 ds1 e1 h1 v1 b1 => ?_)
    have r1 := cpB_rng (q := ot) (s := ot) w1 w3
    generalize (cpB S.1 ot ot S.2.1).1 = V1 at *
    have q0 := h1.1
    have q5 : xv_Dk f1 (a + 22) S := h1.2.2.2.2.2.1
    simp (disch := omega) only [b124_59, b124_61, b124_62, b124_65, b124_66, b124_69, List.getElem?_cons_zero, List.getElem?_cons_succ, List.length_cons, List.length_nil, List.set_cons_zero, List.set_cons_succ, true_and, and_true, Option.toList_some, Option.toList_none, List.cons_append, List.nil_append, ↓reduceIte, not_false_eq_true, not_true_eq_false, Nat.reduceAdd, xj0_01, xj1_01, xb_B, xb_True, xb_False, ↓gpn_7 q0, ↓gpn_11 q0, ↓gk_1 q5.1]
    rw [b124_72, rc_8 h1, true_and]
    refine p_trial (by omega) h1 w4 (fun f2 e2 d2 => ?_)
    have h2 := pen_8 h1 e2 d2 w4
    have t0 := h2.1
    have t5 : xv_Dk f2 (a + 22) S := h2.2.2.2.2.2.1
    have tp := fun K' => s_takeNewPen (D := D - 1) (K := K') (w := w) (z := y) (by omega) t5.2.1 d2 (by omega)
    simp (disch := omega) only [b124_75, b124_76, b124_79, b124_80, List.getElem?_cons_zero, List.getElem?_cons_succ, List.length_cons, List.length_nil, List.set_cons_zero, List.set_cons_succ, true_and, and_true, Option.toList_some, Option.toList_none, List.cons_append, List.nil_append, ↓reduceIte, not_false_eq_true, not_true_eq_false, Nat.reduceAdd, xj0_01, xj1_01, xb_B, xb_True, xb_False, ↓gpn_11 t0]
    rw [b124_81, rc_Day d2, true_and, tp]
    have e3 : ∀ x, (x < a + 83 ∨ a + 85 ≤ x) → xs_Day f2 (a + 83) (S.2.1.1, y, of_ink S.1, of_nib S.1, S.2.1.2.2.2.2) x = f2 x := fun x hx => xs_Day_ne (by omega) (by omega)
    have d3 : xv_Day (xs_Day f2 (a + 83) (S.2.1.1, y, of_ink S.1, of_nib S.1, S.2.1.2.2.2.2)) (a + 83) (penD S.1 S.2.1 y) := xs_Day_v f2 (a + 83) (penD S.1 S.2.1 y)
    generalize xs_Day f2 (a + 83) (S.2.1.1, y, of_ink S.1, of_nib S.1, S.2.1.2.2.2.2) = f3 at *
    have z3 : xz_Day (penD S.1 S.2.1 y) := w4
    have w3' := xw_pen w1 w3 c.1 c.2
    have h3 := pen_8 h2 e3 d3 z3
    have u0 := h3.1
    have u5 : xv_Dk f3 (a + 22) S := h3.2.2.2.2.2.1
    simp (disch := omega) only [b124_84, b124_86, b124_87, b124_90, b124_91, b124_94, b124_97, b124_98, b124_101, b124_102, List.getElem?_cons_zero, List.getElem?_cons_succ, List.length_cons, List.length_nil, List.set_cons_zero, List.set_cons_succ, true_and, and_true, Option.toList_some, Option.toList_none, List.cons_append, List.nil_append, ↓reduceIte, not_false_eq_true, not_true_eq_false, Nat.reduceAdd, xj0_01, xj1_01, xb_B, xb_True, xb_False, ↓gpn_7 u0, ↓gpn_11 u0, ↓gpn_13 u0, ↓gk_0 u5.1]
    obtain ⟨B4, s4, q4, mo4, row4, ds4, pl4, bo4⟩ := h3.2.2.2.2.2.2.2.2.2.2.1
    rw [b124_103, rc_R pl4.1, true_and]
    refine p_search (s := th) (q := th) (by omega) h3 w1 d3 z3 w3' hvs (by omega) (by omega) (by omega) (fun f4 B5 s5 q5 mo5 row5 ds5 e4 h4 v4 b4 => ?_)
    have r2 := cpB_rng (q := th) (s := th) w1 w3'
    generalize (cpB S.1 th th (penD S.1 S.2.1 y)).1 = V2 at *
    have g0 := h4.1
    have g5 : xv_Dk f4 (a + 22) S := h4.2.2.2.2.2.1
    have wt : ∀ K', xk_Cl (D - 1) 6 [.ref (a + 22 + 11), .ref (a + 22 + 1)] (f4, w) K' ↔ K' (some (.int (xj (wtF S.1 S.2.1)))) (f4, w) := fun K' => s_worthInTime (by omega) g5.2.1 w1 g5.2.2.1 w3
    have r3 := wt_rng w1 S.2.1
    generalize wtF S.1 S.2.1 = V3 at *
    simp (disch := omega) only [b124_106, b124_107, b124_109, b124_111, b124_112, b124_115, b124_118, b124_119, b124_122, b124_123, b124_124, b124_127, b124_128, b124_131, b124_134, b124_135, b124_138, b124_141, b124_143, List.getElem?_cons_zero, List.getElem?_cons_succ, List.length_cons, List.length_nil, List.set_cons_zero, List.set_cons_succ, true_and, and_true, Option.toList_some, Option.toList_none, List.cons_append, List.nil_append, ↓reduceIte, not_false_eq_true, not_true_eq_false, Nat.reduceAdd, xj0_01, xj1_01, xb_B, xb_True, xb_False, ↓gpn_7 g0, ↓gpn_13 g0, ↓gk_0 g5.1, ↓gk_1 g5.1, rc_Day g5.2.2.1, wt, ↓xj_in, xj_nat, Int.toNat_natCast, xj_lt_t, xj_lt_f, xj_le_t, xj_le_f, xj_eq_t, xj_eq_f, xj_lt, xj_le, xj_eq, xj_add, xj_sub, xj_mul, show ¬ xj 1 = xj 0 from by decide]
    obtain ⟨B6, s6, q6, mo6, row6, ds6, pl6, bo6⟩ := h4.2.2.2.2.2.2.2.2.2.2.1
    rw [b124_145, rc_R pl6.1, true_and]
    refine p_search (s := 63) (q := 63) (by omega) h4 w1 g5.2.2.1 w4 w3 hvs (by omega) (by omega) (by omega) (fun f5 B7 s7 q7 mo7 row7 ds7 e5 h5 v5 b5 => ?_)
    have r4 := cpB_rng (q := 63) (s := 63) w1 w3
    have pz := hpost f5 (fun x hx => by rw [e5 x (by omega), e4 x (by omega), e3 x (by omega), e2 x (by omega), e1 x (by omega)]) h5
    generalize (cpB S.1 63 63 S.2.1).1 = V4 at *
    simp (disch := omega) only [b124_148, b124_149, List.getElem?_cons_zero, List.getElem?_cons_succ, List.length_cons, List.length_nil, List.set_cons_zero, List.set_cons_succ, true_and, and_true, Option.toList_some, Option.toList_none, List.cons_append, List.nil_append, ↓reduceIte, not_false_eq_true, not_true_eq_false, Nat.reduceAdd, xj0_01, xj1_01, xb_B, xb_True, xb_False, ↓xj_in, xj_nat, Int.toNat_natCast, xj_lt_t, xj_lt_f, xj_le_t, xj_le_f, xj_eq_t, xj_eq_f, xj_lt, xj_le, xj_eq, xj_add, xj_sub, xj_mul, show ¬ xj 1 = xj 0 from by decide]
    exact pz
  · have xw : ∀ i, @xb (0 ≤ y ∧ y < of_nc S.1) i = xj 0 := fun i => xb_F c
    rw [if_neg c] at hpost
    have po := hpost f (fun _ _ => rfl) h
    simp (disch := omega) only [b124_0, b124_1, b124_4, b124_7, b124_8, b124_9, b124_10, b124_13, b124_16, b124_19, List.getElem?_cons_zero, List.getElem?_cons_succ, List.length_cons, List.length_nil, List.set_cons_zero, List.set_cons_succ, true_and, and_true, Option.toList_some, Option.toList_none, List.cons_append, List.nil_append, ↓reduceIte, not_false_eq_true, not_true_eq_false, Nat.reduceAdd, xj0_01, xj1_01, xb_B, xb_True, xb_False, ↓gpn_7 p0, ↓gk_0 p5.1, rc_Off ho, hc, xw, ↓xj_in, xj_nat, Int.toNat_natCast, xj_lt_t, xj_lt_f, xj_le_t, xj_le_f, xj_eq_t, xj_eq_f, xj_lt, xj_le, xj_eq, xj_add, xj_sub, xj_mul, show ¬ xj 1 = xj 0 from by decide]
    exact po
theorem p_keep (hD : 15 ≤ D) (h : xv_Pen f a n nr T ru S H im I) (hw : PW S) (y1 : -2147483648 ≤ y) (y2 : y ≤ 2147483647) (hpost : ∀ f', (∀ x, (x < a ∨ a + 204 ≤ x) → f' x = f x) → xv_Pen f' a n nr T ru S H im I → K (some (.int (xj (keepZ S.1 S.2.1 y)))) (f', w)) : xk_Cl D 125 [.ref a, .int (xj y)] (f, w) K := by
  rw [e125 (by omega)]
  obtain ⟨⟨w1, w2, w3, w4, w5, w6, w7, w8⟩, hvs, hvl⟩ := hw
  have hn := w1.2.2.2.1
  have hnc := w1.2.1
  have p0 := h.1
  have p5 : xv_Dk f (a + 22) S := h.2.2.2.2.2.1
  have ho := p5.2.1
  have no : ¬ (of_told S.1 = 1 ∧ 0 ≤ y ∧ y ≤ 1) → K (some (.int (xj (-1)))) (f, w) := fun hz => by
    have po := hpost f (fun _ _ => rfl) h
    unfold keepZ at po
    rw [if_neg hz] at po
    exact po
  by_cases c1 : 0 ≤ y
  · by_cases c2 : y ≤ 1
    · by_cases c3 : of_told S.1 = 1
      · have ey : keepZ S.1 S.2.1 y = (if y = 0 then (kpF S.1 S.2.1 (kpW S.1 S.2.1) (of_nc S.1)).1 else (kpF S.1 S.2.1 (kpW S.1 S.2.1) (of_nc S.1)).2) := by unfold keepZ; rw [if_pos ⟨c3, c1, c2⟩]
        rw [ey] at hpost
        simp (disch := omega) only [b125_0, b125_1, b125_4, b125_7, b125_8, b125_9, b125_12, b125_13, b125_14, b125_17, b125_18, b125_21, b125_24, b125_25, b125_26, b125_27, b125_30, b125_31, b125_34, b125_37, b125_38, b125_41, b125_44, b125_46, List.getElem?_cons_zero, List.getElem?_cons_succ, List.length_cons, List.length_nil, List.set_cons_zero, List.set_cons_succ, true_and, and_true, Option.toList_some, Option.toList_none, List.cons_append, List.nil_append, ↓reduceIte, not_false_eq_true, not_true_eq_false, Nat.reduceAdd, xj0_01, xj1_01, xb_B, xb_True, xb_False, ↓go_0 ho, ↓go_1 ho, ↓go_2 ho, ↓go_3 ho, ↓go_4 ho, ↓go_5 ho, ↓go_6 ho, ↓go_7 ho, ↓go_8 ho, ↓go_9 ho, ↓go_10 ho, ↓go_11 ho, ↓go_12 ho, ↓go_13 ho, ↓go_14 ho, ↓go_15 ho, ↓ao_1 ho, ↓ao_2 ho, ↓ao_3 ho, ↓ao_4 ho, ↓ao_5 ho, ↓ao_6 ho, ↓ao_7 ho, ↓ao_8 ho, ↓ao_9 ho, ↓gpn_7 p0, ↓gpn_13 p0, ↓gk_0 p5.1, ↓gk_1 p5.1, c3, ↓xj_in, xj_nat, Int.toNat_natCast, xj_lt_t, xj_lt_f, xj_le_t, xj_le_f, xj_eq_t, xj_eq_f, xj_lt, xj_le, xj_eq, xj_add, xj_sub, xj_mul, show ¬ xj 1 = xj 0 from by decide]
        obtain ⟨B0, s0, q0, mo0, row0', ds0, pl0, bo0⟩ := h.2.2.2.2.2.2.2.2.2.2.1
        rw [b125_48, rc_R pl0.1, true_and]
        refine p_search (s := 63) (q := 63) (by omega) h w1 p5.2.2.1 w4 w3 hvs (by omega) (by omega) (by omega) (fun f1 B1 s1 q1 mo1 row1 ds1 e1 h1 v1 b1 => ?_)
        have w4e : (cpB S.1 63 63 S.2.1).1 = kpW S.1 S.2.1 4 := by rw [cp_63 w1]; rfl
        rw [w4e]
        have rk4 := kpW_rng w1 w3 4
        simp (disch := omega) only [b125_51, b125_52, b125_54, b125_56, b125_58, b125_60, b125_61, List.getElem?_cons_zero, List.getElem?_cons_succ, List.length_cons, List.length_nil, List.set_cons_zero, List.set_cons_succ, true_and, and_true, Option.toList_some, Option.toList_none, List.cons_append, List.nil_append, ↓reduceIte, not_false_eq_true, not_true_eq_false, Nat.reduceAdd, xj0_01, xj1_01, xb_B, xb_True, xb_False]
        have loop : ∀ (m j : Nat) (fj : Nat → xk_C) (u : Value), j + m = of_nc S.1 → (∀ x, (x < a ∨ a + 204 ≤ x) → fj x = f x) → xv_Pen fj a n nr T ru S H im I → xk_B (D - 1) 125 63 [.ref a, .int (xj y), .ref (a + 22 + 1), .int (xj (kpW S.1 S.2.1 4)), .int (xj (kpF S.1 S.2.1 (kpW S.1 S.2.1) j).1), .int (xj (kpF S.1 S.2.1 (kpW S.1 S.2.1) j).2), .int (xj j), u] [] (fj, w) K := by
          intro m
          induction m with
          | zero =>
            intro j fj u hj fr hpj
            have hj : j = of_nc S.1 := by omega
            subst hj
            have t := hpost fj fr hpj
            have g5 : xv_Dk fj (a + 22) S := hpj.2.2.2.2.2.1
            have go := g5.2.1
            by_cases e0 : y = 0
            · rw [if_pos e0] at t
              simp (disch := omega) only [b125_63, b125_65, b125_66, b125_69, b125_131, b125_132, b125_135, b125_137, b125_140, b125_142, List.getElem?_cons_zero, List.getElem?_cons_succ, List.length_cons, List.length_nil, List.set_cons_zero, List.set_cons_succ, true_and, and_true, Option.toList_some, Option.toList_none, List.cons_append, List.nil_append, ↓reduceIte, not_false_eq_true, not_true_eq_false, Nat.reduceAdd, xj0_01, xj1_01, xb_B, xb_True, xb_False, ↓go_0 go, ↓go_1 go, ↓go_2 go, ↓go_3 go, ↓go_4 go, ↓go_5 go, ↓go_6 go, ↓go_7 go, ↓go_8 go, ↓go_9 go, ↓go_10 go, ↓go_11 go, ↓go_12 go, ↓go_13 go, ↓go_14 go, ↓go_15 go, ↓ao_1 go, ↓ao_2 go, ↓ao_3 go, ↓ao_4 go, ↓ao_5 go, ↓ao_6 go, ↓ao_7 go, ↓ao_8 go, ↓ao_9 go, ↓xj_in, xj_nat, Int.toNat_natCast, xj_lt_t, xj_lt_f, xj_le_t, xj_le_f, xj_eq_t, xj_eq_f, xj_lt, xj_le, xj_eq, xj_add, xj_sub, xj_mul, show ¬ xj 1 = xj 0 from by decide]
              exact t
            · rw [if_neg e0] at t
              simp (disch := omega) only [b125_63, b125_65, b125_66, b125_69, b125_131, b125_132, b125_135, b125_137, b125_140, b125_142, List.getElem?_cons_zero, List.getElem?_cons_succ, List.length_cons, List.length_nil, List.set_cons_zero, List.set_cons_succ, true_and, and_true, Option.toList_some, Option.toList_none, List.cons_append, List.nil_append, ↓reduceIte, not_false_eq_true, not_true_eq_false, Nat.reduceAdd, xj0_01, xj1_01, xb_B, xb_True, xb_False, ↓go_0 go, ↓go_1 go, ↓go_2 go, ↓go_3 go, ↓go_4 go, ↓go_5 go, ↓go_6 go, ↓go_7 go, ↓go_8 go, ↓go_9 go, ↓go_10 go, ↓go_11 go, ↓go_12 go, ↓go_13 go, ↓go_14 go, ↓go_15 go, ↓ao_1 go, ↓ao_2 go, ↓ao_3 go, ↓ao_4 go, ↓ao_5 go, ↓ao_6 go, ↓ao_7 go, ↓ao_8 go, ↓ao_9 go, ↓xj_in, xj_nat, Int.toNat_natCast, xj_lt_t, xj_lt_f, xj_le_t, xj_le_f, xj_eq_t, xj_eq_f, xj_lt, xj_le, xj_eq, xj_add, xj_sub, xj_mul, show ¬ xj 1 = xj 0 from by decide]
              exact t
          | succ m ihm =>
            intro j fj u hj fr hpj
            have g0 := hpj.1
            have g5 : xv_Dk fj (a + 22) S := hpj.2.2.2.2.2.1
            have go := g5.2.1
            have po := fun K' => s_papersOf (D := D - 1) (K := K') (w := w) (c := (j : Int)) (by omega) go w1 (by omega) (by omega)
            have hpl := pap_lt (c := (j : Int)) w1
            have x63 : (63 : Int) = ((63 : Nat) : Int) := rfl
            have an : xj 63 &&& (xj (msk (fun p => decide (of_ow S.1 p = (j : Int))) (of_np S.1) : Nat) ^^^ xj (-1)) = xj ((63 &&& (msk (fun p => decide (of_ow S.1 p = (j : Int))) (of_np S.1) ^^^ 2147483647) : Nat) : Int) := by
              rw [x63]; exact xj_andnot (by omega) (by omega)
            have hot := and64 (b := msk (fun p => decide (of_ow S.1 p = (j : Int))) (of_np S.1) ^^^ 2147483647) (show 63 < 64 by decide)
            rw [b125_63]
            simp (disch := omega) only [b125_65, b125_66, b125_69, b125_72, b125_73, b125_74, b125_77, b125_78, b125_81, b125_84, b125_85, b125_88, b125_91, b125_93, b125_94, b125_96, b125_99, b125_100, b125_101, b125_102, List.getElem?_cons_zero, List.getElem?_cons_succ, List.length_cons, List.length_nil, List.set_cons_zero, List.set_cons_succ, true_and, and_true, Option.toList_some, Option.toList_none, List.cons_append, List.nil_append, ↓reduceIte, not_false_eq_true, not_true_eq_false, Nat.reduceAdd, xj0_01, xj1_01, xb_B, xb_True, xb_False, ↓go_0 go, ↓go_1 go, ↓go_2 go, ↓go_3 go, ↓go_4 go, ↓go_5 go, ↓go_6 go, ↓go_7 go, ↓go_8 go, ↓go_9 go, ↓go_10 go, ↓go_11 go, ↓go_12 go, ↓go_13 go, ↓go_14 go, ↓go_15 go, ↓ao_1 go, ↓ao_2 go, ↓ao_3 go, ↓ao_4 go, ↓ao_5 go, ↓ao_6 go, ↓ao_7 go, ↓ao_8 go, ↓ao_9 go, ↓gpn_7 g0, ↓gpn_13 g0, ↓gk_0 g5.1, ↓gk_1 g5.1, rc_Off go, po, an, ↓xj_in, xj_nat, Int.toNat_natCast, xj_lt_t, xj_lt_f, xj_le_t, xj_le_f, xj_eq_t, xj_eq_f, xj_lt, xj_le, xj_eq, xj_add, xj_sub, xj_mul, show ¬ xj 1 = xj 0 from by decide]
            obtain ⟨B4, s4, q4, mo4, row4, ds4, pl4, bo4⟩ := hpj.2.2.2.2.2.2.2.2.2.2.1
            rw [b125_104, rc_R pl4.1, true_and]
            refine p_search (s := 63 &&& (msk (fun p => decide (of_ow S.1 p = (j : Int))) (of_np S.1) ^^^ 2147483647)) (q := 63) (by omega) hpj w1 g5.2.2.1 w4 w3 hvs (by omega) (by omega) (by omega) (fun f2 B2 s2 q2 mo2 row2 ds2 e2 h2 v2 b2 => ?_)
            have wj : (cpB S.1 63 (63 &&& (msk (fun p => decide (of_ow S.1 p = (j : Int))) (of_np S.1) ^^^ 2147483647)) S.2.1).1 = kpW S.1 S.2.1 j := by rw [cp_less w1]; unfold kpW; rw [if_neg (by omega)]
            rw [wj]
            have r1 := kpW_rng w1 w3 j
            have rf := kpF_rng w1 w3 j
            have e : kpF S.1 S.2.1 (kpW S.1 S.2.1) (j + 1) = if (kpF S.1 S.2.1 (kpW S.1 S.2.1) j).2 < kpW S.1 S.2.1 4 - kpW S.1 S.2.1 j then ((j : Int), kpW S.1 S.2.1 4 - kpW S.1 S.2.1 j) else kpF S.1 S.2.1 (kpW S.1 S.2.1) j := rfl
            by_cases c : (kpF S.1 S.2.1 (kpW S.1 S.2.1) j).2 < kpW S.1 S.2.1 4 - kpW S.1 S.2.1 j
            · rw [if_pos c] at e
              have t := ihm (j + 1) f2 (.int (xj (kpW S.1 S.2.1 4 - kpW S.1 S.2.1 j))) (by omega) (fun x hx => by rw [e2 x (by omega), fr x hx]) h2
              rw [e] at t
              simp (disch := omega) only [b125_107, b125_108, b125_110, b125_112, b125_114, b125_117, b125_119, b125_121, b125_123, b125_125, b125_128, List.getElem?_cons_zero, List.getElem?_cons_succ, List.length_cons, List.length_nil, List.set_cons_zero, List.set_cons_succ, true_and, and_true, Option.toList_some, Option.toList_none, List.cons_append, List.nil_append, ↓reduceIte, not_false_eq_true, not_true_eq_false, Nat.reduceAdd, xj0_01, xj1_01, xb_B, xb_True, xb_False, ↓xj_in, xj_nat, Int.toNat_natCast, xj_lt_t, xj_lt_f, xj_le_t, xj_le_f, xj_eq_t, xj_eq_f, xj_lt, xj_le, xj_eq, xj_add, xj_sub, xj_mul, show ¬ xj 1 = xj 0 from by decide]
              exact t
            · rw [if_neg c] at e
              have t := ihm (j + 1) f2 (.int (xj (kpW S.1 S.2.1 4 - kpW S.1 S.2.1 j))) (by omega) (fun x hx => by rw [e2 x (by omega), fr x hx]) h2
              rw [e] at t
              simp (disch := omega) only [b125_107, b125_108, b125_110, b125_112, b125_114, b125_117, b125_119, b125_121, b125_123, b125_125, b125_128, List.getElem?_cons_zero, List.getElem?_cons_succ, List.length_cons, List.length_nil, List.set_cons_zero, List.set_cons_succ, true_and, and_true, Option.toList_some, Option.toList_none, List.cons_append, List.nil_append, ↓reduceIte, not_false_eq_true, not_true_eq_false, Nat.reduceAdd, xj0_01, xj1_01, xb_B, xb_True, xb_False, ↓xj_in, xj_nat, Int.toNat_natCast, xj_lt_t, xj_lt_f, xj_le_t, xj_le_f, xj_eq_t, xj_eq_f, xj_lt, xj_le, xj_eq, xj_add, xj_sub, xj_mul, show ¬ xj 1 = xj 0 from by decide]
              exact t
        exact loop (of_nc S.1) 0 f1 xk_dd (by omega) (fun x hx => e1 x (by omega)) h1
      · have ht0 := told01 w1 c3
        have po := no (fun q => c3 q.1)
        simp (disch := omega) only [b125_0, b125_1, b125_4, b125_7, b125_8, b125_9, b125_12, b125_13, b125_14, b125_17, b125_18, b125_21, b125_24, b125_25, List.getElem?_cons_zero, List.getElem?_cons_succ, List.length_cons, List.length_nil, List.set_cons_zero, List.set_cons_succ, true_and, and_true, Option.toList_some, Option.toList_none, List.cons_append, List.nil_append, ↓reduceIte, not_false_eq_true, not_true_eq_false, Nat.reduceAdd, xj0_01, xj1_01, xb_B, xb_True, xb_False, ↓go_0 ho, ↓go_1 ho, ↓go_2 ho, ↓go_3 ho, ↓go_4 ho, ↓go_5 ho, ↓go_6 ho, ↓go_7 ho, ↓go_8 ho, ↓go_9 ho, ↓go_10 ho, ↓go_11 ho, ↓go_12 ho, ↓go_13 ho, ↓go_14 ho, ↓go_15 ho, ↓ao_1 ho, ↓ao_2 ho, ↓ao_3 ho, ↓ao_4 ho, ↓ao_5 ho, ↓ao_6 ho, ↓ao_7 ho, ↓ao_8 ho, ↓ao_9 ho, ↓gpn_7 p0, ↓gk_0 p5.1, ht0, ↓xj_in, xj_nat, Int.toNat_natCast, xj_lt_t, xj_lt_f, xj_le_t, xj_le_f, xj_eq_t, xj_eq_f, xj_lt, xj_le, xj_eq, xj_add, xj_sub, xj_mul, show ¬ xj 1 = xj 0 from by decide]
        exact po
    · have po := no (fun q => c2 q.2.2)
      simp (disch := omega) only [b125_0, b125_1, b125_4, b125_7, b125_8, b125_9, b125_12, b125_13, b125_14, b125_17, b125_18, b125_21, b125_24, b125_25, List.getElem?_cons_zero, List.getElem?_cons_succ, List.length_cons, List.length_nil, List.set_cons_zero, List.set_cons_succ, true_and, and_true, Option.toList_some, Option.toList_none, List.cons_append, List.nil_append, ↓reduceIte, not_false_eq_true, not_true_eq_false, Nat.reduceAdd, xj0_01, xj1_01, xb_B, xb_True, xb_False, ↓gpn_7 p0, ↓gk_0 p5.1, ↓xj_in, xj_nat, Int.toNat_natCast, xj_lt_t, xj_lt_f, xj_le_t, xj_le_f, xj_eq_t, xj_eq_f, xj_lt, xj_le, xj_eq, xj_add, xj_sub, xj_mul, show ¬ xj 1 = xj 0 from by decide]
      exact po
  · have po := no (fun q => c1 q.2.1)
    simp (disch := omega) only [b125_0, b125_1, b125_4, b125_7, b125_8, b125_9, b125_12, b125_13, b125_14, b125_17, b125_18, b125_21, b125_24, b125_25, List.getElem?_cons_zero, List.getElem?_cons_succ, List.length_cons, List.length_nil, List.set_cons_zero, List.set_cons_succ, true_and, and_true, Option.toList_some, Option.toList_none, List.cons_append, List.nil_append, ↓reduceIte, not_false_eq_true, not_true_eq_false, Nat.reduceAdd, xj0_01, xj1_01, xb_B, xb_True, xb_False, ↓gpn_7 p0, ↓gk_0 p5.1, ↓xj_in, xj_nat, Int.toNat_natCast, xj_lt_t, xj_lt_f, xj_le_t, xj_le_f, xj_eq_t, xj_eq_f, xj_lt, xj_le, xj_eq, xj_add, xj_sub, xj_mul, show ¬ xj 1 = xj 0 from by decide]
    exact po
end XS9b10
