/-! the pen: plan, rings, late, second, keep -/
def planZ (O : Of) (d : Dy) (y : Int) : Int := if of_told O = 1 ∧ 0 ≤ y ∧ y ≤ 8 then planAns O d (planB O 63 (unsF O d) 63 d) y else -3
def lateZ (O : Of) (d : Dy) : Int := if of_told O = 1 then clAns O d else -1
def ringZ (O : Of) : Int := if of_told O = 1 then (ringsF O 63 : Nat) else -1
def secZ (O : Of) (d : Dy) (y : Int) : Int := if 0 ≤ y ∧ y < of_nc O then secF O d y else -1000
def keepZ (O : Of) (d : Dy) (y : Int) : Int := if of_told O = 1 ∧ 0 ≤ y ∧ y ≤ 1 then (if y = 0 then (kpF O d (kpW O d) (of_nc O)).1 else (kpF O d (kpW O d) (of_nc O)).2) else -1
theorem told01 {O : Of} (hw : xw_Off O) (h : ¬ of_told O = 1) : of_told O = 0 := by rcases hw.1 with ⟨q, _⟩ | ⟨q, _⟩ <;> omega
section XS9b09
variable {D a b o k p q n nr r t c v fa s : Nat} {f f' : Nat → xk_C} {w : Nat × Nat × Nat} {K : Option Value → xk_S → Prop} {x y z : Int} {T : Nat → Int} {ru : Nat → Ru} {S : Dk} {H : Hi} {im : Nat → Int} {I : Nat → Dk} {d d1 : Dy}
theorem p_search (hD : 14 ≤ D) (h : xv_Pen f a n nr T ru S H im I) (hw : xw_Off S.1) (hd : xv_Day f b d) (hz : xz_Day d) (hwd : xw_Day S.1 d) (hvs : vsD d) (hs : s < 2147483648) (hq : q < 2147483648) (hba : b + 1 < a + 90) (hpost : ∀ f' B' s' q' mo row ds, (∀ x, (x < a + 90 ∨ a + 108 ≤ x) → f' x = f x) → xv_Pen f' a n nr T ru S H im I → xv_Pl f' (a + 90) B' s' q' mo row ds → bstE B' (cpB S.1 q s d) → K (some (.int (xj (cpB S.1 q s d).1))) (f', w)) : xk_Cl D 53 [.ref (a + 90), .ref (a + 22 + 1), .ref b, .int (xj s), .int (xj q)] (f, w) K := by
  obtain ⟨p0, p1, p2, p3, p4, p5, p6, p7, p8, p9, ⟨B, s0, q0, mo, row, ds, pl, bo⟩, p11⟩ := h
  have p5 : xv_Dk f (a + 22) S := p5
  refine u_search hD p5.2.1 hw pl hd hz hwd hvs hs hq bo (by omega) (by omega) (fun f1 B1 row1 ds1 v1 e1 b1 k1 => ?_)
  exact hpost f1 B1 s q mo row1 ds1 (fun x hx => e1 x (by omega)) ⟨P0_fr p0 (fun x q => e1 x (by omega)), P1_fr p1 (fun x q => e1 x (by omega)), P2_fr p2 (fun x q => e1 x (by omega)), P3_fr p3 (fun x q => e1 x (by omega)), P4_fr p4 (fun x q => e1 x (by omega)), P5_fr p5 (fun x q => e1 x (by omega)), P6_fr p6 (fun x q => e1 x (by omega)), P7_fr p7 (fun x q => e1 x (by omega)), P8_fr p8 (fun x q => e1 x (by omega)), P9_fr p9 (fun x q => e1 x (by omega)), ⟨B1, s, q, mo, row1, ds1, v1, k1⟩, P11_fr p11 (fun x q => e1 x (by omega))⟩ v1 b1
theorem p_plan (hD : 15 ≤ D) (h : xv_Pen f a n nr T ru S H im I) (hw : PW S) (y1 : -2147483648 ≤ y) (y2 : y ≤ 2147483647) (hpost : ∀ f', (∀ x, (x < a ∨ a + 204 ≤ x) → f' x = f x) → xv_Pen f' a n nr T ru S H im I → K (some (.int (xj (planZ S.1 S.2.1 y)))) (f', w)) : xk_Cl D 120 [.ref a, .int (xj y)] (f, w) K := by
  rw [e120 (by omega)]
  obtain ⟨⟨w1, w2, w3, w4, w5, w6, w7, w8⟩, hvs, hvl⟩ := hw
  have hn := w1.2.2.2.1
  have p0 := h.1
  have p5 : xv_Dk f (a + 22) S := h.2.2.2.2.2.1
  have ho := p5.2.1
  have no : ¬ (of_told S.1 = 1 ∧ 0 ≤ y ∧ y ≤ 8) → K (some (.int (xj (-3)))) (f, w) := fun hz => by
    have po := hpost f (fun _ _ => rfl) h
    unfold planZ at po
    rw [if_neg hz] at po
    exact po
  by_cases c1 : 0 ≤ y
  · by_cases c2 : y ≤ 8
    · by_cases c3 : of_told S.1 = 1
      · have ey : planZ S.1 S.2.1 y = planAns S.1 S.2.1 (cpB S.1 63 63 S.2.1) y := by unfold planZ; rw [if_pos ⟨c3, c1, c2⟩, cp_63 w1]
        rw [ey] at hpost
        simp (disch := omega) only [b120_0, b120_1, b120_4, b120_5, b120_7, b120_10, b120_11, b120_14, b120_17, b120_20, b120_23, b120_25, b120_26, b120_27, b120_30, b120_31, b120_34, b120_37, b120_38, b120_41, b120_44, b120_46, List.getElem?_cons_zero, List.getElem?_cons_succ, List.length_cons, List.length_nil, List.set_cons_zero, List.set_cons_succ, true_and, and_true, Option.toList_some, Option.toList_none, List.cons_append, List.nil_append, ↓reduceIte, not_false_eq_true, not_true_eq_false, Nat.reduceAdd, xj0_01, xj1_01, xb_B, xb_True, xb_False, ↓go_0 ho, ↓go_1 ho, ↓go_2 ho, ↓go_3 ho, ↓go_4 ho, ↓go_5 ho, ↓go_6 ho, ↓go_7 ho, ↓go_8 ho, ↓go_9 ho, ↓go_10 ho, ↓go_11 ho, ↓go_12 ho, ↓go_13 ho, ↓go_14 ho, ↓go_15 ho, ↓ao_1 ho, ↓ao_2 ho, ↓ao_3 ho, ↓ao_4 ho, ↓ao_5 ho, ↓ao_6 ho, ↓ao_7 ho, ↓ao_8 ho, ↓ao_9 ho, ↓gpn_7 p0, ↓gpn_13 p0, ↓gk_0 p5.1, ↓gk_1 p5.1, c3, ↓xj_in, xj_nat, Int.toNat_natCast, xj_lt_t, xj_lt_f, xj_le_t, xj_le_f, xj_eq_t, xj_eq_f, xj_lt, xj_le, xj_eq, xj_add, xj_sub, xj_mul, show ¬ xj 1 = xj 0 from by decide]
        obtain ⟨B0, s0, q0, mo0, row0', ds0, pl0, bo0⟩ := h.2.2.2.2.2.2.2.2.2.2.1
        rw [b120_48, rc_R pl0.1, true_and]
        refine p_search (s := 63) (q := 63) (by omega) h w1 p5.2.2.1 w4 w3 hvs (by omega) (by omega) (by omega) (fun f1 B1 s1 q1 mo1 row1 ds1 e1 h1 v1 b1 => ?_)
        have po := hpost f1 (fun x hx => e1 x (by omega)) h1
        have hg : bGood S.1 (cpB S.1 63 63 S.2.1) := by rw [cp_63 w1]; exact planB_ok w1 w3
        generalize cpB S.1 63 63 S.2.1 = B at *
        obtain ⟨b1a, b1b, b1c, b1d⟩ := b1
        obtain ⟨g1, g2, g3, g4, g5, g6⟩ := hg
        have r0 := h1.1
        have r5 : xv_Dk f1 (a + 22) S := h1.2.2.2.2.2.1
        have cs : y = 0 ∨ y = 1 ∨ y = 8 ∨ (y ≠ 0 ∧ y ≠ 1 ∧ y ≠ 8) := by omega
        rcases cs with rfl | rfl | rfl | ⟨y3, y4, y5⟩
        · rw [show planAns S.1 S.2.1 B 0 = B.1 from rfl] at po
          simp (disch := omega) only [b120_51, b120_52, b120_53, b120_88, b120_89, b120_92, b120_95, b120_96, b120_97, b120_100, b120_103, b120_104, b120_105, b120_108, b120_111, b120_112, b120_115, b120_118, b120_121, b120_122, b120_125, b120_128, b120_129, b120_130, b120_131, b120_132, b120_133, b120_136, b120_139, b120_140, b120_143, b120_146, b120_147, b120_148, b120_149, b120_152, List.getElem?_cons_zero, List.getElem?_cons_succ, List.length_cons, List.length_nil, List.set_cons_zero, List.set_cons_succ, true_and, and_true, Option.toList_some, Option.toList_none, List.cons_append, List.nil_append, ↓reduceIte, not_false_eq_true, not_true_eq_false, Nat.reduceAdd, xj0_01, xj1_01, xb_B, xb_True, xb_False, ↓gpn_7 r0, ↓gpn_13 r0, ↓gp_0 v1, b1a, ↓xj_in, xj_nat, Int.toNat_natCast, xj_lt_t, xj_lt_f, xj_le_t, xj_le_f, xj_eq_t, xj_eq_f, xj_lt, xj_le, xj_eq, xj_add, xj_sub, xj_mul, show ¬ xj 1 = xj 0 from by decide]
          exact po
        · rw [show planAns S.1 S.2.1 B 1 = B.2.1 from rfl] at po
          simp (disch := omega) only [b120_51, b120_52, b120_53, b120_88, b120_89, b120_92, b120_95, b120_96, b120_97, b120_100, b120_103, b120_104, b120_105, b120_108, b120_111, b120_112, b120_115, b120_118, b120_121, b120_122, b120_125, b120_128, b120_129, b120_130, b120_131, b120_132, b120_133, b120_136, b120_139, b120_140, b120_143, b120_146, b120_147, b120_148, b120_149, b120_152, List.getElem?_cons_zero, List.getElem?_cons_succ, List.length_cons, List.length_nil, List.set_cons_zero, List.set_cons_succ, true_and, and_true, Option.toList_some, Option.toList_none, List.cons_append, List.nil_append, ↓reduceIte, not_false_eq_true, not_true_eq_false, Nat.reduceAdd, xj0_01, xj1_01, xb_B, xb_True, xb_False, ↓gpn_7 r0, ↓gpn_13 r0, ↓gp_1 v1, b1b, ↓xj_in, xj_nat, Int.toNat_natCast, xj_lt_t, xj_lt_f, xj_le_t, xj_le_f, xj_eq_t, xj_eq_f, xj_lt, xj_le, xj_eq, xj_add, xj_sub, xj_mul, show ¬ xj 1 = xj 0 from by decide]
          exact po
        · have hu := uns_lt (d := S.2.1) w1
          rw [show planAns S.1 S.2.1 B 8 = (lfR (unsF S.1 S.2.1) B.2.2.2 B.2.2.1 : Nat) from rfl, lfR_eq (by omega)] at po
          have us := fun K' => s_unsF (D := D - 1) (K := K') (w := w) (by omega) r5.2.1 w1 r5.2.2.1 w3
          have bp := fun K' => s_bestPapers (D := D - 1) (K := K') (w := w) (by omega) v1 (by omega) (fun i hi => by have := g6 i (by omega); have := b1d i (by omega); omega)
          have eb : bpF B1.2.2.2 B1.2.2.1 = bpF B.2.2.2 B.2.2.1 := by rw [b1c]; exact bpF_cg _ (fun i hi => b1d i hi)
          rw [eb] at bp
          have hb6 := bpF_lt (row := B.2.2.2) B.2.2.1 (fun i hi => by have := g6 i hi; omega)
          have xn := xj_not (show unsF S.1 S.2.1 < 2147483648 by omega) (show bpF B.2.2.2 B.2.2.1 < 2147483648 by omega)
          simp (disch := omega) only [b120_51, b120_52, b120_53, b120_88, b120_89, b120_92, b120_95, b120_96, b120_97, b120_100, b120_103, b120_104, b120_105, b120_108, b120_111, b120_112, b120_115, b120_118, b120_121, b120_122, b120_125, b120_128, b120_129, b120_130, b120_131, b120_132, b120_133, b120_136, b120_139, b120_140, b120_143, b120_146, b120_147, b120_148, b120_149, b120_152, List.getElem?_cons_zero, List.getElem?_cons_succ, List.length_cons, List.length_nil, List.set_cons_zero, List.set_cons_succ, true_and, and_true, Option.toList_some, Option.toList_none, List.cons_append, List.nil_append, ↓reduceIte, not_false_eq_true, not_true_eq_false, Nat.reduceAdd, xj0_01, xj1_01, xb_B, xb_True, xb_False, ↓gpn_7 r0, ↓gpn_13 r0, ↓gk_0 r5.1, ↓gk_1 r5.1, rc_Day r5.2.2.1, rc_R v1.1, us, bp, xn, ↓xj_in, xj_nat, Int.toNat_natCast, xj_lt_t, xj_lt_f, xj_le_t, xj_le_f, xj_eq_t, xj_eq_f, xj_lt, xj_le, xj_eq, xj_add, xj_sub, xj_mul, show ¬ xj 1 = xj 0 from by decide]
          exact po
        · have ir := fun K' => s_inRow (D := D - 1) (K := K') (w := w) (z := y - 2) (k := B1.2.2.1) (by omega) v1.2.1 (by omega) (by omega) (by omega)
          have ea : planAns S.1 S.2.1 B y = (if 0 ≤ y - 2 ∧ y - 2 < B1.2.2.1 then B1.2.2.2 (y - 2).toNat else -2) := by
            unfold planAns
            rw [if_neg y3, if_neg y4, if_neg y5]
            by_cases ch : y - 2 < B.2.2.1
            · rw [if_pos ch, if_pos ⟨by omega, by omega⟩, b1d _ (by omega)]
            · rw [if_neg ch, if_neg (fun q => ch (by omega))]
          rw [ea] at po
          simp (disch := omega) only [b120_51, b120_52, b120_53, b120_88, b120_89, b120_92, b120_95, b120_96, b120_97, b120_100, b120_103, b120_104, b120_105, b120_108, b120_111, b120_112, b120_115, b120_118, b120_121, b120_122, b120_125, b120_128, b120_129, b120_130, b120_131, b120_132, b120_133, b120_136, b120_139, b120_140, b120_143, b120_146, b120_147, b120_148, b120_149, b120_152, List.getElem?_cons_zero, List.getElem?_cons_succ, List.length_cons, List.length_nil, List.set_cons_zero, List.set_cons_succ, true_and, and_true, Option.toList_some, Option.toList_none, List.cons_append, List.nil_append, ↓reduceIte, not_false_eq_true, not_true_eq_false, Nat.reduceAdd, xj0_01, xj1_01, xb_B, xb_True, xb_False, ↓gpn_7 r0, ↓gpn_13 r0, ↓gp_2 v1, ↓gp_3 v1, ir, ↓xj_in, xj_nat, Int.toNat_natCast, xj_lt_t, xj_lt_f, xj_le_t, xj_le_f, xj_eq_t, xj_eq_f, xj_lt, xj_le, xj_eq, xj_add, xj_sub, xj_mul, show ¬ xj 1 = xj 0 from by decide]
          exact po
      · have ht0 := told01 w1 c3
        have po := no (fun q => c3 q.1)
        simp (disch := omega) only [b120_0, b120_1, b120_4, b120_5, b120_7, b120_10, b120_11, b120_14, b120_17, b120_20, b120_23, b120_25, List.getElem?_cons_zero, List.getElem?_cons_succ, List.length_cons, List.length_nil, List.set_cons_zero, List.set_cons_succ, true_and, and_true, Option.toList_some, Option.toList_none, List.cons_append, List.nil_append, ↓reduceIte, not_false_eq_true, not_true_eq_false, Nat.reduceAdd, xj0_01, xj1_01, xb_B, xb_True, xb_False, ↓go_0 ho, ↓go_1 ho, ↓go_2 ho, ↓go_3 ho, ↓go_4 ho, ↓go_5 ho, ↓go_6 ho, ↓go_7 ho, ↓go_8 ho, ↓go_9 ho, ↓go_10 ho, ↓go_11 ho, ↓go_12 ho, ↓go_13 ho, ↓go_14 ho, ↓go_15 ho, ↓ao_1 ho, ↓ao_2 ho, ↓ao_3 ho, ↓ao_4 ho, ↓ao_5 ho, ↓ao_6 ho, ↓ao_7 ho, ↓ao_8 ho, ↓ao_9 ho, ↓gpn_7 p0, ↓gk_0 p5.1, ht0, ↓xj_in, xj_nat, Int.toNat_natCast, xj_lt_t, xj_lt_f, xj_le_t, xj_le_f, xj_eq_t, xj_eq_f, xj_lt, xj_le, xj_eq, xj_add, xj_sub, xj_mul, show ¬ xj 1 = xj 0 from by decide]
        exact po
    · have po := no (fun q => c2 q.2.2)
      simp (disch := omega) only [b120_0, b120_1, b120_4, b120_5, b120_7, b120_10, b120_11, b120_14, b120_17, b120_20, b120_23, b120_25, List.getElem?_cons_zero, List.getElem?_cons_succ, List.length_cons, List.length_nil, List.set_cons_zero, List.set_cons_succ, true_and, and_true, Option.toList_some, Option.toList_none, List.cons_append, List.nil_append, ↓reduceIte, not_false_eq_true, not_true_eq_false, Nat.reduceAdd, xj0_01, xj1_01, xb_B, xb_True, xb_False, ↓xj_in, xj_nat, Int.toNat_natCast, xj_lt_t, xj_lt_f, xj_le_t, xj_le_f, xj_eq_t, xj_eq_f, xj_lt, xj_le, xj_eq, xj_add, xj_sub, xj_mul, show ¬ xj 1 = xj 0 from by decide]
      exact po
  · have po := no (fun q => c1 q.2.1)
    simp (disch := omega) only [b120_0, b120_1, b120_4, b120_5, b120_7, b120_10, b120_11, b120_14, b120_17, b120_20, b120_23, b120_25, List.getElem?_cons_zero, List.getElem?_cons_succ, List.length_cons, List.length_nil, List.set_cons_zero, List.set_cons_succ, true_and, and_true, Option.toList_some, Option.toList_none, List.cons_append, List.nil_append, ↓reduceIte, not_false_eq_true, not_true_eq_false, Nat.reduceAdd, xj0_01, xj1_01, xb_B, xb_True, xb_False, ↓xj_in, xj_nat, Int.toNat_natCast, xj_lt_t, xj_lt_f, xj_le_t, xj_le_f, xj_eq_t, xj_eq_f, xj_lt, xj_le, xj_eq, xj_add, xj_sub, xj_mul, show ¬ xj 1 = xj 0 from by decide]
    exact po
theorem p_rings (hD : 5 ≤ D) (h : xv_Pen f a n nr T ru S H im I) (hw : PW S) : xk_Cl D 121 [.ref a] (f, w) K ↔ K (some (.int (xj (ringZ S.1)))) (f, w) := by
  rw [e121 (by omega)]
  obtain ⟨⟨w1, w2, w3, w4, w5, w6, w7, w8⟩, hvs, hvl⟩ := hw
  have p0 := h.1
  have p5 : xv_Dk f (a + 22) S := h.2.2.2.2.2.1
  have ho := p5.2.1
  unfold ringZ
  by_cases c3 : of_told S.1 = 1
  · have rg : ∀ K', xk_Cl (D - 1) 44 [.ref (a + 22 + 1), .int (xj 63)] (f, w) K' ↔ K' (some (.int (xj (ringsF S.1 63)))) (f, w) := fun K' => s_rings (q := 63) (by omega) ho w1 (by omega)
    rw [if_pos c3]
    simp (disch := omega) only [b121_0, b121_1, b121_4, b121_7, b121_10, b121_13, b121_14, b121_17, b121_20, b121_22, b121_25, b121_28, b121_29, List.getElem?_cons_zero, List.getElem?_cons_succ, List.length_cons, List.length_nil, List.set_cons_zero, List.set_cons_succ, true_and, and_true, Option.toList_some, Option.toList_none, List.cons_append, List.nil_append, ↓reduceIte, not_false_eq_true, not_true_eq_false, Nat.reduceAdd, xj0_01, xj1_01, xb_B, xb_True, xb_False, ↓go_0 ho, ↓go_1 ho, ↓go_2 ho, ↓go_3 ho, ↓go_4 ho, ↓go_5 ho, ↓go_6 ho, ↓go_7 ho, ↓go_8 ho, ↓go_9 ho, ↓go_10 ho, ↓go_11 ho, ↓go_12 ho, ↓go_13 ho, ↓go_14 ho, ↓go_15 ho, ↓ao_1 ho, ↓ao_2 ho, ↓ao_3 ho, ↓ao_4 ho, ↓ao_5 ho, ↓ao_6 ho, ↓ao_7 ho, ↓ao_8 ho, ↓ao_9 ho, ↓gpn_7 p0, ↓gk_0 p5.1, rc_Off ho, c3, rg, ↓xj_in, xj_nat, Int.toNat_natCast, xj_lt_t, xj_lt_f, xj_le_t, xj_le_f, xj_eq_t, xj_eq_f, xj_lt, xj_le, xj_eq, xj_add, xj_sub, xj_mul, show ¬ xj 1 = xj 0 from by decide]
  · have ht0 := told01 w1 c3
    rw [if_neg c3]
    simp (disch := omega) only [b121_0, b121_1, b121_4, b121_7, b121_10, b121_13, b121_14, b121_17, b121_20, b121_22, b121_25, b121_28, b121_29, List.getElem?_cons_zero, List.getElem?_cons_succ, List.length_cons, List.length_nil, List.set_cons_zero, List.set_cons_succ, true_and, and_true, Option.toList_some, Option.toList_none, List.cons_append, List.nil_append, ↓reduceIte, not_false_eq_true, not_true_eq_false, Nat.reduceAdd, xj0_01, xj1_01, xb_B, xb_True, xb_False, ↓go_0 ho, ↓go_1 ho, ↓go_2 ho, ↓go_3 ho, ↓go_4 ho, ↓go_5 ho, ↓go_6 ho, ↓go_7 ho, ↓go_8 ho, ↓go_9 ho, ↓go_10 ho, ↓go_11 ho, ↓go_12 ho, ↓go_13 ho, ↓go_14 ho, ↓go_15 ho, ↓ao_1 ho, ↓ao_2 ho, ↓ao_3 ho, ↓ao_4 ho, ↓ao_5 ho, ↓ao_6 ho, ↓ao_7 ho, ↓ao_8 ho, ↓ao_9 ho, ↓gpn_7 p0, ↓gk_0 p5.1, ht0, ↓xj_in, xj_nat, Int.toNat_natCast, xj_lt_t, xj_lt_f, xj_le_t, xj_le_f, xj_eq_t, xj_eq_f, xj_lt, xj_le, xj_eq, xj_add, xj_sub, xj_mul, show ¬ xj 1 = xj 0 from by decide]
theorem p_late (hD : 15 ≤ D) (h : xv_Pen f a n nr T ru S H im I) (hw : PW S) (hpost : ∀ f', (∀ x, (x < a ∨ a + 204 ≤ x) → f' x = f x) → xv_Pen f' a n nr T ru S H im I → K (some (.int (xj (lateZ S.1 S.2.1)))) (f', w)) : xk_Cl D 126 [.ref a] (f, w) K := by
  rw [e126 (by omega)]
  obtain ⟨⟨w1, w2, w3, w4, w5, w6, w7, w8⟩, hvs, hvl⟩ := hw
  have h0 := h
  obtain ⟨p0, p1, p2, p3, p4, p5, p6, p7, p8, p9, ⟨B, s0, q0, mo, row, ds, pl, bo⟩, p11⟩ := h
  have p5 : xv_Dk f (a + 22) S := p5
  have ho := p5.2.1
  unfold lateZ at hpost
  by_cases c3 : of_told S.1 = 1
  · rw [if_pos c3] at hpost
    simp (disch := omega) only [b126_0, b126_1, b126_4, b126_7, b126_10, b126_13, b126_14, b126_15, b126_16, b126_19, b126_20, b126_23, b126_26, b126_27, b126_30, List.getElem?_cons_zero, List.getElem?_cons_succ, List.length_cons, List.length_nil, List.set_cons_zero, List.set_cons_succ, true_and, and_true, Option.toList_some, Option.toList_none, List.cons_append, List.nil_append, ↓reduceIte, not_false_eq_true, not_true_eq_false, Nat.reduceAdd, xj0_01, xj1_01, xb_B, xb_True, xb_False, ↓go_0 ho, ↓go_1 ho, ↓go_2 ho, ↓go_3 ho, ↓go_4 ho, ↓go_5 ho, ↓go_6 ho, ↓go_7 ho, ↓go_8 ho, ↓go_9 ho, ↓go_10 ho, ↓go_11 ho, ↓go_12 ho, ↓go_13 ho, ↓go_14 ho, ↓go_15 ho, ↓ao_1 ho, ↓ao_2 ho, ↓ao_3 ho, ↓ao_4 ho, ↓ao_5 ho, ↓ao_6 ho, ↓ao_7 ho, ↓ao_8 ho, ↓ao_9 ho, ↓gpn_7 p0, ↓gpn_13 p0, ↓gk_0 p5.1, ↓gk_1 p5.1, c3, ↓xj_in, xj_nat, Int.toNat_natCast, xj_lt_t, xj_lt_f, xj_le_t, xj_le_f, xj_eq_t, xj_eq_f, xj_lt, xj_le, xj_eq, xj_add, xj_sub, xj_mul, show ¬ xj 1 = xj 0 from by decide]
    rw [b126_33, rc_R pl.1, true_and]
    refine u_leastLate (by omega) ho w1 pl p5.2.2.1 w4 w3 (by omega) (by omega) (fun f1 mo1 ds1 v1 e1 => ?_)
    have po := hpost f1 (fun x hx => e1 x (by omega)) ⟨P0_fr p0 (fun x q => e1 x (by omega)), P1_fr p1 (fun x q => e1 x (by omega)), P2_fr p2 (fun x q => e1 x (by omega)), P3_fr p3 (fun x q => e1 x (by omega)), P4_fr p4 (fun x q => e1 x (by omega)), P5_fr p5 (fun x q => e1 x (by omega)), P6_fr p6 (fun x q => e1 x (by omega)), P7_fr p7 (fun x q => e1 x (by omega)), P8_fr p8 (fun x q => e1 x (by omega)), P9_fr p9 (fun x q => e1 x (by omega)), ⟨B, s0, q0, mo1, row, ds1, v1, bo⟩, P11_fr p11 (fun x q => e1 x (by omega))⟩
    simp (disch := omega) only [b126_36, List.getElem?_cons_zero, List.getElem?_cons_succ, List.length_cons, List.length_nil, List.set_cons_zero, List.set_cons_succ, true_and, and_true, Option.toList_some, Option.toList_none, List.cons_append, List.nil_append, ↓reduceIte, not_false_eq_true, not_true_eq_false, Nat.reduceAdd, xj0_01, xj1_01, xb_B, xb_True, xb_False]
    exact po
  · have ht0 := told01 w1 c3
    rw [if_neg c3] at hpost
    have po := hpost f (fun _ _ => rfl) h0
    simp (disch := omega) only [b126_0, b126_1, b126_4, b126_7, b126_10, b126_13, b126_14, List.getElem?_cons_zero, List.getElem?_cons_succ, List.length_cons, List.length_nil, List.set_cons_zero, List.set_cons_succ, true_and, and_true, Option.toList_some, Option.toList_none, List.cons_append, List.nil_append, ↓reduceIte, not_false_eq_true, not_true_eq_false, Nat.reduceAdd, xj0_01, xj1_01, xb_B, xb_True, xb_False, ↓go_0 ho, ↓go_1 ho, ↓go_2 ho, ↓go_3 ho, ↓go_4 ho, ↓go_5 ho, ↓go_6 ho, ↓go_7 ho, ↓go_8 ho, ↓go_9 ho, ↓go_10 ho, ↓go_11 ho, ↓go_12 ho, ↓go_13 ho, ↓go_14 ho, ↓go_15 ho, ↓ao_1 ho, ↓ao_2 ho, ↓ao_3 ho, ↓ao_4 ho, ↓ao_5 ho, ↓ao_6 ho, ↓ao_7 ho, ↓ao_8 ho, ↓ao_9 ho, ↓gpn_7 p0, ↓gk_0 p5.1, ht0, ↓xj_in, xj_nat, Int.toNat_natCast, xj_lt_t, xj_lt_f, xj_le_t, xj_le_f, xj_eq_t, xj_eq_f, xj_lt, xj_le, xj_eq, xj_add, xj_sub, xj_mul, show ¬ xj 1 = xj 0 from by decide]
    exact po
end XS9b09
