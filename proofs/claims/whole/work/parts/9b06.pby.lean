/-! the pen: by, waits -/
section XS9b06
variable {D a b o k p q n nr r t c v fa s : Nat} {f f' : Nat → xk_C} {w : Nat × Nat × Nat} {K : Option Value → xk_S → Prop} {x y z : Int} {T : Nat → Int} {ru : Nat → Ru} {S : Dk} {H : Hi} {im : Nat → Int} {I : Nat → Dk} {d d1 : Dy}
theorem p_run (hD : 8 ≤ D) (h : xv_Pen f a n nr T ru S H im I) (hw : xw_Dk S) (hnr : nr ≤ 6) (hru : ∀ k, k < nr → ruOK (ru k)) (ht : t < nr) (hpost : ∀ f' row' wv', (∀ x, (x < a ∨ a + 204 ≤ x) → f' x = f x) → xv_Pen f' a n nr T ru S H im I → xv_Rn f' (a + 85) (byF S.1 (ru t) 6 S.2.1 0 row0).1 row' (byF S.1 (ru t) 6 S.2.1 0 row0).2.1 wv' → (∀ i, i < (byF S.1 (ru t) 6 S.2.1 0 row0).2.1 → row' i = (byF S.1 (ru t) 6 S.2.1 0 row0).2.2 i) → K none (f', w)) : xk_Cl D 79 [.ref (a + 85), .ref (a + 22 + 1), .ref (a + 22 + 11), .ref (a + 112 + 4 * t)] (f, w) K := by
  obtain ⟨w1, w2, w3, w4, w5, w6, w7, w8⟩ := hw
  obtain ⟨p0, p1, p2, p3, p4, p5, p6, p7, p8, ⟨dr, row, sz, wv, p9, z9⟩, p10, p11⟩ := h
  have p5 : xv_Dk f (a + 22) S := p5
  obtain ⟨cs, g, l1, l2, l3⟩ := p4.2 t (by omega)
  rw [l3 ht] at l1
  refine u_run (ru := ru t) hD p5.2.1 w1 p9 z9 p5.2.2.1 w3 w4 l1 l2 (hru t ht) (by omega) (by omega) (by omega) (by omega) (fun f1 row1 wv1 g1 e1 v1 z1 s1 r1 => ?_)
  have e : ∀ x, (x < a + 85 ∨ (a + 90 ≤ x ∧ x < a + 112) ∨ a + 136 ≤ x) → f1 x = f x := fun x hx => e1 x (by omega) (by omega)
  have v4 : P4 f1 a nr ru := by
    refine ⟨(e _ (by omega)).trans p4.1, fun k hk => ?_⟩
    obtain ⟨cs2, g2, m1, m2, m3⟩ := p4.2 k hk
    by_cases ck : k = t
    · subst ck
      exact ⟨cs2, g1, xL_fr m1 (fun x h1 h2 => e1 x (by omega) (by omega)), s1, m3⟩
    · exact ⟨cs2, g2, xL_fr m1 (fun x h1 h2 => e1 x (by omega) (by omega)), (e1 _ (by omega) (by omega)).trans m2, m3⟩
  exact hpost f1 row1 wv1 (fun x hx => e x (by omega)) ⟨P0_fr p0 (fun x q => e x (by omega)), P1_fr p1 (fun x q => e x (by omega)), P2_fr p2 (fun x q => e x (by omega)), P3_fr p3 (fun x q => e x (by omega)), v4, P5_fr p5 (fun x q => e x (by omega)), P6_fr p6 (fun x q => e x (by omega)), P7_fr p7 (fun x q => e x (by omega)), P8_fr p8 (fun x q => e x (by omega)), ⟨_, row1, _, wv1, v1, z1⟩, P10_fr p10 (fun x q => e x (by omega)), P11_fr p11 (fun x q => e x (by omega))⟩ v1 r1
/-- what by comes to, whatever is asked -/
def byZ (O : Of) (d : Dy) (nr : Nat) (ru : Nat → Ru) (x y : Int) : Int := if of_told O = 1 ∧ (0 ≤ x ∧ x < nr) ∧ 0 ≤ y ∧ y ≤ 8 then byAns O (byF O (ru x.toNat) 6 d 0 row0) y else -3
def waZ (O : Of) (d : Dy) (nr : Nat) (ru : Nat → Ru) (x y : Int) : Int := if (0 ≤ x ∧ x < of_nc O) ∧ 0 ≤ y ∧ y < nr then waAns O d (byF O (ru y.toNat) 6 d 0 row0) x else -1
theorem p_by (hD : 9 ≤ D) (h : xv_Pen f a n nr T ru S H im I) (hw : xw_Dk S) (hnr : nr ≤ 6) (hru : ∀ k, k < nr → ruOK (ru k)) (x1 : -2147483648 ≤ x) (x2 : x ≤ 2147483647) (y1 : -2147483648 ≤ y) (y2 : y ≤ 2147483647) (hpost : ∀ f', (∀ x, (x < a ∨ a + 204 ≤ x) → f' x = f x) → xv_Pen f' a n nr T ru S H im I → K (some (.int (xj (byZ S.1 S.2.1 nr ru x y)))) (f', w)) : xk_Cl D 116 [.ref a, .int (xj x), .int (xj y)] (f, w) K := by
  rw [e116 (by omega)]
  have hw' := hw
  obtain ⟨w1, w2, w3, w4, w5, w6, w7, w8⟩ := hw
  have hr := fun K' => s_hasRule (D := D - 1) (K := K') (w := w) (by omega) h hnr x1 x2
  have p0 := h.1
  have p4 := h.2.2.2.2.1
  have p5 : xv_Dk f (a + 22) S := h.2.2.2.2.2.1
  have ho := p5.2.1
  have no : ¬ (of_told S.1 = 1 ∧ (0 ≤ x ∧ x < nr) ∧ 0 ≤ y ∧ y ≤ 8) → K (some (.int (xj (-3)))) (f, w) := fun hz => by
    have po := hpost f (fun _ _ => rfl) h
    unfold byZ at po
    rw [if_neg hz] at po
    exact po
  by_cases c : 0 ≤ x ∧ x < nr
  · have xw : ∀ i, @xb (0 ≤ x ∧ x < nr) i = xj 1 := fun i => xb_T c
    by_cases c1 : 0 ≤ y
    · by_cases c2 : y ≤ 8
      · by_cases c3 : of_told S.1 = 1
        · obtain ⟨t, rfl⟩ : ∃ t : Nat, x = t := ⟨x.toNat, by omega⟩
          have ht : t < nr := by omega
          have a4 : ∀ V, xk_ALQ f (a + 21) (xj (t : Nat)) V ↔ V (.ref (a + 112 + 4 * t)) := fun V => al_4 p4.1 (Or.inl rfl) (by omega) (by decide) (if_pos (by omega))
          have ey : byZ S.1 S.2.1 nr ru (t : Nat) y = byAns S.1 (byF S.1 (ru t) 6 S.2.1 0 row0) y := by unfold byZ; rw [if_pos ⟨c3, c, c1, c2⟩, Int.toNat_natCast]
          rw [ey] at hpost
          simp (disch := omega) only [b116_0, b116_1, b116_2, b116_5, b116_8, b116_9, b116_12, b116_13, b116_15, b116_18, b116_19, b116_22, b116_25, b116_28, b116_31, b116_33, b116_34, b116_35, b116_38, b116_39, b116_42, b116_45, b116_46, b116_49, b116_52, b116_53, b116_56, b116_57, List.getElem?_cons_zero, List.getElem?_cons_succ, List.length_cons, List.length_nil, List.set_cons_zero, List.set_cons_succ, true_and, and_true, Option.toList_some, Option.toList_none, List.cons_append, List.nil_append, ↓reduceIte, not_false_eq_true, not_true_eq_false, Nat.reduceAdd, xj0_01, xj1_01, xb_B, xb_True, xb_False, ↓go_0 ho, ↓go_1 ho, ↓go_2 ho, ↓go_3 ho, ↓go_4 ho, ↓go_5 ho, ↓go_6 ho, ↓go_7 ho, ↓go_8 ho, ↓go_9 ho, ↓go_10 ho, ↓go_11 ho, ↓go_12 ho, ↓go_13 ho, ↓go_14 ho, ↓go_15 ho, ↓ao_1 ho, ↓ao_2 ho, ↓ao_3 ho, ↓ao_4 ho, ↓ao_5 ho, ↓ao_6 ho, ↓ao_7 ho, ↓ao_8 ho, ↓ao_9 ho, ↓gpn_5 p0, ↓gpn_7 p0, ↓gpn_12 p0, ↓gk_0 p5.1, ↓gk_1 p5.1, rc_Pen p0, hr, xw, c3, ↓a4, ↓xj_in, xj_nat, Int.toNat_natCast, xj_lt_t, xj_lt_f, xj_le_t, xj_le_f, xj_eq_t, xj_eq_f, xj_lt, xj_le, xj_eq, xj_add, xj_sub, xj_mul, show ¬ xj 1 = xj 0 from by decide]
          obtain ⟨dr, row, sz, wv, p9, z9⟩ := h.2.2.2.2.2.2.2.2.2.1
          rw [b116_58, rc_Rn p9, true_and]
          refine p_run (by omega) h hw' hnr hru ht (fun f1 row1 wv1 e1 h1 v1 r1 => ?_)
          obtain ⟨be1, be2, be3⟩ := by_ends (ru := ru t) w1 6 S.2.1 0 row0 w3 (fun i hi => absurd hi (by omega))
          have po := hpost f1 e1 h1
          generalize byF S.1 (ru t) 6 S.2.1 0 row0 = tr at *
          have q0 := h1.1
          have q5 : xv_Dk f1 (a + 22) S := h1.2.2.2.2.2.1
          have cs : y = 0 ∨ y = 1 ∨ y = 2 ∨ 3 ≤ y := by omega
          rcases cs with rfl | rfl | rfl | cy
          · have wt := fun K' => s_worthInTime (D := D - 1) (K := K') (w := w) (by omega) q5.2.1 w1 v1.2.1 be1
            rw [show byAns S.1 tr 0 = smF (inTF S.1 tr.1) (of_wo S.1) (of_np S.1) from rfl] at po
            simp (disch := omega) only [b116_61, b116_62, b116_88, b116_89, b116_92, b116_95, b116_96, b116_99, b116_102, b116_105, b116_106, b116_107, b116_110, b116_113, b116_116, b116_117, b116_118, b116_121, b116_124, b116_125, b116_126, b116_129, b116_132, b116_133, b116_136, b116_139, b116_140, b116_141, b116_142, b116_145, List.getElem?_cons_zero, List.getElem?_cons_succ, List.length_cons, List.length_nil, List.set_cons_zero, List.set_cons_succ, true_and, and_true, Option.toList_some, Option.toList_none, List.cons_append, List.nil_append, ↓reduceIte, not_false_eq_true, not_true_eq_false, Nat.reduceAdd, xj0_01, xj1_01, xb_B, xb_True, xb_False, ↓gpn_7 q0, ↓gpn_12 q0, ↓gk_0 q5.1, ↓gn_0 v1, rc_Day v1.2.1, wt, ↓xj_in, xj_nat, Int.toNat_natCast, xj_lt_t, xj_lt_f, xj_le_t, xj_le_f, xj_eq_t, xj_eq_f, xj_lt, xj_le, xj_eq, xj_add, xj_sub, xj_mul, show ¬ xj 1 = xj 0 from by decide]
            exact po
          · rw [show byAns S.1 tr 1 = tr.1.1 from rfl] at po
            simp (disch := omega) only [b116_61, b116_62, b116_88, b116_89, b116_92, b116_95, b116_96, b116_99, b116_102, b116_105, b116_106, b116_107, b116_110, b116_113, b116_116, b116_117, b116_118, b116_121, b116_124, b116_125, b116_126, b116_129, b116_132, b116_133, b116_136, b116_139, b116_140, b116_141, b116_142, b116_145, List.getElem?_cons_zero, List.getElem?_cons_succ, List.length_cons, List.length_nil, List.set_cons_zero, List.set_cons_succ, true_and, and_true, Option.toList_some, Option.toList_none, List.cons_append, List.nil_append, ↓reduceIte, not_false_eq_true, not_true_eq_false, Nat.reduceAdd, xj0_01, xj1_01, xb_B, xb_True, xb_False, ↓gpn_7 q0, ↓gpn_12 q0, ↓gn_0 v1, ↓gv_0 v1.2.1, ↓xj_in, xj_nat, Int.toNat_natCast, xj_lt_t, xj_lt_f, xj_le_t, xj_le_f, xj_eq_t, xj_eq_f, xj_lt, xj_le, xj_eq, xj_add, xj_sub, xj_mul, show ¬ xj 1 = xj 0 from by decide]
            exact po
          · rw [show byAns S.1 tr 2 = (tr.2.1 : Nat) from rfl] at po
            simp (disch := omega) only [b116_61, b116_62, b116_88, b116_89, b116_92, b116_95, b116_96, b116_99, b116_102, b116_105, b116_106, b116_107, b116_110, b116_113, b116_116, b116_117, b116_118, b116_121, b116_124, b116_125, b116_126, b116_129, b116_132, b116_133, b116_136, b116_139, b116_140, b116_141, b116_142, b116_145, List.getElem?_cons_zero, List.getElem?_cons_succ, List.length_cons, List.length_nil, List.set_cons_zero, List.set_cons_succ, true_and, and_true, Option.toList_some, Option.toList_none, List.cons_append, List.nil_append, ↓reduceIte, not_false_eq_true, not_true_eq_false, Nat.reduceAdd, xj0_01, xj1_01, xb_B, xb_True, xb_False, ↓gpn_7 q0, ↓gpn_12 q0, ↓gn_2 v1, ↓xj_in, xj_nat, Int.toNat_natCast, xj_lt_t, xj_lt_f, xj_le_t, xj_le_f, xj_eq_t, xj_eq_f, xj_lt, xj_le, xj_eq, xj_add, xj_sub, xj_mul, show ¬ xj 1 = xj 0 from by decide]
            exact po
          · have ir := fun K' => s_inRow (D := D - 1) (K := K') (w := w) (z := y - 3) (k := tr.2.1) (by omega) v1.2.2.1 (by omega) (by omega) (by omega)
            have ea : byAns S.1 tr y = (if 0 ≤ y - 3 ∧ y - 3 < tr.2.1 then row1 (y - 3).toNat else -2) := by
              unfold byAns
              rw [if_neg (by omega), if_neg (by omega), if_neg (by omega)]
              by_cases ch : y - 3 < tr.2.1
              · rw [if_pos ch, if_pos ⟨by omega, ch⟩, r1 _ (by omega)]
              · rw [if_neg ch, if_neg (fun q => ch q.2)]
            rw [ea] at po
            simp (disch := omega) only [b116_61, b116_62, b116_88, b116_89, b116_92, b116_95, b116_96, b116_99, b116_102, b116_105, b116_106, b116_107, b116_110, b116_113, b116_116, b116_117, b116_118, b116_121, b116_124, b116_125, b116_126, b116_129, b116_132, b116_133, b116_136, b116_139, b116_140, b116_141, b116_142, b116_145, List.getElem?_cons_zero, List.getElem?_cons_succ, List.length_cons, List.length_nil, List.set_cons_zero, List.set_cons_succ, true_and, and_true, Option.toList_some, Option.toList_none, List.cons_append, List.nil_append, ↓reduceIte, not_false_eq_true, not_true_eq_false, Nat.reduceAdd, xj0_01, xj1_01, xb_B, xb_True, xb_False, ↓gpn_7 q0, ↓gpn_12 q0, ↓gn_1 v1, ↓gn_2 v1, ir, ↓xj_in, xj_nat, Int.toNat_natCast, xj_lt_t, xj_lt_f, xj_le_t, xj_le_f, xj_eq_t, xj_eq_f, xj_lt, xj_le, xj_eq, xj_add, xj_sub, xj_mul, show ¬ xj 1 = xj 0 from by decide]
            exact po
        · have ht0 : of_told S.1 = 0 := by rcases w1.1 with ⟨q, _⟩ | ⟨q, _⟩ <;> omega
          have po := no (fun q => c3 q.1)
          simp (disch := omega) only [b116_0, b116_1, b116_2, b116_5, b116_8, b116_9, b116_12, b116_13, b116_15, b116_18, b116_19, b116_22, b116_25, b116_28, b116_31, b116_33, List.getElem?_cons_zero, List.getElem?_cons_succ, List.length_cons, List.length_nil, List.set_cons_zero, List.set_cons_succ, true_and, and_true, Option.toList_some, Option.toList_none, List.cons_append, List.nil_append, ↓reduceIte, not_false_eq_true, not_true_eq_false, Nat.reduceAdd, xj0_01, xj1_01, xb_B, xb_True, xb_False, ↓go_0 ho, ↓go_1 ho, ↓go_2 ho, ↓go_3 ho, ↓go_4 ho, ↓go_5 ho, ↓go_6 ho, ↓go_7 ho, ↓go_8 ho, ↓go_9 ho, ↓go_10 ho, ↓go_11 ho, ↓go_12 ho, ↓go_13 ho, ↓go_14 ho, ↓go_15 ho, ↓ao_1 ho, ↓ao_2 ho, ↓ao_3 ho, ↓ao_4 ho, ↓ao_5 ho, ↓ao_6 ho, ↓ao_7 ho, ↓ao_8 ho, ↓ao_9 ho, ↓gpn_7 p0, ↓gk_0 p5.1, rc_Pen p0, hr, xw, ht0, ↓xj_in, xj_nat, Int.toNat_natCast, xj_lt_t, xj_lt_f, xj_le_t, xj_le_f, xj_eq_t, xj_eq_f, xj_lt, xj_le, xj_eq, xj_add, xj_sub, xj_mul, show ¬ xj 1 = xj 0 from by decide]
          exact po
      · have po := no (fun q => c2 q.2.2.2)
        simp (disch := omega) only [b116_0, b116_1, b116_2, b116_5, b116_8, b116_9, b116_12, b116_13, b116_15, b116_18, b116_19, b116_22, b116_25, b116_28, b116_31, b116_33, List.getElem?_cons_zero, List.getElem?_cons_succ, List.length_cons, List.length_nil, List.set_cons_zero, List.set_cons_succ, true_and, and_true, Option.toList_some, Option.toList_none, List.cons_append, List.nil_append, ↓reduceIte, not_false_eq_true, not_true_eq_false, Nat.reduceAdd, xj0_01, xj1_01, xb_B, xb_True, xb_False, rc_Pen p0, hr, xw, ↓xj_in, xj_nat, Int.toNat_natCast, xj_lt_t, xj_lt_f, xj_le_t, xj_le_f, xj_eq_t, xj_eq_f, xj_lt, xj_le, xj_eq, xj_add, xj_sub, xj_mul, show ¬ xj 1 = xj 0 from by decide]
        exact po
    · have po := no (fun q => c1 q.2.2.1)
      simp (disch := omega) only [b116_0, b116_1, b116_2, b116_5, b116_8, b116_9, b116_12, b116_13, b116_15, b116_18, b116_19, b116_22, b116_25, b116_28, b116_31, b116_33, List.getElem?_cons_zero, List.getElem?_cons_succ, List.length_cons, List.length_nil, List.set_cons_zero, List.set_cons_succ, true_and, and_true, Option.toList_some, Option.toList_none, List.cons_append, List.nil_append, ↓reduceIte, not_false_eq_true, not_true_eq_false, Nat.reduceAdd, xj0_01, xj1_01, xb_B, xb_True, xb_False, rc_Pen p0, hr, xw, ↓xj_in, xj_nat, Int.toNat_natCast, xj_lt_t, xj_lt_f, xj_le_t, xj_le_f, xj_eq_t, xj_eq_f, xj_lt, xj_le, xj_eq, xj_add, xj_sub, xj_mul, show ¬ xj 1 = xj 0 from by decide]
      exact po
  · have xw : ∀ i, @xb (0 ≤ x ∧ x < nr) i = xj 0 := fun i => xb_F c
    have po := no (fun q => c q.2.1)
    simp (disch := omega) only [b116_0, b116_1, b116_2, b116_5, b116_8, b116_9, b116_12, b116_13, b116_15, b116_18, b116_19, b116_22, b116_25, b116_28, b116_31, b116_33, List.getElem?_cons_zero, List.getElem?_cons_succ, List.length_cons, List.length_nil, List.set_cons_zero, List.set_cons_succ, true_and, and_true, Option.toList_some, Option.toList_none, List.cons_append, List.nil_append, ↓reduceIte, not_false_eq_true, not_true_eq_false, Nat.reduceAdd, xj0_01, xj1_01, xb_B, xb_True, xb_False, rc_Pen p0, hr, xw, ↓xj_in, xj_nat, Int.toNat_natCast, xj_lt_t, xj_lt_f, xj_le_t, xj_le_f, xj_eq_t, xj_eq_f, xj_lt, xj_le, xj_eq, xj_add, xj_sub, xj_mul, show ¬ xj 1 = xj 0 from by decide]
    exact po
theorem p_waits (hD : 9 ≤ D) (h : xv_Pen f a n nr T ru S H im I) (hw : xw_Dk S) (hnr : nr ≤ 6) (hru : ∀ k, k < nr → ruOK (ru k)) (x1 : -2147483648 ≤ x) (x2 : x ≤ 2147483647) (y1 : -2147483648 ≤ y) (y2 : y ≤ 2147483647) (hpost : ∀ f', (∀ x, (x < a ∨ a + 204 ≤ x) → f' x = f x) → xv_Pen f' a n nr T ru S H im I → K (some (.int (xj (waZ S.1 S.2.1 nr ru x y)))) (f', w)) : xk_Cl D 117 [.ref a, .int (xj x), .int (xj y)] (f, w) K := by
  rw [e117 (by omega)]
  have hw' := hw
  obtain ⟨w1, w2, w3, w4, w5, w6, w7, w8⟩ := hw
  have hr := fun K' => s_hasRule (D := D - 1) (K := K') (w := w) (by omega) h hnr y1 y2
  have p0 := h.1
  have p4 := h.2.2.2.2.1
  have p5 : xv_Dk f (a + 22) S := h.2.2.2.2.2.1
  have ho := p5.2.1
  have hc := fun K' => s_hasClerk (D := D - 1) (K := K') (w := w) (by omega) ho w1 x1 x2
  have no : ¬ ((0 ≤ x ∧ x < of_nc S.1) ∧ 0 ≤ y ∧ y < nr) → K (some (.int (xj (-1)))) (f, w) := fun hz => by
    have po := hpost f (fun _ _ => rfl) h
    unfold waZ at po
    rw [if_neg hz] at po
    exact po
  by_cases c : 0 ≤ x ∧ x < of_nc S.1
  · have xw : ∀ i, @xb (0 ≤ x ∧ x < of_nc S.1) i = xj 1 := fun i => xb_T c
    by_cases c2 : 0 ≤ y ∧ y < nr
    · have xr : ∀ i, @xb (0 ≤ y ∧ y < nr) i = xj 1 := fun i => xb_T c2
      obtain ⟨t, rfl⟩ : ∃ t : Nat, y = t := ⟨y.toNat, by omega⟩
      have ht : t < nr := by omega
      have a4 : ∀ V, xk_ALQ f (a + 21) (xj (t : Nat)) V ↔ V (.ref (a + 112 + 4 * t)) := fun V => al_4 p4.1 (Or.inl rfl) (by omega) (by decide) (if_pos (by omega))
      have ey : waZ S.1 S.2.1 nr ru x (t : Nat) = waAns S.1 S.2.1 (byF S.1 (ru t) 6 S.2.1 0 row0) x := by unfold waZ; rw [if_pos ⟨c, c2⟩, Int.toNat_natCast]
      rw [ey] at hpost
      simp (disch := omega) only [b117_0, b117_1, b117_4, b117_7, b117_8, b117_11, b117_14, b117_15, b117_16, b117_19, b117_22, b117_23, b117_24, b117_25, b117_28, b117_29, b117_32, b117_35, b117_36, b117_39, b117_42, b117_43, b117_46, b117_47, List.getElem?_cons_zero, List.getElem?_cons_succ, List.length_cons, List.length_nil, List.set_cons_zero, List.set_cons_succ, true_and, and_true, Option.toList_some, Option.toList_none, List.cons_append, List.nil_append, ↓reduceIte, not_false_eq_true, not_true_eq_false, Nat.reduceAdd, xj0_01, xj1_01, xb_B, xb_True, xb_False, ↓go_0 ho, ↓go_1 ho, ↓go_2 ho, ↓go_3 ho, ↓go_4 ho, ↓go_5 ho, ↓go_6 ho, ↓go_7 ho, ↓go_8 ho, ↓go_9 ho, ↓go_10 ho, ↓go_11 ho, ↓go_12 ho, ↓go_13 ho, ↓go_14 ho, ↓go_15 ho, ↓ao_1 ho, ↓ao_2 ho, ↓ao_3 ho, ↓ao_4 ho, ↓ao_5 ho, ↓ao_6 ho, ↓ao_7 ho, ↓ao_8 ho, ↓ao_9 ho, ↓gpn_5 p0, ↓gpn_7 p0, ↓gpn_12 p0, ↓gk_0 p5.1, ↓gk_1 p5.1, rc_Pen p0, rc_Off ho, hc, hr, xw, xr, ↓a4, ↓xj_in, xj_nat, Int.toNat_natCast, xj_lt_t, xj_lt_f, xj_le_t, xj_le_f, xj_eq_t, xj_eq_f, xj_lt, xj_le, xj_eq, xj_add, xj_sub, xj_mul, show ¬ xj 1 = xj 0 from by decide]
      obtain ⟨dr, row, sz, wv, p9, z9⟩ := h.2.2.2.2.2.2.2.2.2.1
      rw [b117_48, rc_Rn p9, true_and]
      refine p_run (by omega) h hw' hnr hru ht (fun f1 row1 wv1 e1 h1 v1 r1 => ?_)
      obtain ⟨be1, be2, be3⟩ := by_ends (ru := ru t) w1 6 S.2.1 0 row0 w3 (fun i hi => absurd hi (by omega))
      have po := hpost f1 e1 h1
      generalize byF S.1 (ru t) 6 S.2.1 0 row0 = tr at *
      have q0 := h1.1
      have q5 : xv_Dk f1 (a + 22) S := h1.2.2.2.2.2.1
      have wo := fun K' => s_waitOf (D := D - 1) (K := K') (w := w) (z := x) (x := S.2.1.1) (d := S.2.1) (tr := tr) (by omega) q5.2.1 w1 v1 r1 (by omega) (fun i hi => ⟨(be3 i hi).1, (be3 i hi).2.1, (be3 i hi).2.2, (be1.2.2.2.2.2.2.2.2.2.2.2 _ (by have := be3 i hi; omega)).2⟩) rfl w3.1 w3.2.1 x1 x2
      simp (disch := omega) only [b117_51, b117_52, b117_55, b117_56, b117_59, b117_62, b117_63, b117_64, b117_67, b117_70, b117_73, b117_76, List.getElem?_cons_zero, List.getElem?_cons_succ, List.length_cons, List.length_nil, List.set_cons_zero, List.set_cons_succ, true_and, and_true, Option.toList_some, Option.toList_none, List.cons_append, List.nil_append, ↓reduceIte, not_false_eq_true, not_true_eq_false, Nat.reduceAdd, xj0_01, xj1_01, xb_B, xb_True, xb_False, ↓gpn_7 q0, ↓gpn_12 q0, ↓gk_0 q5.1, ↓gk_1 q5.1, ↓gv_0 q5.2.2.1, rc_Rn v1, wo, ↓xj_in, xj_nat, Int.toNat_natCast, xj_lt_t, xj_lt_f, xj_le_t, xj_le_f, xj_eq_t, xj_eq_f, xj_lt, xj_le, xj_eq, xj_add, xj_sub, xj_mul, show ¬ xj 1 = xj 0 from by decide]
      exact po
    · have xr : ∀ i, @xb (0 ≤ y ∧ y < nr) i = xj 0 := fun i => xb_F c2
      have po := no (fun q => c2 q.2)
      simp (disch := omega) only [b117_0, b117_1, b117_4, b117_7, b117_8, b117_11, b117_14, b117_15, b117_16, b117_19, b117_22, b117_23, List.getElem?_cons_zero, List.getElem?_cons_succ, List.length_cons, List.length_nil, List.set_cons_zero, List.set_cons_succ, true_and, and_true, Option.toList_some, Option.toList_none, List.cons_append, List.nil_append, ↓reduceIte, not_false_eq_true, not_true_eq_false, Nat.reduceAdd, xj0_01, xj1_01, xb_B, xb_True, xb_False, ↓gpn_7 p0, ↓gk_0 p5.1, rc_Pen p0, rc_Off ho, hc, hr, xw, xr, ↓xj_in, xj_nat, Int.toNat_natCast, xj_lt_t, xj_lt_f, xj_le_t, xj_le_f, xj_eq_t, xj_eq_f, xj_lt, xj_le, xj_eq, xj_add, xj_sub, xj_mul, show ¬ xj 1 = xj 0 from by decide]
      exact po
  · have xw : ∀ i, @xb (0 ≤ x ∧ x < of_nc S.1) i = xj 0 := fun i => xb_F c
    have po := no (fun q => c q.1)
    simp (disch := omega) only [b117_0, b117_1, b117_4, b117_7, b117_8, b117_11, b117_14, b117_15, b117_16, b117_19, b117_22, b117_23, List.getElem?_cons_zero, List.getElem?_cons_succ, List.length_cons, List.length_nil, List.set_cons_zero, List.set_cons_succ, true_and, and_true, Option.toList_some, Option.toList_none, List.cons_append, List.nil_append, ↓reduceIte, not_false_eq_true, not_true_eq_false, Nat.reduceAdd, xj0_01, xj1_01, xb_B, xb_True, xb_False, ↓gpn_7 p0, ↓gk_0 p5.1, rc_Off ho, hc, xw, ↓xj_in, xj_nat, Int.toNat_natCast, xj_lt_t, xj_lt_f, xj_le_t, xj_le_f, xj_eq_t, xj_eq_f, xj_lt, xj_le, xj_eq, xj_add, xj_sub, xj_mul, show ¬ xj 1 = xj 0 from by decide]
    exact po
end XS9b06
