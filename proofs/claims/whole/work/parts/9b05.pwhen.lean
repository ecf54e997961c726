/-! the pen: when, by, waits -/
theorem wr_void {O : Of} {d : Dy} {p q : Nat} (hp : p < 31) (hv : d.2.2.2.2.2.1.testBit p = false) : (writeD O d p q).2.2.2.2.2.1.testBit p = voidB O d p q := by
  show (if nibF O d p < 0 ∨ noRF O d p q = true then d.2.2.2.2.2.1 ||| 2 ^ p else d.2.2.2.2.2.1).testBit p = _
  unfold voidB
  by_cases c : nibF O d p < 0
  · rw [if_pos (Or.inl c), decide_eq_true c, Nat.testBit_or, Nat.testBit_two_pow_self, Bool.or_true, Bool.true_or]
  · rw [decide_eq_false c, Bool.false_or]
    cases h : noRF O d p q with
    | true => rw [if_pos (Or.inr rfl), Nat.testBit_or, Nat.testBit_two_pow_self, Bool.or_true]
    | false => rw [if_neg (fun r => by rcases r with r | r; exact c r; cases r), hv]
theorem wr_sign {O : Of} {d : Dy} {p q : Nat} : (writeD O d p q).2.2.2.2.1.testBit p = true := by
  show (d.2.2.2.2.1 ||| 2 ^ p).testBit p = true
  rw [Nat.testBit_or, Nat.testBit_two_pow_self, Bool.or_true]
theorem wr_end {O : Of} {d : Dy} {p q : Nat} : (writeD O d p q).2.2.2.2.2.2.2 p = endF O d p := by
  show upI d.2.2.2.2.2.2.2 p (endF O d p) p = _
  rw [upI_v, if_pos rfl]
section XS9b05
variable {D a b o k p q n nr r t c v fa s : Nat} {f f' : Nat → xk_C} {w : Nat × Nat × Nat} {K : Option Value → xk_S → Prop} {x y z : Int} {T : Nat → Int} {ru : Nat → Ru} {S : Dk} {H : Hi} {im : Nat → Int} {I : Nat → Dk} {d d1 : Dy}
theorem p_when (hD : 6 ≤ D) (h : xv_Pen f a n nr T ru S H im I) (hw : PW S) (x1 : -2147483648 ≤ x) (x2 : x ≤ 2147483647) (y1 : -2147483648 ≤ y) (y2 : y ≤ 2147483647) (hpost : ∀ f', (∀ x, (x < a ∨ a + 204 ≤ x) → f' x = f x) → xv_Pen f' a n nr T ru S H im I → K (some (.int (xj (whenF S.1 S.2.1 x y)))) (f', w)) : xk_Cl D 115 [.ref a, .int (xj x), .int (xj y)] (f, w) K := by
  rw [e115 (by omega)]
  obtain ⟨⟨w1, w2, w3, w4, w5, w6, w7, w8⟩, hvs, hvl⟩ := hw
  have hn := w1.2.2.2.1
  have p0 := h.1
  have p5 : xv_Dk f (a + 22) S := h.2.2.2.2.2.1
  have hd := p5.2.2.1
  have hp := fun K' => s_hasPaper (D := D - 1) (K := K') (w := w) (by omega) p5.2.1 w1 x1 x2
  have hsg : S.2.1.2.2.2.2.1 < 2 ^ of_np S.1 := w3.2.2.2.2.2.2.2.2.1
  by_cases cy : 0 ≤ y ∧ y ≤ 2
  · by_cases c : 0 ≤ x ∧ x < of_np S.1
    · obtain ⟨p, rfl⟩ : ∃ p : Nat, x = p := ⟨x.toNat, by omega⟩
      have hpn : p < of_np S.1 := by omega
      have xw : ∀ i, @xb (0 ≤ ((p : Nat) : Int) ∧ ((p : Nat) : Int) < of_np S.1) i = xj 1 := fun i => xb_T c
      have has := fun K' => s_has (D := D - 1) (K := K') (f := f) (w := w) (k := p) (by omega) (w1.n31 hsg) (by omega)
      by_cases c2 : S.2.1.2.2.2.2.1.testBit p = true
      · have xh : ∀ i, @xb (S.2.1.2.2.2.2.1.testBit p = true) i = xj 1 := fun i => xb_T c2
        have po := hpost f (fun _ _ => rfl) h
        have e : whenF S.1 S.2.1 (p : Nat) y = -3 := by unfold whenF; rw [if_neg (fun q => by rw [Int.toNat_natCast, c2] at q; cases q.2.1)]
        rw [e] at po
        simp (disch := omega) only [b115_0, b115_1, b115_4, b115_5, b115_6, b115_9, b115_10, b115_13, b115_16, b115_17, b115_20, b115_23, b115_24, b115_27, b115_30, b115_33, b115_34, b115_37, b115_40, b115_42, List.getElem?_cons_zero, List.getElem?_cons_succ, List.length_cons, List.length_nil, List.set_cons_zero, List.set_cons_succ, true_and, and_true, Option.toList_some, Option.toList_none, List.cons_append, List.nil_append, ↓reduceIte, not_false_eq_true, not_true_eq_false, Nat.reduceAdd, xj0_01, xj1_01, xb_B, xb_True, xb_False, ↓gpn_7 p0, ↓gk_0 p5.1, ↓gk_1 p5.1, ↓gv_4 hd, rc_Off p5.2.1, hp, xw, has, xh, ↓xj_in, xj_nat, Int.toNat_natCast, xj_lt_t, xj_lt_f, xj_le_t, xj_le_f, xj_eq_t, xj_eq_f, xj_lt, xj_le, xj_eq, xj_add, xj_sub, xj_mul, show ¬ xj 1 = xj 0 from by decide]
        exact po
      · have c3 : S.2.1.2.2.2.2.1.testBit p = false := by cases hh : S.2.1.2.2.2.2.1.testBit p; rfl; exact absurd hh c2
        have xh : ∀ i, @xb (S.2.1.2.2.2.2.1.testBit p = true) i = xj 0 := fun i => xb_F c2
        have hv0 : S.2.1.2.2.2.2.2.1.testBit p = false := by
          cases hh : S.2.1.2.2.2.2.2.1.testBit p
          · rfl
          · rw [hvs p hh] at c3; cases c3
        have ew : whenF S.1 S.2.1 (p : Nat) y = (if canF S.1 S.2.1 (p : Nat) = true then (if y = 0 then endF S.1 S.2.1 p else if y = 1 then (if voidB S.1 S.2.1 p 63 then 1 else 0) else if voidB S.1 S.2.1 p 63 = false ∧ endF S.1 S.2.1 p ≤ of_du S.1 p then 1 else 0) else -2) := by
          unfold whenF
          rw [Int.toNat_natCast, if_pos ⟨c, c3, cy⟩]
        rw [ew] at hpost
        simp (disch := omega) only [b115_0, b115_1, b115_4, b115_5, b115_6, b115_9, b115_10, b115_13, b115_16, b115_17, b115_20, b115_23, b115_24, b115_27, b115_30, b115_33, b115_34, b115_37, b115_40, b115_42, b115_43, b115_44, b115_47, b115_48, b115_51, List.getElem?_cons_zero, List.getElem?_cons_succ, List.length_cons, List.length_nil, List.set_cons_zero, List.set_cons_succ, true_and, and_true, Option.toList_some, Option.toList_none, List.cons_append, List.nil_append, ↓reduceIte, not_false_eq_true, not_true_eq_false, Nat.reduceAdd, xj0_01, xj1_01, xb_B, xb_True, xb_False, ↓gpn_7 p0, ↓gpn_11 p0, ↓gk_0 p5.1, ↓gk_1 p5.1, ↓gv_4 hd, rc_Off p5.2.1, hp, xw, has, xh, ↓xj_in, xj_nat, Int.toNat_natCast, xj_lt_t, xj_lt_f, xj_le_t, xj_le_f, xj_eq_t, xj_eq_f, xj_lt, xj_le, xj_eq, xj_add, xj_sub, xj_mul, show ¬ xj 1 = xj 0 from by decide]
        rw [b115_54, rc_8 h, true_and]
        refine p_trial (by omega) h w4 (fun f1 e1 d1 => ?_)
        have h1 := pen_8 h e1 d1 w4
        have q0 := h1.1
        have q5 : xv_Dk f1 (a + 22) S := h1.2.2.2.2.2.1
        cases hc : canF S.1 S.2.1 (p : Nat) with
        | false =>
          rw [hc, if_neg (by decide)] at hpost
          have po := hpost f1 (fun x hx => e1 x (by omega)) h1
          have wr : ∀ K', xk_Cl (D - 1) 10 [.ref (a + 83), .ref (a + 22 + 1), .int (xj (p : Nat)), .int (xj 63)] (f1, w) K' ↔ _ := fun K' => s_write_no (by omega) q5.2.1 w1 d1 w3 x1 x2 hc
          simp (disch := omega) only [b115_57, b115_58, b115_61, b115_62, b115_65, b115_68, b115_69, b115_71, b115_74, b115_75, b115_76, b115_77, b115_80, b115_82, List.getElem?_cons_zero, List.getElem?_cons_succ, List.length_cons, List.length_nil, List.set_cons_zero, List.set_cons_succ, true_and, and_true, Option.toList_some, Option.toList_none, List.cons_append, List.nil_append, ↓reduceIte, not_false_eq_true, not_true_eq_false, Nat.reduceAdd, xj0_01, xj1_01, xb_B, xb_True, xb_False, ↓gpn_7 q0, ↓gpn_11 q0, ↓gk_0 q5.1, rc_Day d1, wr, ↓xj_in, xj_nat, Int.toNat_natCast, xj_lt_t, xj_lt_f, xj_le_t, xj_le_f, xj_eq_t, xj_eq_f, xj_lt, xj_le, xj_eq, xj_add, xj_sub, xj_mul, show ¬ xj 1 = xj 0 from by decide]
          exact po
        | true =>
          rw [hc, if_pos rfl] at hpost
          have he := can_wr w1 w3 hc
          have wr : ∀ K', xk_Cl (D - 1) 10 [.ref (a + 83), .ref (a + 22 + 1), .int (xj (p : Nat)), .int (xj 63)] (f1, w) K' ↔ K' (some (.int (xj (endF S.1 S.2.1 p)))) (xs_Day f1 (a + 83) (writeD S.1 S.2.1 p 63), w) := fun K' => s_write (q := 63) (by omega) q5.2.1 w1 d1 w3 (by omega) hc (by decide)
          simp (disch := omega) only [b115_57, b115_58, b115_61, b115_62, b115_65, b115_68, b115_69, b115_71, b115_74, b115_75, b115_76, b115_77, List.getElem?_cons_zero, List.getElem?_cons_succ, List.length_cons, List.length_nil, List.set_cons_zero, List.set_cons_succ, true_and, and_true, Option.toList_some, Option.toList_none, List.cons_append, List.nil_append, ↓reduceIte, not_false_eq_true, not_true_eq_false, Nat.reduceAdd, xj0_01, xj1_01, xb_B, xb_True, xb_False, ↓gpn_7 q0, ↓gpn_11 q0, ↓gk_0 q5.1, rc_Day d1, wr, ↓xj_in, xj_nat, Int.toNat_natCast, xj_lt_t, xj_lt_f, xj_le_t, xj_le_f, xj_eq_t, xj_eq_f, xj_lt, xj_le, xj_eq, xj_add, xj_sub, xj_mul, show ¬ xj 1 = xj 0 from by decide]
          have e2 : ∀ x, (x < a + 83 ∨ a + 85 ≤ x) → xs_Day f1 (a + 83) (writeD S.1 S.2.1 p 63) x = f1 x := fun x hx => xs_Day_ne (by omega) (by omega)
          have d2 := xs_Day_v f1 (a + 83) (writeD S.1 S.2.1 p 63)
          have z2' : xz_Day (writeD S.1 S.2.1 p 63) := xz_writeD w4 (by omega)
          have w2' : xw_Day S.1 (writeD S.1 S.2.1 p 63) := xw_writeD w1 w3 hc
          have hvd := wr_void (O := S.1) (q := 63) (show p < 31 by omega) hv0
          have hit : inTF S.1 (writeD S.1 S.2.1 p 63) p = (!voidB S.1 S.2.1 p 63 && decide (endF S.1 S.2.1 p ≤ of_du S.1 p)) := by rw [inTF_b (by omega), wr_sign, hvd, wr_end, Bool.true_and]
          generalize xs_Day f1 (a + 83) (writeD S.1 S.2.1 p 63) = f2 at *
          have h2 := pen_8 h1 e2 d2 z2'
          have po := hpost f2 (fun x hx => by rw [e2 x (by omega), e1 x (by omega)]) h2
          have r0 := h2.1
          have r5 : xv_Dk f2 (a + 22) S := h2.2.2.2.2.2.1
          have r5o := r5.2.1
          by_cases c5 : y = 0
          · rw [if_pos c5] at po
            simp (disch := omega) only [b115_83, b115_84, b115_87, b115_88, List.getElem?_cons_zero, List.getElem?_cons_succ, List.length_cons, List.length_nil, List.set_cons_zero, List.set_cons_succ, true_and, and_true, Option.toList_some, Option.toList_none, List.cons_append, List.nil_append, ↓reduceIte, not_false_eq_true, not_true_eq_false, Nat.reduceAdd, xj0_01, xj1_01, xb_B, xb_True, xb_False, ↓xj_in, xj_nat, Int.toNat_natCast, xj_lt_t, xj_lt_f, xj_le_t, xj_le_f, xj_eq_t, xj_eq_f, xj_lt, xj_le, xj_eq, xj_add, xj_sub, xj_mul, show ¬ xj 1 = xj 0 from by decide]
            exact po
          · rw [if_neg c5] at po
            by_cases c6 : y = 1
            · rw [if_pos c6] at po
              have hv : (writeD S.1 S.2.1 p 63).2.2.2.2.2.1 < 2147483648 := w1.n31 w2'.2.2.2.2.2.2.2.2.2.1
              have b1 := fun K' => s_bit (D := D - 1) (K := K') (f := f2) (w := w) (k := p) (by omega) hv (by omega)
              have e5 : xb ((writeD S.1 S.2.1 p 63).2.2.2.2.2.1.testBit p = true) = xj (if voidB S.1 S.2.1 p 63 then 1 else 0) := by rw [hvd]; unfold xb; split <;> rfl
              simp (disch := omega) only [b115_83, b115_84, b115_87, b115_88, b115_89, b115_90, b115_91, b115_94, b115_95, b115_98, b115_101, b115_102, b115_105, b115_108, b115_109, b115_112, b115_113, b115_116, b115_119, b115_120, b115_123, b115_126, b115_127, b115_130, b115_131, List.getElem?_cons_zero, List.getElem?_cons_succ, List.length_cons, List.length_nil, List.set_cons_zero, List.set_cons_succ, true_and, and_true, Option.toList_some, Option.toList_none, List.cons_append, List.nil_append, ↓reduceIte, not_false_eq_true, not_true_eq_false, Nat.reduceAdd, xj0_01, xj1_01, xb_B, xb_True, xb_False, ↓gpn_11 r0, ↓gv_5 d2, b1, e5, ↓xj_in, xj_nat, Int.toNat_natCast, xj_lt_t, xj_lt_f, xj_le_t, xj_le_f, xj_eq_t, xj_eq_f, xj_lt, xj_le, xj_eq, xj_add, xj_sub, xj_mul, show ¬ xj 1 = xj 0 from by decide]
              exact po
            · rw [if_neg c6] at po
              have it := fun K' => s_inTime (D := D - 1) (K := K') (w := w) (by omega) r5o w1 d2 w2' hpn
              by_cases ci : inTF S.1 (writeD S.1 S.2.1 p 63) p = true
              · have xi : ∀ i, @xb (inTF S.1 (writeD S.1 S.2.1 p 63) p = true) i = xj 1 := fun i => xb_T ci
                rw [hit] at ci
                rw [if_pos (by simpa using ci)] at po
                simp (disch := omega) only [b115_83, b115_84, b115_87, b115_88, b115_89, b115_90, b115_91, b115_94, b115_95, b115_98, b115_101, b115_102, b115_105, b115_108, b115_109, b115_112, b115_113, b115_116, b115_119, b115_120, b115_123, b115_126, b115_127, b115_130, b115_131, List.getElem?_cons_zero, List.getElem?_cons_succ, List.length_cons, List.length_nil, List.set_cons_zero, List.set_cons_succ, true_and, and_true, Option.toList_some, Option.toList_none, List.cons_append, List.nil_append, ↓reduceIte, not_false_eq_true, not_true_eq_false, Nat.reduceAdd, xj0_01, xj1_01, xb_B, xb_True, xb_False, ↓gpn_7 r0, ↓gpn_11 r0, ↓gk_0 r5.1, rc_Day d2, it, xi, ↓xj_in, xj_nat, Int.toNat_natCast, xj_lt_t, xj_lt_f, xj_le_t, xj_le_f, xj_eq_t, xj_eq_f, xj_lt, xj_le, xj_eq, xj_add, xj_sub, xj_mul, show ¬ xj 1 = xj 0 from by decide]
                exact po
              · have xi : ∀ i, @xb (inTF S.1 (writeD S.1 S.2.1 p 63) p = true) i = xj 0 := fun i => xb_F ci
                rw [hit] at ci
                rw [if_neg (by simpa using ci)] at po
                simp (disch := omega) only [b115_83, b115_84, b115_87, b115_88, b115_89, b115_90, b115_91, b115_94, b115_95, b115_98, b115_101, b115_102, b115_105, b115_108, b115_109, b115_112, b115_113, b115_116, b115_119, b115_120, b115_123, b115_126, b115_127, b115_130, b115_131, List.getElem?_cons_zero, List.getElem?_cons_succ, List.length_cons, List.length_nil, List.set_cons_zero, List.set_cons_succ, true_and, and_true, Option.toList_some, Option.toList_none, List.cons_append, List.nil_append, ↓reduceIte, not_false_eq_true, not_true_eq_false, Nat.reduceAdd, xj0_01, xj1_01, xb_B, xb_True, xb_False, ↓gpn_7 r0, ↓gpn_11 r0, ↓gk_0 r5.1, rc_Day d2, it, xi, ↓xj_in, xj_nat, Int.toNat_natCast, xj_lt_t, xj_lt_f, xj_le_t, xj_le_f, xj_eq_t, xj_eq_f, xj_lt, xj_le, xj_eq, xj_add, xj_sub, xj_mul, show ¬ xj 1 = xj 0 from by decide]
                exact po
    · have xw : ∀ i, @xb (0 ≤ x ∧ x < of_np S.1) i = xj 0 := fun i => xb_F c
      have po := hpost f (fun _ _ => rfl) h
      have e : whenF S.1 S.2.1 x y = -3 := by unfold whenF; rw [if_neg (fun q => c q.1)]
      rw [e] at po
      simp (disch := omega) only [b115_0, b115_1, b115_4, b115_5, b115_6, b115_9, b115_10, b115_13, b115_16, b115_17, b115_20, b115_23, b115_24, b115_27, b115_30, b115_33, b115_34, b115_37, b115_40, b115_42, List.getElem?_cons_zero, List.getElem?_cons_succ, List.length_cons, List.length_nil, List.set_cons_zero, List.set_cons_succ, true_and, and_true, Option.toList_some, Option.toList_none, List.cons_append, List.nil_append, ↓reduceIte, not_false_eq_true, not_true_eq_false, Nat.reduceAdd, xj0_01, xj1_01, xb_B, xb_True, xb_False, ↓gpn_7 p0, ↓gk_0 p5.1, ↓gk_1 p5.1, rc_Off p5.2.1, hp, xw, ↓xj_in, xj_nat, Int.toNat_natCast, xj_lt_t, xj_lt_f, xj_le_t, xj_le_f, xj_eq_t, xj_eq_f, xj_lt, xj_le, xj_eq, xj_add, xj_sub, xj_mul, show ¬ xj 1 = xj 0 from by decide]
      exact po
  · have po := hpost f (fun _ _ => rfl) h
    have e : whenF S.1 S.2.1 x y = -3 := by unfold whenF; rw [if_neg (fun q => cy q.2.2)]
    rw [e] at po
    by_cases cz : 0 ≤ y
    · simp (disch := omega) only [b115_0, b115_1, b115_4, b115_5, b115_6, b115_9, b115_10, b115_13, b115_16, b115_17, b115_20, b115_23, b115_24, b115_27, b115_30, b115_33, b115_34, b115_37, b115_40, b115_42, List.getElem?_cons_zero, List.getElem?_cons_succ, List.length_cons, List.length_nil, List.set_cons_zero, List.set_cons_succ, true_and, and_true, Option.toList_some, Option.toList_none, List.cons_append, List.nil_append, ↓reduceIte, not_false_eq_true, not_true_eq_false, Nat.reduceAdd, xj0_01, xj1_01, xb_B, xb_True, xb_False, ↓xj_in, xj_nat, Int.toNat_natCast, xj_lt_t, xj_lt_f, xj_le_t, xj_le_f, xj_eq_t, xj_eq_f, xj_lt, xj_le, xj_eq, xj_add, xj_sub, xj_mul, show ¬ xj 1 = xj 0 from by decide]
      exact po
    · simp (disch := omega) only [b115_0, b115_1, b115_4, b115_5, b115_6, b115_9, b115_10, b115_13, b115_16, b115_17, b115_20, b115_23, b115_24, b115_27, b115_30, b115_33, b115_34, b115_37, b115_40, b115_42, List.getElem?_cons_zero, List.getElem?_cons_succ, List.length_cons, List.length_nil, List.set_cons_zero, List.set_cons_succ, true_and, and_true, Option.toList_some, Option.toList_none, List.cons_append, List.nil_append, ↓reduceIte, not_false_eq_true, not_true_eq_false, Nat.reduceAdd, xj0_01, xj1_01, xb_B, xb_True, xb_False, ↓xj_in, xj_nat, Int.toNat_natCast, xj_lt_t, xj_lt_f, xj_le_t, xj_le_f, xj_eq_t, xj_eq_f, xj_lt, xj_le, xj_eq, xj_add, xj_sub, xj_mul, show ¬ xj 1 = xj 0 from by decide]
      exact po
end XS9b05
