/-! the pen: blanks -/
def clB (O : Of) (all : Nat) : Nat → Nat
  | 0 => all
  | n + 1 => if (n &&& (all ^^^ 2147483647)) = 0 ∧ bcF n < bcF (clB O all n) ∧ ringsF O (all &&& (n ^^^ 2147483647)) = 0 then n else clB O all n
theorem clB_lt {O : Of} {all : Nat} (h : all < 64) : ∀ n, n ≤ 64 → clB O all n < 64 := by
  intro n
  induction n with
  | zero => intro _; exact h
  | succ n ih =>
    intro hn
    have := ih (by omega)
    unfold clB
    split
    · omega
    · exact this
theorem sub_bc : ∀ all, all < 64 → ∀ n, n < all → (n &&& (all ^^^ 2147483647)) = 0 → bcF n < bcF all := by decide +kernel
theorem clB_eq {O : Of} {all : Nat} (hw : xw_Off O) (h : all < 64) : blF O all (all + 1) = clB O all (all + 1) := by
  have step : ∀ n, n ≤ all → (blF O all n = -1 ∧ clB O all n = all) ∨ (blF O all n = clB O all n ∧ bcF (clB O all n) < bcF all) := by
    intro n
    induction n with
    | zero => intro _; exact Or.inl ⟨rfl, rfl⟩
    | succ n ih =>
      intro hn
      have e1 : blF O all (n + 1) = if ¬ (n &&& (all ^^^ 2147483647)) = 0 ∨ (0 ≤ blF O all n ∧ bcF (blF O all n).toNat ≤ bcF n) then blF O all n else if ringM O (all &&& (n ^^^ 2147483647)) = 0 then (n : Int) else blF O all n := rfl
      have e2 : clB O all (n + 1) = if (n &&& (all ^^^ 2147483647)) = 0 ∧ bcF n < bcF (clB O all n) ∧ ringsF O (all &&& (n ^^^ 2147483647)) = 0 then n else clB O all n := rfl
      rw [rings_eq hw] at e1
      by_cases c1 : (n &&& (all ^^^ 2147483647)) = 0
      · have hb := sub_bc all h n (by omega) c1
        rcases ih (by omega) with ⟨i1, i2⟩ | ⟨i1, i2⟩
        · rw [i2] at e2
          rw [i1, if_neg (by intro q; rcases q with q | q; exact q c1; omega)] at e1
          by_cases c2 : ringsF O (all &&& (n ^^^ 2147483647)) = 0
          · rw [if_pos c2] at e1
            rw [if_pos ⟨c1, hb, c2⟩] at e2
            rw [e1, e2]
            exact Or.inr ⟨rfl, hb⟩
          · rw [if_neg c2] at e1
            rw [if_neg (fun q => c2 q.2.2)] at e2
            exact Or.inl ⟨e1, e2⟩
        · rw [i1, Int.toNat_natCast] at e1
          by_cases c3 : bcF n < bcF (clB O all n)
          · rw [if_neg (by intro q; rcases q with q | q; exact q c1; omega)] at e1
            by_cases c2 : ringsF O (all &&& (n ^^^ 2147483647)) = 0
            · rw [if_pos c2] at e1
              rw [if_pos ⟨c1, c3, c2⟩] at e2
              rw [e1, e2]
              exact Or.inr ⟨rfl, hb⟩
            · rw [if_neg c2] at e1
              rw [if_neg (fun q => c2 q.2.2)] at e2
              rw [e1, e2]
              exact Or.inr ⟨rfl, i2⟩
          · rw [if_pos (Or.inr ⟨by omega, by omega⟩)] at e1
            rw [if_neg (fun q => c3 q.2.1)] at e2
            rw [e1, e2]
            exact Or.inr ⟨rfl, i2⟩
      · rw [if_pos (Or.inl c1)] at e1
        rw [if_neg (fun q => c1 q.1)] at e2
        rw [e1, e2]
        exact ih (by omega)
  have e1 : blF O all (all + 1) = if ¬ (all &&& (all ^^^ 2147483647)) = 0 ∨ (0 ≤ blF O all all ∧ bcF (blF O all all).toNat ≤ bcF all) then blF O all all else if ringM O (all &&& (all ^^^ 2147483647)) = 0 then (all : Int) else blF O all all := rfl
  have e2 : clB O all (all + 1) = if (all &&& (all ^^^ 2147483647)) = 0 ∧ bcF all < bcF (clB O all all) ∧ ringsF O (all &&& (all ^^^ 2147483647)) = 0 then all else clB O all all := rfl
  rw [and_not_self all (by omega)] at e1 e2
  rcases step all (Nat.le_refl _) with ⟨i1, i2⟩ | ⟨i1, i2⟩
  · rw [i1, if_neg (by intro q; rcases q with q | q; exact q rfl; omega), ring0, if_pos rfl] at e1
    rw [i2, if_neg (fun q => Nat.lt_irrefl _ q.2.1)] at e2
    rw [e1, e2]
  · rw [i1, Int.toNat_natCast, if_pos (Or.inr ⟨by omega, by omega⟩)] at e1
    rw [if_neg (fun q => by have := q.2.1; omega)] at e2
    rw [e1, e2]
theorem pool_eq {O : Of} {d : Dy} (hw : xw_Off O) : unsF O d &&& (d.2.2.2.2.2.2.1 ^^^ 2147483647) = poolF O d := by
  have hn := hw.2.2.2.1
  apply Nat.eq_of_testBit_eq
  intro i
  by_cases hi : i < 31
  · rw [xt_andnot hi]
    unfold unsF poolF
    rw [msk_bit, msk_bit, Bool.and_assoc]
  · unfold unsF poolF
    rw [Nat.testBit_and, msk_bit, msk_bit, decide_eq_false (by omega)]
    simp
def blZ (O : Of) (d : Dy) (y : Int) : Int := if of_told O = 1 ∧ 0 ≤ y ∧ y ≤ 1 then blAns O d y else -1
section XS9b11
variable {D a b o k p q n nr r t c v fa s : Nat} {f f' : Nat → xk_C} {w : Nat × Nat × Nat} {K : Option Value → xk_S → Prop} {x y z : Int} {T : Nat → Int} {ru : Nat → Ru} {S : Dk} {H : Hi} {im : Nat → Int} {I : Nat → Dk} {d d1 : Dy}
theorem p_least (hD : 4 ≤ D) (h : xv_Pen f a n nr T ru S H im I) (hw : PW S) (hs : s < 64) : xk_Cl D 123 [.ref a, .int (xj (s : Nat))] (f, w) K ↔ K (some (.int (xj (clB S.1 s (s + 1) : Nat)))) (f, w) := by
  rw [e123 (by omega)]
  obtain ⟨⟨w1, w2, w3, w4, w5, w6, w7, w8⟩, hvs, hvl⟩ := hw
  have p0 := h.1
  have p5 : xv_Dk f (a + 22) S := h.2.2.2.2.2.1
  have ho := p5.2.1
  have key := xk_down (J := Unit) (n := s + 1) (P := fun r _ => xk_B (D - 1) 123 4 [.ref a, .int (xj (s : Nat)), .int (xj (clB S.1 s r : Nat)), .int (xj (r : Nat))] [] (f, w) K) (Q := K (some (.int (xj (clB S.1 s (s + 1) : Nat)))) (f, w)) (fun j => ?_) (fun r hrr ih j => ?_) 0 (Nat.zero_le _) ()
  · simp (disch := omega) only [b123_0, b123_1, b123_2, b123_3, List.getElem?_cons_zero, List.getElem?_cons_succ, List.length_cons, List.length_nil, List.set_cons_zero, List.set_cons_succ, true_and, and_true, Option.toList_some, Option.toList_none, List.cons_append, List.nil_append, ↓reduceIte, not_false_eq_true, not_true_eq_false, Nat.reduceAdd, xj0_01, xj1_01, xb_B, xb_True, xb_False]
    exact key
  · have hc := clB_lt (O := S.1) hs (s + 1) (by omega)
    simp (disch := omega) only [b123_4, b123_5, b123_6, b123_54, b123_55, List.getElem?_cons_zero, List.getElem?_cons_succ, List.length_cons, List.length_nil, List.set_cons_zero, List.set_cons_succ, true_and, and_true, Option.toList_some, Option.toList_none, List.cons_append, List.nil_append, ↓reduceIte, not_false_eq_true, not_true_eq_false, Nat.reduceAdd, xj0_01, xj1_01, xb_B, xb_True, xb_False, ↓xj_in, xj_nat, Int.toNat_natCast, xj_lt_t, xj_lt_f, xj_le_t, xj_le_f, xj_eq_t, xj_eq_f, xj_lt, xj_le, xj_eq, xj_add, xj_sub, xj_mul, show ¬ xj 1 = xj 0 from by decide]
  · have hc := clB_lt (O := S.1) hs r (by omega)
    have e : clB S.1 s (r + 1) = if (r &&& (s ^^^ 2147483647)) = 0 ∧ bcF r < bcF (clB S.1 s r) ∧ ringsF S.1 (s &&& (r ^^^ 2147483647)) = 0 then r else clB S.1 s r := rfl
    have a1 := xj_not (a := r) (b := s) (by omega) (by omega)
    have a2 := xj_not (a := s) (b := r) (by omega) (by omega)
    have l1 : r &&& (s ^^^ 2147483647) < 64 := and64 (by omega)
    have l2 : s &&& (r ^^^ 2147483647) < 64 := and64 hs
    have b1 := fun K' => s_bitCount (D := D - 1) (n := r) (f := f) (w := w) (K := K') (by omega) (by omega)
    have b2 := fun K' => s_bitCount (D := D - 1) (n := clB S.1 s r) (f := f) (w := w) (K := K') (by omega) (by omega)
    have bl1 := bc_le r
    have bl2 := bc_le (clB S.1 s r)
    have rg := fun K' => s_rings (D := D - 1) (K := K') (w := w) (q := s &&& (r ^^^ 2147483647)) (by omega) ho w1 (by omega)
    have hrl : ringsF S.1 (s &&& (r ^^^ 2147483647)) < 64 := Nat.lt_of_lt_of_le (msk_lt _ _) (Nat.pow_le_pow_right (n := 2) (i := of_np S.1) (j := 6) (by decide) w1.2.2.2.1)
    rw [b123_4, ← ih (), e]
    by_cases c1 : (r &&& (s ^^^ 2147483647)) = 0
    · have c1' : ((r &&& (s ^^^ 2147483647) : Nat) : Int) = 0 := by omega
      by_cases c2 : bcF r < bcF (clB S.1 s r)
      · by_cases c3 : ringsF S.1 (s &&& (r ^^^ 2147483647)) = 0
        · have c3' : ((ringsF S.1 (s &&& (r ^^^ 2147483647)) : Nat) : Int) = 0 := by omega
          rw [if_pos ⟨c1, c2, c3⟩]
          (simp (disch := omega) only [b123_5, b123_6, b123_9, b123_10, b123_11, b123_12, b123_13, b123_14, b123_17, b123_18, b123_21, b123_22, b123_25, b123_28, b123_29, b123_32, b123_35, b123_36, b123_37, b123_38, b123_39, b123_40, b123_43, b123_46, b123_47, b123_48, b123_51, List.getElem?_cons_zero, List.getElem?_cons_succ, List.length_cons, List.length_nil, List.set_cons_zero, List.set_cons_succ, true_and, and_true, Option.toList_some, Option.toList_none, List.cons_append, List.nil_append, ↓reduceIte, not_false_eq_true, not_true_eq_false, Nat.reduceAdd, xj0_01, xj1_01, xb_B, xb_True, xb_False, ↓gpn_7 p0, ↓gk_0 p5.1, rc_Off ho, a1, a2, b1, b2, rg, c1', c3', ↓xj_in, xj_nat, Int.toNat_natCast, xj_lt_t, xj_lt_f, xj_le_t, xj_le_f, xj_eq_t, xj_eq_f, xj_lt, xj_le, xj_eq, xj_add, xj_sub, xj_mul, show ¬ xj 1 = xj 0 from by decide]) <;> rfl
        · rw [if_neg (fun q => c3 q.2.2)]
          (simp (disch := omega) only [b123_5, b123_6, b123_9, b123_10, b123_11, b123_12, b123_13, b123_14, b123_17, b123_18, b123_21, b123_22, b123_25, b123_28, b123_29, b123_32, b123_35, b123_36, b123_37, b123_38, b123_39, b123_40, b123_43, b123_46, b123_47, b123_48, b123_51, List.getElem?_cons_zero, List.getElem?_cons_succ, List.length_cons, List.length_nil, List.set_cons_zero, List.set_cons_succ, true_and, and_true, Option.toList_some, Option.toList_none, List.cons_append, List.nil_append, ↓reduceIte, not_false_eq_true, not_true_eq_false, Nat.reduceAdd, xj0_01, xj1_01, xb_B, xb_True, xb_False, ↓gpn_7 p0, ↓gk_0 p5.1, rc_Off ho, a1, a2, b1, b2, rg, c1', ↓xj_in, xj_nat, Int.toNat_natCast, xj_lt_t, xj_lt_f, xj_le_t, xj_le_f, xj_eq_t, xj_eq_f, xj_lt, xj_le, xj_eq, xj_add, xj_sub, xj_mul, show ¬ xj 1 = xj 0 from by decide]) <;> rfl
      · rw [if_neg (fun q => c2 q.2.1)]
        (simp (disch := omega) only [b123_5, b123_6, b123_9, b123_10, b123_11, b123_12, b123_13, b123_14, b123_17, b123_18, b123_21, b123_22, b123_25, b123_28, b123_29, b123_32, b123_35, b123_36, b123_37, b123_38, b123_39, b123_40, b123_43, b123_46, b123_47, b123_48, b123_51, List.getElem?_cons_zero, List.getElem?_cons_succ, List.length_cons, List.length_nil, List.set_cons_zero, List.set_cons_succ, true_and, and_true, Option.toList_some, Option.toList_none, List.cons_append, List.nil_append, ↓reduceIte, not_false_eq_true, not_true_eq_false, Nat.reduceAdd, xj0_01, xj1_01, xb_B, xb_True, xb_False, a1, b1, b2, c1', ↓xj_in, xj_nat, Int.toNat_natCast, xj_lt_t, xj_lt_f, xj_le_t, xj_le_f, xj_eq_t, xj_eq_f, xj_lt, xj_le, xj_eq, xj_add, xj_sub, xj_mul, show ¬ xj 1 = xj 0 from by decide]) <;> rfl
    · rw [if_neg (fun q => c1 q.1)]
      (simp (disch := omega) only [b123_5, b123_6, b123_9, b123_10, b123_11, b123_12, b123_13, b123_14, b123_17, b123_18, b123_21, b123_22, b123_25, b123_28, b123_29, b123_32, b123_35, b123_36, b123_37, b123_38, b123_39, b123_40, b123_43, b123_46, b123_47, b123_48, b123_51, List.getElem?_cons_zero, List.getElem?_cons_succ, List.length_cons, List.length_nil, List.set_cons_zero, List.set_cons_succ, true_and, and_true, Option.toList_some, Option.toList_none, List.cons_append, List.nil_append, ↓reduceIte, not_false_eq_true, not_true_eq_false, Nat.reduceAdd, xj0_01, xj1_01, xb_B, xb_True, xb_False, a1, ↓xj_in, xj_nat, Int.toNat_natCast, xj_lt_t, xj_lt_f, xj_le_t, xj_le_f, xj_eq_t, xj_eq_f, xj_lt, xj_le, xj_eq, xj_add, xj_sub, xj_mul, show ¬ xj 1 = xj 0 from by decide]) <;> rfl
theorem p_blanks (hD : 5 ≤ D) (h : xv_Pen f a n nr T ru S H im I) (hw : PW S) (y1 : -2147483648 ≤ y) (y2 : y ≤ 2147483647) : xk_Cl D 122 [.ref a, .int (xj y)] (f, w) K ↔ K (some (.int (xj (blZ S.1 S.2.1 y)))) (f, w) := by
  rw [e122 (by omega)]
  have hw' := hw
  obtain ⟨⟨w1, w2, w3, w4, w5, w6, w7, w8⟩, hvs, hvl⟩ := hw
  have p0 := h.1
  have p5 : xv_Dk f (a + 22) S := h.2.2.2.2.2.1
  have ho := p5.2.1
  have hd := p5.2.2.1
  unfold blZ
  by_cases c1 : 0 ≤ y
  · by_cases c2 : y ≤ 1
    · by_cases c3 : of_told S.1 = 1
      · have hpl := pool_lt (d := S.2.1) w1
        have hu := uns_lt (d := S.2.1) w1
        have hb : S.2.1.2.2.2.2.2.2.1 < 2147483648 := w1.n31 w3.2.2.2.2.2.2.2.2.2.2.1
        have us := fun K' => s_unsF (D := D - 1) (K := K') (w := w) (by omega) ho w1 hd w3
        have xn := xj_not (show unsF S.1 S.2.1 < 2147483648 by omega) hb
        rw [pool_eq w1] at xn
        have le := fun K' => p_least (D := D - 1) (K := K') (w := w) (by omega) h hw' hpl
        have ec := clB_eq w1 hpl
        have hcl := clB_lt (O := S.1) hpl (poolF S.1 S.2.1 + 1) (by omega)
        rw [if_pos ⟨c3, c1, c2⟩]
        unfold blAns
        rw [ec, Int.toNat_natCast]
        have b2 := fun K' => s_bitCount (D := D - 1) (n := clB S.1 (poolF S.1 S.2.1) (poolF S.1 S.2.1 + 1)) (f := f) (w := w) (K := K') (by omega) (by omega)
        by_cases c4 : y = 0
        · rw [if_pos c4]
          simp (disch := omega) only [b122_0, b122_1, b122_4, b122_5, b122_6, b122_9, b122_10, b122_13, b122_16, b122_19, b122_22, b122_23, b122_24, b122_25, b122_26, b122_29, b122_32, b122_33, b122_36, b122_39, b122_42, b122_43, b122_46, b122_49, b122_52, b122_53, b122_54, b122_55, b122_58, b122_59, b122_60, b122_63, b122_64, b122_67, b122_68, b122_71, List.getElem?_cons_zero, List.getElem?_cons_succ, List.length_cons, List.length_nil, List.set_cons_zero, List.set_cons_succ, true_and, and_true, Option.toList_some, Option.toList_none, List.cons_append, List.nil_append, ↓reduceIte, not_false_eq_true, not_true_eq_false, Nat.reduceAdd, xj0_01, xj1_01, xb_B, xb_True, xb_False, ↓go_0 ho, ↓go_1 ho, ↓go_2 ho, ↓go_3 ho, ↓go_4 ho, ↓go_5 ho, ↓go_6 ho, ↓go_7 ho, ↓go_8 ho, ↓go_9 ho, ↓go_10 ho, ↓go_11 ho, ↓go_12 ho, ↓go_13 ho, ↓go_14 ho, ↓go_15 ho, ↓ao_1 ho, ↓ao_2 ho, ↓ao_3 ho, ↓ao_4 ho, ↓ao_5 ho, ↓ao_6 ho, ↓ao_7 ho, ↓ao_8 ho, ↓ao_9 ho, ↓gpn_7 p0, ↓gk_0 p5.1, ↓gk_1 p5.1, ↓gv_6 hd, rc_Day hd, rc_Pen p0, c3, us, xn, le, ↓xj_in, xj_nat, Int.toNat_natCast, xj_lt_t, xj_lt_f, xj_le_t, xj_le_f, xj_eq_t, xj_eq_f, xj_lt, xj_le, xj_eq, xj_add, xj_sub, xj_mul, show ¬ xj 1 = xj 0 from by decide]
        · rw [if_neg c4]
          simp (disch := omega) only [b122_0, b122_1, b122_4, b122_5, b122_6, b122_9, b122_10, b122_13, b122_16, b122_19, b122_22, b122_23, b122_24, b122_25, b122_26, b122_29, b122_32, b122_33, b122_36, b122_39, b122_42, b122_43, b122_46, b122_49, b122_52, b122_53, b122_54, b122_55, b122_58, b122_59, b122_60, b122_63, b122_64, b122_67, b122_68, b122_71, List.getElem?_cons_zero, List.getElem?_cons_succ, List.length_cons, List.length_nil, List.set_cons_zero, List.set_cons_succ, true_and, and_true, Option.toList_some, Option.toList_none, List.cons_append, List.nil_append, ↓reduceIte, not_false_eq_true, not_true_eq_false, Nat.reduceAdd, xj0_01, xj1_01, xb_B, xb_True, xb_False, ↓go_0 ho, ↓go_1 ho, ↓go_2 ho, ↓go_3 ho, ↓go_4 ho, ↓go_5 ho, ↓go_6 ho, ↓go_7 ho, ↓go_8 ho, ↓go_9 ho, ↓go_10 ho, ↓go_11 ho, ↓go_12 ho, ↓go_13 ho, ↓go_14 ho, ↓go_15 ho, ↓ao_1 ho, ↓ao_2 ho, ↓ao_3 ho, ↓ao_4 ho, ↓ao_5 ho, ↓ao_6 ho, ↓ao_7 ho, ↓ao_8 ho, ↓ao_9 ho, ↓gpn_7 p0, ↓gk_0 p5.1, ↓gk_1 p5.1, ↓gv_6 hd, rc_Day hd, rc_Pen p0, c3, us, xn, le, b2, ↓xj_in, xj_nat, Int.toNat_natCast, xj_lt_t, xj_lt_f, xj_le_t, xj_le_f, xj_eq_t, xj_eq_f, xj_lt, xj_le, xj_eq, xj_add, xj_sub, xj_mul, show ¬ xj 1 = xj 0 from by decide]
      · have ht0 := told01 w1 c3
        rw [if_neg (fun q => c3 q.1)]
        simp (disch := omega) only [b122_0, b122_1, b122_4, b122_5, b122_6, b122_9, b122_10, b122_13, b122_16, b122_19, b122_22, b122_23, List.getElem?_cons_zero, List.getElem?_cons_succ, List.length_cons, List.length_nil, List.set_cons_zero, List.set_cons_succ, true_and, and_true, Option.toList_some, Option.toList_none, List.cons_append, List.nil_append, ↓reduceIte, not_false_eq_true, not_true_eq_false, Nat.reduceAdd, xj0_01, xj1_01, xb_B, xb_True, xb_False, ↓go_0 ho, ↓go_1 ho, ↓go_2 ho, ↓go_3 ho, ↓go_4 ho, ↓go_5 ho, ↓go_6 ho, ↓go_7 ho, ↓go_8 ho, ↓go_9 ho, ↓go_10 ho, ↓go_11 ho, ↓go_12 ho, ↓go_13 ho, ↓go_14 ho, ↓go_15 ho, ↓ao_1 ho, ↓ao_2 ho, ↓ao_3 ho, ↓ao_4 ho, ↓ao_5 ho, ↓ao_6 ho, ↓ao_7 ho, ↓ao_8 ho, ↓ao_9 ho, ↓gpn_7 p0, ↓gk_0 p5.1, ht0, ↓xj_in, xj_nat, Int.toNat_natCast, xj_lt_t, xj_lt_f, xj_le_t, xj_le_f, xj_eq_t, xj_eq_f, xj_lt, xj_le, xj_eq, xj_add, xj_sub, xj_mul, show ¬ xj 1 = xj 0 from by decide]
    · rw [if_neg (fun q => c2 q.2.2)]
      simp (disch := omega) only [b122_0, b122_1, b122_4, b122_5, b122_6, b122_9, b122_10, b122_13, b122_16, b122_19, b122_22, b122_23, List.getElem?_cons_zero, List.getElem?_cons_succ, List.length_cons, List.length_nil, List.set_cons_zero, List.set_cons_succ, true_and, and_true, Option.toList_some, Option.toList_none, List.cons_append, List.nil_append, ↓reduceIte, not_false_eq_true, not_true_eq_false, Nat.reduceAdd, xj0_01, xj1_01, xb_B, xb_True, xb_False, ↓xj_in, xj_nat, Int.toNat_natCast, xj_lt_t, xj_lt_f, xj_le_t, xj_le_f, xj_eq_t, xj_eq_f, xj_lt, xj_le, xj_eq, xj_add, xj_sub, xj_mul, show ¬ xj 1 = xj 0 from by decide]
  · rw [if_neg (fun q => c1 q.2.1)]
    simp (disch := omega) only [b122_0, b122_1, b122_4, b122_5, b122_6, b122_9, b122_10, b122_13, b122_16, b122_19, b122_22, b122_23, List.getElem?_cons_zero, List.getElem?_cons_succ, List.length_cons, List.length_nil, List.set_cons_zero, List.set_cons_succ, true_and, and_true, Option.toList_some, Option.toList_none, List.cons_append, List.nil_append, ↓reduceIte, not_false_eq_true, not_true_eq_false, Nat.reduceAdd, xj0_01, xj1_01, xb_B, xb_True, xb_False, ↓xj_in, xj_nat, Int.toNat_natCast, xj_lt_t, xj_lt_f, xj_le_t, xj_le_f, xj_eq_t, xj_eq_f, xj_lt, xj_le, xj_eq, xj_add, xj_sub, xj_mul, show ¬ xj 1 = xj 0 from by decide]
end XS9b11
