/-! the office's methods -/
section XS23
variable {D a o k n p : Nat} {f : Nat → xk_C} {w : Nat × Nat × Nat} {K : Option Value → xk_S → Prop} {O : Of} {z z2 z3 : Int}
theorem s_hasPaper (hD : 1 ≤ D) (ho : xv_Off f o O) (hw : xw_Off O) (h1 : -2147483648 ≤ z) (h2 : z ≤ 2147483647) : xk_Cl D 38 [.ref o, .int (xj z)] (f, w) K ↔ K (some (.int (xb (0 ≤ z ∧ z < of_np O)))) (f, w) := by
  rw [e38 hD]
  have hn := hw.2.2.2.1
  simp (disch := omega) only [b38_0, b38_1, b38_4, b38_5, b38_6, b38_9, b38_12, b38_13, b38_16, b38_17, b38_17o, b38_17z, b38_17c, ↓xk_GF, ↓xk_PF, ↓xk_AL, ↓xk_AS, ↓xk_LN, ↓xk_RC, List.getElem?_cons_zero, List.getElem?_cons_succ, List.length_cons, List.length_nil, List.set_cons_zero, List.set_cons_succ, true_and, and_true, Option.toList_some, Option.toList_none, List.cons_append, List.nil_append, ↓reduceIte, Nat.reduceAdd, xj0_01, xj1_01, xb_B, xb_True, xb_False, ho.at.1, ↓xj_in, xj_nat, Int.toNat_natCast, xj_lt_t, xj_lt_f, xj_le_t, xj_le_f, xj_eq_t, xj_eq_f, xj_lt, xj_le, xj_eq, xj_add, xj_sub, xj_mul, show ¬ xj 1 = xj 0 from by decide]
  refine xb_if (g := fun x => K (some (.int x)) (f, w)) (fun h => ?_) (fun h => ?_)
  · rw [if_neg (by omega), if_neg (by omega)]
  · by_cases h0 : z < 0
    · rw [if_pos h0]
    · rw [if_neg h0, if_pos (by omega)]
theorem s_hasClerk (hD : 1 ≤ D) (ho : xv_Off f o O) (hw : xw_Off O) (h1 : -2147483648 ≤ z) (h2 : z ≤ 2147483647) : xk_Cl D 37 [.ref o, .int (xj z)] (f, w) K ↔ K (some (.int (xb (0 ≤ z ∧ z < of_nc O)))) (f, w) := by
  rw [e37 hD]
  have hn := hw.2.1
  simp (disch := omega) only [b37_0, b37_1, b37_4, b37_5, b37_6, b37_9, b37_12, b37_13, b37_16, b37_17, b37_17o, b37_17z, b37_17c, ↓xk_GF, ↓xk_PF, ↓xk_AL, ↓xk_AS, ↓xk_LN, ↓xk_RC, List.getElem?_cons_zero, List.getElem?_cons_succ, List.length_cons, List.length_nil, List.set_cons_zero, List.set_cons_succ, true_and, and_true, Option.toList_some, Option.toList_none, List.cons_append, List.nil_append, ↓reduceIte, Nat.reduceAdd, xj0_01, xj1_01, xb_B, xb_True, xb_False, ho.at.1, ↓xj_in, xj_nat, Int.toNat_natCast, xj_lt_t, xj_lt_f, xj_le_t, xj_le_f, xj_eq_t, xj_eq_f, xj_lt, xj_le, xj_eq, xj_add, xj_sub, xj_mul, show ¬ xj 1 = xj 0 from by decide]
  refine xb_if (g := fun x => K (some (.int x)) (f, w)) (fun h => ?_) (fun h => ?_)
  · rw [if_neg (by omega), if_neg (by omega)]
  · by_cases h0 : z < 0
    · rw [if_pos h0]
    · rw [if_neg h0, if_pos (by omega)]
theorem xj_ite {c : Prop} [Decidable c] {a b : Int} : (if c then xj a else xj b) = xj (if c then a else b) := (apply_ite xj c a b).symm
theorem xj_at {z : Int} (h1 : 0 ≤ z) (h2 : z ≤ 2147483647) (g : Nat → Int32) : g (xj z).toNatClampNeg = g z.toNat := by rw [xj_nat h1 h2]
theorem xj_0le {z : Int} (h1 : -2147483648 ≤ z) (h2 : z ≤ 2147483647) : ((0 : Int32) ≤ xj z) ↔ 0 ≤ z := by rw [xj_0, xj_le (by omega) (by omega) h1 h2]
theorem xj_0sub (z : Int) : (0 : Int32) - xj z = xj (0 - z) := by rw [xj_0, xj_sub]
/-- minutes of the way -/
def wayF (O : Of) (x y : Int) : Int := if (0 ≤ x ∧ x < of_nc O) ∧ (0 ≤ y ∧ y < of_nc O) then (if 0 ≤ of_seat O x.toNat - of_seat O y.toNat then of_seat O x.toNat - of_seat O y.toNat else 0 - (of_seat O x.toNat - of_seat O y.toNat)) else 0
theorem s_way (hD : 2 ≤ D) (ho : xv_Off f o O) (hw : xw_Off O) (h1 : -2147483648 ≤ z) (h2 : z ≤ 2147483647) (h3 : -2147483648 ≤ z2) (h4 : z2 ≤ 2147483647) : xk_Cl D 39 [.ref o, .int (xj z), .int (xj z2)] (f, w) K ↔ K (some (.int (xj (wayF O z z2)))) (f, w) := by
  rw [e39 (by omega)]
  have hn := hw.2.1
  simp (disch := omega) only [b39_0, b39_1, b39_2, b39_5, b39_8, b39_9, b39_10, b39_13, b39_16, b39_17, b39_20, b39_21, b39_22, b39_23, b39_26, b39_27, b39_28, b39_29, b39_32, b39_35, b39_36, ↓xk_GF, ↓xk_PF, ↓xk_AL, ↓xk_AS, ↓xk_LN, ↓xk_RC, List.getElem?_cons_zero, List.getElem?_cons_succ, List.length_cons, List.length_nil, List.set_cons_zero, List.set_cons_succ, true_and, and_true, Option.toList_some, Option.toList_none, List.cons_append, List.nil_append, ↓reduceIte, Nat.reduceAdd, xj0_01, xj1_01, xb_B, xb_True, xb_False, ho.at.1, s_hasClerk _ ho hw, xb_eq0]
  unfold wayF
  by_cases c1 : 0 ≤ z ∧ z < of_nc O
  · by_cases c2 : 0 ≤ z2 ∧ z2 < of_nc O
    · have s1 := hw.2.2.2.2.1 z.toNat (by omega)
      have s2 := hw.2.2.2.2.1 z2.toNat (by omega)
      rw [if_neg (not_not_intro c1), if_neg (not_not_intro c2), if_pos ⟨c1, c2⟩]
      simp (disch := omega) only [b39_0, b39_1, b39_2, b39_5, b39_8, b39_9, b39_10, b39_13, b39_16, b39_17, b39_20, b39_21, b39_22, b39_23, b39_26, b39_27, b39_28, b39_29, b39_32, b39_35, b39_36, ↓xk_GF, ↓xk_PF, ↓xk_AL, ↓xk_AS, ↓xk_LN, ↓xk_RC, List.getElem?_cons_zero, List.getElem?_cons_succ, List.length_cons, List.length_nil, List.set_cons_zero, List.set_cons_succ, true_and, and_true, Option.toList_some, Option.toList_none, List.cons_append, List.nil_append, ↓reduceIte, Nat.reduceAdd, xj0_01, xj1_01, xb_B, xb_True, xb_False, ho.at.1, ho.at.2.1, ↓xj_in, xj_nat, Int.toNat_natCast, xj_lt_t, xj_lt_f, xj_le_t, xj_le_f, xj_eq_t, xj_eq_f, xj_lt, xj_le, xj_eq, xj_add, xj_sub, xj_mul, show ¬ xj 1 = xj 0 from by decide, xj_0le, xj_0sub, xj_ite]
    · rw [if_neg (not_not_intro c1), if_pos c2, if_neg (fun q => c2 q.2)]
  · rw [if_pos c1, if_neg (fun q => c1 q.1)]
end XS23
