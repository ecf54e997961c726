/-! masks, counts and sums over the papers -/
def msk (P : Nat → Bool) : Nat → Nat
  | 0 => 0
  | k + 1 => if P k = true then msk P k ||| 2 ^ k else msk P k
def cnt (P : Nat → Bool) : Nat → Nat
  | 0 => 0
  | k + 1 => if P k = true then cnt P k + 1 else cnt P k
def smF (P : Nat → Bool) (g : Nat → Int) : Nat → Int
  | 0 => 0
  | k + 1 => if P k = true then smF P g k + g k else smF P g k
theorem p2le {k : Nat} (h : k ≤ 31) : 2 ^ k ≤ 2147483648 := Nat.pow_le_pow_right (show 2 > 0 by decide) h
theorem p2lt {k : Nat} (h : k < 31) : 2 ^ k < 2147483648 := Nat.pow_lt_pow_right (show 1 < 2 by decide) h
theorem msk_lt (P : Nat → Bool) : ∀ n, msk P n < 2 ^ n := by
  intro n
  induction n with
  | zero => unfold msk; decide
  | succ n ih =>
    have h2 : msk P n < 2 ^ (n + 1) := Nat.lt_of_lt_of_le ih (Nat.pow_le_pow_right (by decide) (by omega))
    unfold msk
    split
    · exact Nat.or_lt_two_pow h2 (Nat.pow_lt_pow_right (by decide) (by omega))
    · exact h2
theorem msk_lt31 (P : Nat → Bool) {n : Nat} (h : n ≤ 31) : msk P n < 2147483648 := Nat.lt_of_lt_of_le (msk_lt P n) (p2le h)
theorem msk_bit (P : Nat → Bool) : ∀ n i, (msk P n).testBit i = (decide (i < n) && P i) := by
  intro n
  induction n with
  | zero => intro i; unfold msk; simp
  | succ n ih =>
    intro i
    have e : (2 ^ n).testBit i = decide (n = i) := Nat.testBit_two_pow
    by_cases h : P n = true
    · have : msk P (n + 1) = msk P n ||| 2 ^ n := by show (if _ then _ else _) = _; rw [if_pos h]
      rw [this, Nat.testBit_or, ih, e]
      by_cases h2 : n = i
      · subst h2; simp [h]
      · have : decide (i < n + 1) = decide (i < n) := by apply decide_eq_decide.mpr; omega
        simp [h2, this]
    · have : msk P (n + 1) = msk P n := by show (if _ then _ else _) = _; rw [if_neg h]
      rw [this, ih]
      by_cases h2 : n = i
      · subst h2; simp [h]
      · have : decide (i < n + 1) = decide (i < n) := by apply decide_eq_decide.mpr; omega
        rw [this]
theorem cnt_le (P : Nat → Bool) : ∀ n, cnt P n ≤ n := by
  intro n
  induction n with
  | zero => exact Nat.le_refl _
  | succ n ih => unfold cnt; split <;> omega
theorem xn_or {a b : Nat} (ha : a < 2147483648) (hb : b < 2147483648) : a ||| b < 2147483648 := Nat.or_lt_two_pow (n := 31) ha hb
section XS25
variable {D a o k p : Nat} {f : Nat → xk_C} {w : Nat × Nat × Nat} {K : Option Value → xk_S → Prop} {O : Of} {c m n : Int}
theorem s_papersOf (hD : 1 ≤ D) (ho : xv_Off f o O) (hw : xw_Off O) (h5 : -2147483648 ≤ c) (h6 : c ≤ 2147483647) : xk_Cl D 40 [.ref o, .int (xj c)] (f, w) K ↔ K (some (.int (xj (msk (fun p => decide (of_ow O p = c)) (of_np O))))) (f, w) := by
  rw [e40 (by omega)]
  have hn := hw.2.2.2.1
  have hnc := hw.2.1
  simp only [b40_0, b40_1, b40_2, b40_3]
  refine xk_down (J := Unit) (n := of_np O) (P := fun r _ => xk_B (D - 1) 40 4 [.ref o, .int (xj c), .int (xj (msk (fun p => decide (of_ow O p = c)) r)), .int (xj r)] [] (f, w) K) (fun j => ?_) (fun r hr ih j => ?_) 0 (Nat.zero_le _) ()
  · simp (disch := omega) only [b40_0, b40_1, b40_2, b40_3, b40_4, b40_5, b40_6, b40_9, b40_12, b40_13, b40_16, b40_17, b40_18, b40_19, b40_22, b40_23, b40_24, b40_25, b40_26, b40_27, b40_28, b40_31, b40_34, b40_35, ↓xk_GF, ↓xk_PF, ↓xk_AL, ↓xk_AS, ↓xk_LN, ↓xk_RC, List.getElem?_cons_zero, List.getElem?_cons_succ, List.length_cons, List.length_nil, List.set_cons_zero, List.set_cons_succ, true_and, and_true, Option.toList_some, Option.toList_none, List.cons_append, List.nil_append, ↓reduceIte, Nat.reduceAdd, xj0_01, xj1_01, xb_B, xb_True, xb_False, ho.at.1, ↓xj_in, xj_nat, Int.toNat_natCast, xj_lt_t, xj_lt_f, xj_le_t, xj_le_f, xj_eq_t, xj_eq_f, xj_lt, xj_le, xj_eq, xj_add, xj_sub, xj_mul, show ¬ xj 1 = xj 0 from by decide]
  · rw [b40_4]
    have ha := hw.2.2.2.2.2.2 r hr
    obtain ⟨ho0, -, -, -, -, ho5, -⟩ := ho.at
    rw [← ih ()]
    have hm := msk_lt31 (fun p => decide (of_ow O p = c)) (n := r) (by omega)
    by_cases h : of_ow O r = c
    · have e : msk (fun p => decide (of_ow O p = c)) (r + 1) = msk (fun p => decide (of_ow O p = c)) r ||| 2 ^ r := by show (if _ then _ else _) = _; rw [if_pos (by simp [h])]
      rw [e]
      simp (disch := omega) only [b40_0, b40_1, b40_2, b40_3, b40_5, b40_6, b40_9, b40_12, b40_13, b40_16, b40_17, b40_18, b40_19, b40_22, b40_23, b40_24, b40_25, b40_26, b40_27, b40_28, b40_31, b40_34, b40_35, ↓xk_GF, ↓xk_PF, ↓xk_AL, ↓xk_AS, ↓xk_LN, ↓xk_RC, List.getElem?_cons_zero, List.getElem?_cons_succ, List.length_cons, List.length_nil, List.set_cons_zero, List.set_cons_succ, true_and, and_true, Option.toList_some, Option.toList_none, List.cons_append, List.nil_append, ↓reduceIte, Nat.reduceAdd, xj0_01, xj1_01, xb_B, xb_True, xb_False, ho0, ho5, ↓xj_in, xj_nat, Int.toNat_natCast, xj_lt_t, xj_lt_f, xj_le_t, xj_le_f, xj_eq_t, xj_eq_f, xj_lt, xj_le, xj_eq, xj_add, xj_sub, xj_mul, show ¬ xj 1 = xj 0 from by decide, xj_shl1 (k := r) (by omega), xj_or hm (p2lt (by omega : r < 31))]
      rfl
    · have e : msk (fun p => decide (of_ow O p = c)) (r + 1) = msk (fun p => decide (of_ow O p = c)) r := by show (if _ then _ else _) = _; rw [if_neg (by simp [h])]
      rw [e]
      simp (disch := omega) only [b40_0, b40_1, b40_2, b40_3, b40_5, b40_6, b40_9, b40_12, b40_13, b40_16, b40_17, b40_18, b40_19, b40_22, b40_23, b40_24, b40_25, b40_26, b40_27, b40_28, b40_31, b40_34, b40_35, ↓xk_GF, ↓xk_PF, ↓xk_AL, ↓xk_AS, ↓xk_LN, ↓xk_RC, List.getElem?_cons_zero, List.getElem?_cons_succ, List.length_cons, List.length_nil, List.set_cons_zero, List.set_cons_succ, true_and, and_true, Option.toList_some, Option.toList_none, List.cons_append, List.nil_append, ↓reduceIte, Nat.reduceAdd, xj0_01, xj1_01, xb_B, xb_True, xb_False, ho0, ho5, ↓xj_in, xj_nat, Int.toNat_natCast, xj_lt_t, xj_lt_f, xj_le_t, xj_le_f, xj_eq_t, xj_eq_f, xj_lt, xj_le, xj_eq, xj_add, xj_sub, xj_mul, show ¬ xj 1 = xj 0 from by decide, not_false_eq_true]
      rfl
theorem s_restingOn (hD : 2 ≤ D) (ho : xv_Off f o O) (hw : xw_Off O) (hp : p < 32) (hk : k < 2147483648) : xk_Cl D 41 [.ref o, .int (xj p), .int (xj k)] (f, w) K ↔ K (some (.int (xj (cnt (fun q => k.testBit q && (of_re O q).testBit p) (of_np O))))) (f, w) := by
  rw [e41 (by omega)]
  have hn := hw.2.2.2.1
  simp only [b41_0, b41_1, b41_2, b41_3]
  refine xk_down (J := Unit) (n := of_np O) (P := fun r _ => xk_B (D - 1) 41 5 [.ref o, .int (xj p), .int (xj k), .int (xj (cnt (fun q => k.testBit q && (of_re O q).testBit p) r)), .int (xj r)] [] (f, w) K) (fun j => ?_) (fun r hr ih j => ?_) 0 (Nat.zero_le _) ()
  · simp (disch := omega) only [b41_0, b41_1, b41_2, b41_3, b41_5, b41_7, b41_8, b41_11, b41_14, b41_15, b41_17, b41_20, b41_23, b41_24, b41_27, b41_29, b41_30, b41_31, b41_34, b41_37, b41_40, b41_43, b41_46, b41_47, ↓xk_GF, ↓xk_PF, ↓xk_AL, ↓xk_AS, ↓xk_LN, ↓xk_RC, List.getElem?_cons_zero, List.getElem?_cons_succ, List.length_cons, List.length_nil, List.set_cons_zero, List.set_cons_succ, true_and, and_true, Option.toList_some, Option.toList_none, List.cons_append, List.nil_append, ↓reduceIte, Nat.reduceAdd, xj0_01, xj1_01, xb_B, xb_True, xb_False, ho.at.1, ↓xj_in, xj_nat, Int.toNat_natCast, xj_lt_t, xj_lt_f, xj_le_t, xj_le_f, xj_eq_t, xj_eq_f, xj_lt, xj_le, xj_eq, xj_add, xj_sub, xj_mul, show ¬ xj 1 = xj 0 from by decide]
  · rw [b41_5]
    have ha := hw.2.2.2.2.2.2 r hr
    have hre : of_re O r < 2147483648 := Nat.lt_of_lt_of_le ha.2.2.2.2.2.2.2.2 (p2le (by omega))
    obtain ⟨ho0, -, -, -, -, -, -, -, -, ho9⟩ := ho.at
    rw [← ih ()]
    have hm := cnt_le (fun q => k.testBit q && (of_re O q).testBit p) r
    have e : cnt (fun q => k.testBit q && (of_re O q).testBit p) (r + 1) = if (k.testBit r && (of_re O r).testBit p) = true then cnt (fun q => k.testBit q && (of_re O q).testBit p) r + 1 else cnt (fun q => k.testBit q && (of_re O q).testBit p) r := rfl
    rw [e]
    simp (disch := omega) only [b41_7, b41_8, b41_11, b41_14, b41_15, b41_17, ↓xk_GF, ↓xk_PF, ↓xk_AL, ↓xk_AS, ↓xk_LN, ↓xk_RC, List.getElem?_cons_zero, List.getElem?_cons_succ, List.length_cons, List.length_nil, List.set_cons_zero, List.set_cons_succ, true_and, and_true, Option.toList_some, Option.toList_none, List.cons_append, List.nil_append, ↓reduceIte, Nat.reduceAdd, xj0_01, xj1_01, xb_B, xb_True, xb_False, ho0, ho9, ↓xj_in, xj_nat, Int.toNat_natCast, xj_lt_t, xj_lt_f, xj_le_t, xj_le_f, xj_eq_t, xj_eq_f, xj_lt, xj_le, xj_eq, xj_add, xj_sub, xj_mul, show ¬ xj 1 = xj 0 from by decide, s_has _ hk (by omega : r < 32)]
    cases h1 : k.testBit r
    · simp (disch := omega) only [b41_0, b41_1, b41_2, b41_3, b41_7, b41_8, b41_11, b41_14, b41_15, b41_17, b41_20, b41_23, b41_24, b41_27, b41_29, b41_30, b41_31, b41_34, b41_37, b41_40, b41_43, b41_46, b41_47, ↓xk_GF, ↓xk_PF, ↓xk_AL, ↓xk_AS, ↓xk_LN, ↓xk_RC, List.getElem?_cons_zero, List.getElem?_cons_succ, List.length_cons, List.length_nil, List.set_cons_zero, List.set_cons_succ, true_and, and_true, Option.toList_some, Option.toList_none, List.cons_append, List.nil_append, ↓reduceIte, Nat.reduceAdd, xj0_01, xj1_01, xb_B, xb_True, xb_False, ho0, ho9, ↓xj_in, xj_nat, Int.toNat_natCast, xj_lt_t, xj_lt_f, xj_le_t, xj_le_f, xj_eq_t, xj_eq_f, xj_lt, xj_le, xj_eq, xj_add, xj_sub, xj_mul, show ¬ xj 1 = xj 0 from by decide, xb_f, Bool.false_eq_true, Bool.false_and, not_false_eq_true]
      rfl
    · cases h2 : (of_re O r).testBit p
      · simp (disch := omega) only [b41_0, b41_1, b41_2, b41_3, b41_7, b41_8, b41_11, b41_14, b41_15, b41_17, b41_20, b41_23, b41_24, b41_27, b41_29, b41_30, b41_31, b41_34, b41_37, b41_40, b41_43, b41_46, b41_47, ↓xk_GF, ↓xk_PF, ↓xk_AL, ↓xk_AS, ↓xk_LN, ↓xk_RC, List.getElem?_cons_zero, List.getElem?_cons_succ, List.length_cons, List.length_nil, List.set_cons_zero, List.set_cons_succ, true_and, and_true, Option.toList_some, Option.toList_none, List.cons_append, List.nil_append, ↓reduceIte, Nat.reduceAdd, xj0_01, xj1_01, xb_B, xb_True, xb_False, ho0, ho9, ↓xj_in, xj_nat, Int.toNat_natCast, xj_lt_t, xj_lt_f, xj_le_t, xj_le_f, xj_eq_t, xj_eq_f, xj_lt, xj_le, xj_eq, xj_add, xj_sub, xj_mul, show ¬ xj 1 = xj 0 from by decide, xb_t, xb_f, s_has _ hre hp, h2, Bool.false_eq_true, Bool.and_false, not_false_eq_true]
        rfl
      · simp (disch := omega) only [b41_0, b41_1, b41_2, b41_3, b41_7, b41_8, b41_11, b41_14, b41_15, b41_17, b41_20, b41_23, b41_24, b41_27, b41_29, b41_30, b41_31, b41_34, b41_37, b41_40, b41_43, b41_46, b41_47, ↓xk_GF, ↓xk_PF, ↓xk_AL, ↓xk_AS, ↓xk_LN, ↓xk_RC, List.getElem?_cons_zero, List.getElem?_cons_succ, List.length_cons, List.length_nil, List.set_cons_zero, List.set_cons_succ, true_and, and_true, Option.toList_some, Option.toList_none, List.cons_append, List.nil_append, ↓reduceIte, Nat.reduceAdd, xj0_01, xj1_01, xb_B, xb_True, xb_False, ho0, ho9, ↓xj_in, xj_nat, Int.toNat_natCast, xj_lt_t, xj_lt_f, xj_le_t, xj_le_f, xj_eq_t, xj_eq_f, xj_lt, xj_le, xj_eq, xj_add, xj_sub, xj_mul, show ¬ xj 1 = xj 0 from by decide, xb_t, xb_f, s_has _ hre hp, h2, Bool.and_self, not_false_eq_true]
        rfl
theorem s_isAway (hD : 2 ≤ D) (ho : xv_Off f o O) (hw : xw_Off O) (h1 : 0 ≤ m) (h2 : m ≤ 100000) (h5 : -2147483648 ≤ c) (h6 : c ≤ 2147483647) : xk_Cl D 42 [.ref o, .int (xj c), .int (xj m)] (f, w) K ↔ K (some (.int (xb (freeF O c m 1 ≠ m)))) (f, w) := by
  rw [e42 (by omega)]
  have hr := fr_out_rng (c := c) (n := 1) hw (of_na O) m
  have hr1 : -2147483648 ≤ freeF O c m 1 := by unfold freeF; omega
  have hr2 : freeF O c m 1 ≤ 2147483647 := by unfold freeF; omega
  simp (disch := omega) only [b42_0, b42_1, b42_2, b42_3, b42_4, b42_7, b42_8, b42_11, b42_12, b42_15, b42_16, b42_16o, b42_16z, b42_16c, ↓xk_GF, ↓xk_PF, ↓xk_AL, ↓xk_AS, ↓xk_LN, ↓xk_RC, List.getElem?_cons_zero, List.getElem?_cons_succ, List.length_cons, List.length_nil, List.set_cons_zero, List.set_cons_succ, true_and, and_true, Option.toList_some, Option.toList_none, List.cons_append, List.nil_append, ↓reduceIte, Nat.reduceAdd, xj0_01, xj1_01, xb_B, xb_True, xb_False, ho.at.1, ↓xj_in, xj_nat, Int.toNat_natCast, xj_lt_t, xj_lt_f, xj_le_t, xj_le_f, xj_eq_t, xj_eq_f, xj_lt, xj_le, xj_eq, xj_add, xj_sub, xj_mul, show ¬ xj 1 = xj 0 from by decide, s_free _ ho hw]
  refine xb_if (g := fun x => K (some (.int x)) (f, w)) (fun h => ?_) (fun h => ?_)
  · rw [if_neg h]
  · rw [if_pos (by omega)]
end XS25
