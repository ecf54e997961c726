/-! the first minute from which on a clerk is there: the class's way -/
def fr_in (O : Of) (c n : Int) : Nat → Int → Int
  | 0, m => m
  | k + 1, m => if of_aw O k = c ∧ of_af O k < fr_in O c n k m + n ∧ fr_in O c n k m ≤ of_al O k then of_al O k + 1 else fr_in O c n k m
def fr_out (O : Of) (c n : Int) : Nat → Int → Int
  | 0, m => m
  | r + 1, m => fr_in O c n (of_na O) (fr_out O c n r m)
def freeF (O : Of) (c m n : Int) : Int := fr_out O c n (of_na O) m
theorem fr_in_rng {O : Of} {c n : Int} (hw : xw_Off O) : ∀ (k : Nat), k ≤ of_na O → ∀ m, m ≤ fr_in O c n k m ∧ fr_in O c n k m ≤ max m 300 := by
  intro k
  induction k with
  | zero => intro _ m; unfold fr_in; omega
  | succ k ih =>
    intro hk m
    have h1 := ih (by omega) m
    have h2 := hw.2.2.2.2.2.1 k (by omega)
    unfold fr_in
    split
    · rename_i hc; omega
    · exact h1
theorem fr_out_rng {O : Of} {c n : Int} (hw : xw_Off O) : ∀ (r : Nat) (m : Int), m ≤ fr_out O c n r m ∧ fr_out O c n r m ≤ max m 300 := by
  intro r
  induction r with
  | zero => intro m; unfold fr_out; omega
  | succ r ih =>
    intro m
    have h1 := ih m
    have h2 := fr_in_rng (c := c) (n := n) hw (of_na O) (Nat.le_refl _) (fr_out O c n r m)
    unfold fr_out
    omega
section XS24
variable {D a o k p : Nat} {f : Nat → xk_C} {w : Nat × Nat × Nat} {K : Option Value → xk_S → Prop} {O : Of} {c m n : Int}
theorem s_free (hD : 1 ≤ D) (ho : xv_Off f o O) (hw : xw_Off O) (h1 : 0 ≤ m) (h2 : m ≤ 100000) (h3 : 0 ≤ n) (h4 : n ≤ 1000) (h5 : -2147483648 ≤ c) (h6 : c ≤ 2147483647) : xk_Cl D 43 [.ref o, .int (xj c), .int (xj m), .int (xj n)] (f, w) K ↔ K (some (.int (xj (freeF O c m n)))) (f, w) := by
  rw [e43 (by omega)]
  have hn := hw.2.2.1
  simp only [b43_0, b43_1, b43_3, b43_4]
  refine xk_down (J := Value × Value) (n := of_na O) (P := fun r j => xk_B (D - 1) 43 6 [.ref o, .int (xj c), .int (xj m), .int (xj n), .int (xj (fr_out O c n r m)), .int (xj r), j.1, j.2] [] (f, w) K) (fun j => ?_) (fun r hr ih j => ?_) 0 (Nat.zero_le _) (xk_dd, xk_dd)
  · simp (disch := omega) only [b43_0, b43_1, b43_3, b43_4, b43_6, b43_8, b43_9, b43_12, b43_15, b43_16, b43_18, b43_20, b43_21, b43_24, b43_27, b43_28, b43_31, b43_33, b43_34, b43_36, b43_37, b43_38, b43_41, b43_42, b43_45, b43_47, b43_48, b43_50, b43_53, b43_54, b43_57, b43_58, b43_60, b43_61, b43_64, b43_66, b43_67, b43_68, b43_71, b43_73, b43_76, b43_77, b43_80, b43_82, b43_83, b43_84, b43_85, b43_87, b43_90, b43_93, b43_96, b43_99, b43_101, ↓xk_GF, ↓xk_PF, ↓xk_AL, ↓xk_AS, ↓xk_LN, ↓xk_RC, List.getElem?_cons_zero, List.getElem?_cons_succ, List.length_cons, List.length_nil, List.set_cons_zero, List.set_cons_succ, true_and, and_true, Option.toList_some, Option.toList_none, List.cons_append, List.nil_append, ↓reduceIte, Nat.reduceAdd, xj0_01, xj1_01, xb_B, xb_True, xb_False, ho.at.1, ↓xj_in, xj_nat, Int.toNat_natCast, xj_lt_t, xj_lt_f, xj_le_t, xj_le_f, xj_eq_t, xj_eq_f, xj_lt, xj_le, xj_eq, xj_add, xj_sub, xj_mul, show ¬ xj 1 = xj 0 from by decide]
    rfl
  · have hm := fr_out_rng (c := c) (n := n) hw r m
    rw [b43_6]
    simp (disch := omega) only [b43_8, b43_9, b43_12, b43_15, b43_16, ↓xk_GF, ↓xk_PF, ↓xk_AL, ↓xk_AS, ↓xk_LN, ↓xk_RC, List.getElem?_cons_zero, List.getElem?_cons_succ, List.length_cons, List.length_nil, List.set_cons_zero, List.set_cons_succ, true_and, and_true, Option.toList_some, Option.toList_none, List.cons_append, List.nil_append, ↓reduceIte, Nat.reduceAdd, xj0_01, xj1_01, xb_B, xb_True, xb_False, ho.at.1, ↓xj_in, xj_nat, Int.toNat_natCast, xj_lt_t, xj_lt_f, xj_le_t, xj_le_f, xj_eq_t, xj_eq_f, xj_lt, xj_le, xj_eq, xj_add, xj_sub, xj_mul, show ¬ xj 1 = xj 0 from by decide]
    refine xk_down (J := Value) (n := of_na O) (P := fun k j => xk_B (D - 1) 43 18 [.ref o, .int (xj c), .int (xj m), .int (xj n), .int (xj (fr_in O c n k (fr_out O c n r m))), .int (xj r), .int (xj k), j] [] (f, w) K) (fun j => ?_) (fun k hk ih2 j => ?_) 0 (Nat.zero_le _) j.2
    · have ih := ih (.int (xj (of_na O)), j)
      rw [← ih]
      simp (disch := omega) only [b43_0, b43_1, b43_3, b43_4, b43_8, b43_9, b43_12, b43_15, b43_16, b43_18, b43_20, b43_21, b43_24, b43_27, b43_28, b43_31, b43_33, b43_34, b43_36, b43_37, b43_38, b43_41, b43_42, b43_45, b43_47, b43_48, b43_50, b43_53, b43_54, b43_57, b43_58, b43_60, b43_61, b43_64, b43_66, b43_67, b43_68, b43_71, b43_73, b43_76, b43_77, b43_80, b43_82, b43_83, b43_84, b43_85, b43_87, b43_90, b43_93, b43_96, b43_99, b43_101, ↓xk_GF, ↓xk_PF, ↓xk_AL, ↓xk_AS, ↓xk_LN, ↓xk_RC, List.getElem?_cons_zero, List.getElem?_cons_succ, List.length_cons, List.length_nil, List.set_cons_zero, List.set_cons_succ, true_and, and_true, Option.toList_some, Option.toList_none, List.cons_append, List.nil_append, ↓reduceIte, Nat.reduceAdd, xj0_01, xj1_01, xb_B, xb_True, xb_False, ho.at.1, ↓xj_in, xj_nat, Int.toNat_natCast, xj_lt_t, xj_lt_f, xj_le_t, xj_le_f, xj_eq_t, xj_eq_f, xj_lt, xj_le, xj_eq, xj_add, xj_sub, xj_mul, show ¬ xj 1 = xj 0 from by decide]
      rfl
    · have hnc := hw.2.1
      have hm2 := fr_in_rng (c := c) (n := n) hw k (by omega) (fr_out O c n r m)
      have ha := hw.2.2.2.2.2.1 k hk
      rw [b43_18]
      obtain ⟨ho0, ho1, ho2, ho3, ho4, -⟩ := ho.at
      have go : ∀ (j : Value) (v : Int), fr_in O c n (k + 1) (fr_out O c n r m) = v → (xk_B (D - 1) 43 18 [.ref o, .int (xj c), .int (xj m), .int (xj n), .int (xj v), .int (xj r), .int (xj (k + 1)), j] [] (f, w) K ↔ K (some (.int (xj (freeF O c m n)))) (f, w)) := fun j v hv => by
        rw [← ih2 j, hv]; rfl
      have hd : fr_in O c n (k + 1) (fr_out O c n r m) = if of_aw O k = c ∧ of_af O k < fr_in O c n k (fr_out O c n r m) + n ∧ fr_in O c n k (fr_out O c n r m) ≤ of_al O k then of_al O k + 1 else fr_in O c n k (fr_out O c n r m) := rfl
      by_cases c1 : of_af O k < fr_in O c n k (fr_out O c n r m) + n
      · by_cases c2 : fr_in O c n k (fr_out O c n r m) ≤ of_al O k
        · by_cases c3 : of_aw O k = c
          · rw [if_pos ⟨c3, c1, c2⟩] at hd
            simp (disch := omega) only [b43_0, b43_1, b43_3, b43_4, b43_6, b43_8, b43_9, b43_12, b43_15, b43_16, b43_20, b43_21, b43_24, b43_27, b43_28, b43_31, b43_33, b43_34, b43_36, b43_37, b43_38, b43_41, b43_42, b43_45, b43_47, b43_48, b43_50, b43_53, b43_54, b43_57, b43_58, b43_60, b43_61, b43_64, b43_66, b43_67, b43_68, b43_71, b43_73, b43_76, b43_77, b43_80, b43_82, b43_83, b43_84, b43_85, b43_87, b43_90, b43_93, b43_96, b43_99, b43_101, ↓xk_GF, ↓xk_PF, ↓xk_AL, ↓xk_AS, ↓xk_LN, ↓xk_RC, List.getElem?_cons_zero, List.getElem?_cons_succ, List.length_cons, List.length_nil, List.set_cons_zero, List.set_cons_succ, true_and, and_true, Option.toList_some, Option.toList_none, List.cons_append, List.nil_append, ↓reduceIte, Nat.reduceAdd, xj0_01, xj1_01, xb_B, xb_True, xb_False, ho0, ho1, ho2, ho3, ho4, ↓xj_in, xj_nat, Int.toNat_natCast, xj_lt_t, xj_lt_f, xj_le_t, xj_le_f, xj_eq_t, xj_eq_f, xj_lt, xj_le, xj_eq, xj_add, xj_sub, xj_mul, show ¬ xj 1 = xj 0 from by decide]
            exact go _ _ hd
          · rw [if_neg (fun q => c3 q.1)] at hd
            simp (disch := omega) only [b43_0, b43_1, b43_3, b43_4, b43_6, b43_8, b43_9, b43_12, b43_15, b43_16, b43_20, b43_21, b43_24, b43_27, b43_28, b43_31, b43_33, b43_34, b43_36, b43_37, b43_38, b43_41, b43_42, b43_45, b43_47, b43_48, b43_50, b43_53, b43_54, b43_57, b43_58, b43_60, b43_61, b43_64, b43_66, b43_67, b43_68, b43_71, b43_73, b43_76, b43_77, b43_80, b43_82, b43_83, b43_84, b43_85, b43_87, b43_90, b43_93, b43_96, b43_99, b43_101, ↓xk_GF, ↓xk_PF, ↓xk_AL, ↓xk_AS, ↓xk_LN, ↓xk_RC, List.getElem?_cons_zero, List.getElem?_cons_succ, List.length_cons, List.length_nil, List.set_cons_zero, List.set_cons_succ, true_and, and_true, Option.toList_some, Option.toList_none, List.cons_append, List.nil_append, ↓reduceIte, Nat.reduceAdd, xj0_01, xj1_01, xb_B, xb_True, xb_False, ho0, ho1, ho2, ho3, ho4, ↓xj_in, xj_nat, Int.toNat_natCast, xj_lt_t, xj_lt_f, xj_le_t, xj_le_f, xj_eq_t, xj_eq_f, xj_lt, xj_le, xj_eq, xj_add, xj_sub, xj_mul, show ¬ xj 1 = xj 0 from by decide]
            exact go _ _ hd
        · rw [if_neg (fun q => c2 q.2.2)] at hd
          by_cases c3 : of_aw O k = c
          · simp (disch := omega) only [b43_0, b43_1, b43_3, b43_4, b43_6, b43_8, b43_9, b43_12, b43_15, b43_16, b43_20, b43_21, b43_24, b43_27, b43_28, b43_31, b43_33, b43_34, b43_36, b43_37, b43_38, b43_41, b43_42, b43_45, b43_47, b43_48, b43_50, b43_53, b43_54, b43_57, b43_58, b43_60, b43_61, b43_64, b43_66, b43_67, b43_68, b43_71, b43_73, b43_76, b43_77, b43_80, b43_82, b43_83, b43_84, b43_85, b43_87, b43_90, b43_93, b43_96, b43_99, b43_101, ↓xk_GF, ↓xk_PF, ↓xk_AL, ↓xk_AS, ↓xk_LN, ↓xk_RC, List.getElem?_cons_zero, List.getElem?_cons_succ, List.length_cons, List.length_nil, List.set_cons_zero, List.set_cons_succ, true_and, and_true, Option.toList_some, Option.toList_none, List.cons_append, List.nil_append, ↓reduceIte, Nat.reduceAdd, xj0_01, xj1_01, xb_B, xb_True, xb_False, ho0, ho1, ho2, ho3, ho4, ↓xj_in, xj_nat, Int.toNat_natCast, xj_lt_t, xj_lt_f, xj_le_t, xj_le_f, xj_eq_t, xj_eq_f, xj_lt, xj_le, xj_eq, xj_add, xj_sub, xj_mul, show ¬ xj 1 = xj 0 from by decide]
            exact go _ _ hd
          · simp (disch := omega) only [b43_0, b43_1, b43_3, b43_4, b43_6, b43_8, b43_9, b43_12, b43_15, b43_16, b43_20, b43_21, b43_24, b43_27, b43_28, b43_31, b43_33, b43_34, b43_36, b43_37, b43_38, b43_41, b43_42, b43_45, b43_47, b43_48, b43_50, b43_53, b43_54, b43_57, b43_58, b43_60, b43_61, b43_64, b43_66, b43_67, b43_68, b43_71, b43_73, b43_76, b43_77, b43_80, b43_82, b43_83, b43_84, b43_85, b43_87, b43_90, b43_93, b43_96, b43_99, b43_101, ↓xk_GF, ↓xk_PF, ↓xk_AL, ↓xk_AS, ↓xk_LN, ↓xk_RC, List.getElem?_cons_zero, List.getElem?_cons_succ, List.length_cons, List.length_nil, List.set_cons_zero, List.set_cons_succ, true_and, and_true, Option.toList_some, Option.toList_none, List.cons_append, List.nil_append, ↓reduceIte, Nat.reduceAdd, xj0_01, xj1_01, xb_B, xb_True, xb_False, ho0, ho1, ho2, ho3, ho4, ↓xj_in, xj_nat, Int.toNat_natCast, xj_lt_t, xj_lt_f, xj_le_t, xj_le_f, xj_eq_t, xj_eq_f, xj_lt, xj_le, xj_eq, xj_add, xj_sub, xj_mul, show ¬ xj 1 = xj 0 from by decide]
            exact go _ _ hd
      · rw [if_neg (fun q => c1 q.2.1)] at hd
        by_cases c3 : of_aw O k = c
        · simp (disch := omega) only [b43_0, b43_1, b43_3, b43_4, b43_6, b43_8, b43_9, b43_12, b43_15, b43_16, b43_20, b43_21, b43_24, b43_27, b43_28, b43_31, b43_33, b43_34, b43_36, b43_37, b43_38, b43_41, b43_42, b43_45, b43_47, b43_48, b43_50, b43_53, b43_54, b43_57, b43_58, b43_60, b43_61, b43_64, b43_66, b43_67, b43_68, b43_71, b43_73, b43_76, b43_77, b43_80, b43_82, b43_83, b43_84, b43_85, b43_87, b43_90, b43_93, b43_96, b43_99, b43_101, ↓xk_GF, ↓xk_PF, ↓xk_AL, ↓xk_AS, ↓xk_LN, ↓xk_RC, List.getElem?_cons_zero, List.getElem?_cons_succ, List.length_cons, List.length_nil, List.set_cons_zero, List.set_cons_succ, true_and, and_true, Option.toList_some, Option.toList_none, List.cons_append, List.nil_append, ↓reduceIte, Nat.reduceAdd, xj0_01, xj1_01, xb_B, xb_True, xb_False, ho0, ho1, ho2, ho3, ho4, ↓xj_in, xj_nat, Int.toNat_natCast, xj_lt_t, xj_lt_f, xj_le_t, xj_le_f, xj_eq_t, xj_eq_f, xj_lt, xj_le, xj_eq, xj_add, xj_sub, xj_mul, show ¬ xj 1 = xj 0 from by decide]
          exact go _ _ hd
        · simp (disch := omega) only [b43_0, b43_1, b43_3, b43_4, b43_6, b43_8, b43_9, b43_12, b43_15, b43_16, b43_20, b43_21, b43_24, b43_27, b43_28, b43_31, b43_33, b43_34, b43_36, b43_37, b43_38, b43_41, b43_42, b43_45, b43_47, b43_48, b43_50, b43_53, b43_54, b43_57, b43_58, b43_60, b43_61, b43_64, b43_66, b43_67, b43_68, b43_71, b43_73, b43_76, b43_77, b43_80, b43_82, b43_83, b43_84, b43_85, b43_87, b43_90, b43_93, b43_96, b43_99, b43_101, ↓xk_GF, ↓xk_PF, ↓xk_AL, ↓xk_AS, ↓xk_LN, ↓xk_RC, List.getElem?_cons_zero, List.getElem?_cons_succ, List.length_cons, List.length_nil, List.set_cons_zero, List.set_cons_succ, true_and, and_true, Option.toList_some, Option.toList_none, List.cons_append, List.nil_append, ↓reduceIte, Nat.reduceAdd, xj0_01, xj1_01, xb_B, xb_True, xb_False, ho0, ho1, ho2, ho3, ho4, ↓xj_in, xj_nat, Int.toNat_natCast, xj_lt_t, xj_lt_f, xj_le_t, xj_le_f, xj_eq_t, xj_eq_f, xj_lt, xj_le, xj_eq, xj_add, xj_sub, xj_mul, show ¬ xj 1 = xj 0 from by decide]
          exact go _ _ hd
end XS24
