/-! logs -/
/-- the least number at which P holds, or -1 -/
def lstI (P : Nat → Bool) : Nat → Int
  | 0 => -1
  | n + 1 => if lstI P n < 0 then (if P n = true then (n : Int) else -1) else lstI P n
theorem lst_no {P : Nat → Bool} : ∀ n, (∀ i, i < n → P i = false) → lstI P n = -1 := by
  intro n
  induction n with
  | zero => intro _; rfl
  | succ n ih => intro h; unfold lstI; rw [ih (fun i hi => h i (by omega)), if_pos (by decide), if_neg (by rw [h n (by omega)]; decide)]
theorem lst_at {P : Nat → Bool} {k : Nat} (hk : P k = true) (hm : ∀ i, i < k → P i = false) : ∀ n, k < n → lstI P n = k := by
  intro n
  induction n with
  | zero => intro h; omega
  | succ n ih =>
    intro h
    unfold lstI
    by_cases e : k = n
    · subst e; rw [lst_no k hm, if_pos (by decide), if_pos hk]
    · rw [ih (by omega), if_neg (by omega)]
theorem lst_cases (P : Nat → Bool) : ∀ n, (∃ k, k < n ∧ P k = true ∧ (∀ i, i < k → P i = false) ∧ lstI P n = k) ∨ ((∀ i, i < n → P i = false) ∧ lstI P n = -1) := by
  intro n
  induction n with
  | zero => exact Or.inr ⟨fun i hi => absurd hi (Nat.not_lt_zero i), rfl⟩
  | succ n ih =>
    rcases ih with ⟨k, h1, h2, h3, -⟩ | ⟨h1, -⟩
    · exact Or.inl ⟨k, by omega, h2, h3, lst_at h2 h3 _ (by omega)⟩
    · cases e : P n
      · have h2 : ∀ i, i < n + 1 → P i = false := fun i hi => by
          by_cases e2 : i = n
          · rw [e2, e]
          · exact h1 i (by omega)
        exact Or.inr ⟨h2, lst_no _ h2⟩
      · exact Or.inl ⟨n, by omega, e, h1, lst_at e h1 _ (by omega)⟩
theorem lst_rng (P : Nat → Bool) (n : Nat) : -1 ≤ lstI P n ∧ lstI P n < n := by
  rcases lst_cases P n with ⟨k, h1, -, -, h4⟩ | ⟨-, h2⟩ <;> omega
abbrev Lg : Type := Nat × (Nat → Int) × (Nat → Int) × (Nat → Int)
def xc_Lg (a : Nat) (L : Lg) : List xk_C := [.inr (3, [.int (xj L.1), .ref (a + 1), .ref (a + 2), .ref (a + 3)]), xa_I 10 L.2.1, xa_I 10 L.2.2.1, xa_I 10 L.2.2.2]
def xv_Lg (f : Nat → xk_C) (a : Nat) (L : Lg) : Prop := f a = .inr (3, [.int (xj L.1), .ref (a + 1), .ref (a + 2), .ref (a + 3)]) ∧ f (a + 1) = xa_I 10 L.2.1 ∧ f (a + 2) = xa_I 10 L.2.2.1 ∧ f (a + 3) = xa_I 10 L.2.2.2
theorem xv_Lg_xv {f : Nat → xk_C} {a : Nat} {L : Lg} (h : xv_Lg f a L) : xs f a (xc_Lg a L) = f := by
  apply xv_of
  intro k hk
  match k, hk with
  | 0, _ => exact congrArg some h.1.symm
  | 1, _ => exact congrArg some h.2.1.symm
  | 2, _ => exact congrArg some h.2.2.1.symm
  | 3, _ => exact congrArg some h.2.2.2.symm
theorem xv_Lg_xs {f : Nat → xk_C} {a : Nat} {L : Lg} : xv_Lg (xs f a (xc_Lg a L)) a L := ⟨xs_at f a _ 0, xs_at f a _ 1, xs_at f a _ 2, xs_at f a _ 3⟩
def xw_Lg (O : Of) (L : Lg) : Prop := L.1 ≤ 10 ∧ ∀ k, k < L.1 → 0 ≤ L.2.1 k ∧ L.2.1 k ≤ 2 ∧ 0 ≤ L.2.2.1 k ∧ L.2.2.1 k < of_np O ∧ 0 ≤ L.2.2.2 k ∧ L.2.2.2 k ≤ 99
def xz_Lg (L : Lg) : Prop := ∀ i, 10 ≤ i → L.2.1 i = 0 ∧ L.2.2.1 i = 0 ∧ L.2.2.2 i = 0
def plF (O : Of) (row : Nat → Int) (z : Int) : Int := lstI (fun k => decide (row k = z)) (of_np O)
def ahF (O : Of) (row : Nat → Int) (n : Nat) : Int := smF (fun k => decide (0 ≤ row k ∧ row k < of_np O)) (fun k => of_sk O (row k).toNat) n
def soF (O : Of) (row : Nat → Int) (L : Lg) (k : Nat) : Bool := if L.2.1 k = 0 then decide (plF O row (L.2.2.1 k) < plF O row (L.2.2.2 k)) else if L.2.1 k = 1 then decide (plF O row (L.2.2.1 k) = L.2.2.2 k) else decide (ahF O row (plF O row (L.2.2.1 k)).toNat = L.2.2.2 k)
def mayF (O : Of) (z x y : Int) : Bool := decide ((0 ≤ x ∧ x < of_np O) ∧ ((z = 0 ∧ (0 ≤ y ∧ y < of_np O) ∧ x ≠ y) ∨ (z = 1 ∧ (0 ≤ y ∧ y < of_np O)) ∨ (z = 2 ∧ 0 ≤ y ∧ y ≤ 99)))
theorem ahF_rng {O : Of} {row : Nat → Int} (hw : xw_Off O) : ∀ n : Nat, 0 ≤ ahF O row n ∧ ahF O row n ≤ 20 * n := by
  intro n
  induction n with
  | zero => unfold ahF smF; omega
  | succ n ih =>
    unfold ahF at ih ⊢
    unfold smF
    split
    · rename_i h
      have := of_decide_eq_true h
      have h2 := hw.2.2.2.2.2.2 (row n).toNat (by omega)
      show 0 ≤ _ + of_sk O (row n).toNat ∧ _ + of_sk O (row n).toNat ≤ _
      omega
    · omega
section XS30
variable {D a b o r k p q : Nat} {f g : Nat → xk_C} {w : Nat × Nat × Nat} {K : Option Value → xk_S → Prop} {O : Of} {L L2 : Lg} {c m n z x y : Int} {row : Nat → Int}
theorem s_mayBe (hD : 2 ≤ D) (ho : xv_Off f o O) (hw : xw_Off O) (z1 : -2147483648 ≤ z) (z2 : z ≤ 2147483647) (x1 : -2147483648 ≤ x) (x2 : x ≤ 2147483647) (y1 : -2147483648 ≤ y) (y2 : y ≤ 2147483647) : xk_Cl D 21 [.ref a, .int (xj z), .int (xj x), .int (xj y), .ref o] (f, w) K ↔ K (some (.int (xb (mayF O z x y = true)))) (f, w) := by
  have hn := hw.2.2.2.1
  rw [e21 (by omega)]
  simp (disch := omega) only [b21_0, b21_2, b21_3, ↓xk_GF, ↓xk_PF, ↓xk_AL, ↓xk_AS, ↓xk_LN, ↓xk_RC, List.getElem?_cons_zero, List.getElem?_cons_succ, List.length_cons, List.length_nil, List.set_cons_zero, List.set_cons_succ, true_and, and_true, Option.toList_some, Option.toList_none, List.cons_append, List.nil_append, ↓reduceIte, not_false_eq_true, not_true_eq_false, Nat.reduceAdd, xj0_01, xj1_01, xb_B, xb_True, xb_False, ho.at.1, s_hasPaper _ ho hw]
  by_cases c1 : 0 ≤ x ∧ x < of_np O
  · by_cases c2 : z = 0
    · subst c2
      by_cases c3 : 0 ≤ y ∧ y < of_np O
      · by_cases c4 : x = y
        · have e : ¬ mayF O 0 x y = true := fun h => by have := of_decide_eq_true h; omega
          rw [xb_f e]
          simp (disch := omega) only [b21_0, b21_2, b21_3, b21_6, b21_9, b21_10, b21_11, b21_12, b21_40, b21_42, b21_43, b21_46, b21_49, b21_50, b21_51, b21_54, b21_55, b21_58, b21_59, b21_60, b21_62, b21_63, b21_66, b21_67, b21_68, b21_71, b21_72, b21_74, b21_77, b21_78, b21_81, b21_82, b21_83, b21_84, b21_10o, b21_10z, b21_10c, b21_59o, b21_59z, b21_59c, b21_66o, b21_66z, b21_66c, b21_82o, b21_82z, b21_82c, b21_84o, b21_84z, b21_84c, ↓xk_GF, ↓xk_PF, ↓xk_AL, ↓xk_AS, ↓xk_LN, ↓xk_RC, List.getElem?_cons_zero, List.getElem?_cons_succ, List.length_cons, List.length_nil, List.set_cons_zero, List.set_cons_succ, true_and, and_true, Option.toList_some, Option.toList_none, List.cons_append, List.nil_append, ↓reduceIte, not_false_eq_true, not_true_eq_false, Nat.reduceAdd, xj0_01, xj1_01, xb_B, xb_True, xb_False, ho.at.1, ↓xj_in, xj_nat, Int.toNat_natCast, xj_lt_t, xj_lt_f, xj_le_t, xj_le_f, xj_eq_t, xj_eq_f, xj_lt, xj_le, xj_eq, xj_add, xj_sub, xj_mul, show ¬ xj 1 = xj 0 from by decide, s_hasPaper _ ho hw, c1, c3, and_self]
        · have e : mayF O 0 x y = true := decide_eq_true (by omega)
          rw [xb_t e]
          simp (disch := omega) only [b21_0, b21_2, b21_3, b21_6, b21_9, b21_10, b21_11, b21_12, b21_40, b21_42, b21_43, b21_46, b21_49, b21_50, b21_51, b21_54, b21_55, b21_58, b21_59, b21_60, b21_62, b21_63, b21_66, b21_67, b21_68, b21_71, b21_72, b21_74, b21_77, b21_78, b21_81, b21_82, b21_83, b21_84, b21_10o, b21_10z, b21_10c, b21_59o, b21_59z, b21_59c, b21_66o, b21_66z, b21_66c, b21_82o, b21_82z, b21_82c, b21_84o, b21_84z, b21_84c, ↓xk_GF, ↓xk_PF, ↓xk_AL, ↓xk_AS, ↓xk_LN, ↓xk_RC, List.getElem?_cons_zero, List.getElem?_cons_succ, List.length_cons, List.length_nil, List.set_cons_zero, List.set_cons_succ, true_and, and_true, Option.toList_some, Option.toList_none, List.cons_append, List.nil_append, ↓reduceIte, not_false_eq_true, not_true_eq_false, Nat.reduceAdd, xj0_01, xj1_01, xb_B, xb_True, xb_False, ho.at.1, ↓xj_in, xj_nat, Int.toNat_natCast, xj_lt_t, xj_lt_f, xj_le_t, xj_le_f, xj_eq_t, xj_eq_f, xj_lt, xj_le, xj_eq, xj_add, xj_sub, xj_mul, show ¬ xj 1 = xj 0 from by decide, s_hasPaper _ ho hw, c1, c3, and_self]
      · have e : ¬ mayF O 0 x y = true := fun h => by have := of_decide_eq_true h; omega
        rw [xb_f e]
        simp (disch := omega) only [b21_0, b21_2, b21_3, b21_6, b21_9, b21_10, b21_11, b21_12, b21_40, b21_42, b21_43, b21_46, b21_49, b21_50, b21_51, b21_54, b21_55, b21_58, b21_59, b21_60, b21_62, b21_63, b21_66, b21_67, b21_68, b21_71, b21_72, b21_74, b21_77, b21_78, b21_81, b21_82, b21_83, b21_84, b21_10o, b21_10z, b21_10c, b21_59o, b21_59z, b21_59c, b21_66o, b21_66z, b21_66c, b21_82o, b21_82z, b21_82c, b21_84o, b21_84z, b21_84c, ↓xk_GF, ↓xk_PF, ↓xk_AL, ↓xk_AS, ↓xk_LN, ↓xk_RC, List.getElem?_cons_zero, List.getElem?_cons_succ, List.length_cons, List.length_nil, List.set_cons_zero, List.set_cons_succ, true_and, and_true, Option.toList_some, Option.toList_none, List.cons_append, List.nil_append, ↓reduceIte, not_false_eq_true, not_true_eq_false, Nat.reduceAdd, xj0_01, xj1_01, xb_B, xb_True, xb_False, ho.at.1, ↓xj_in, xj_nat, Int.toNat_natCast, xj_lt_t, xj_lt_f, xj_le_t, xj_le_f, xj_eq_t, xj_eq_f, xj_lt, xj_le, xj_eq, xj_add, xj_sub, xj_mul, show ¬ xj 1 = xj 0 from by decide, s_hasPaper _ ho hw, c1, c3, and_self]
    · by_cases c3 : z = 1
      · subst c3
        by_cases c4 : 0 ≤ y ∧ y < of_np O
        · have e : mayF O 1 x y = true := decide_eq_true (by omega)
          rw [xb_t e]
          simp (disch := omega) only [b21_0, b21_2, b21_3, b21_6, b21_9, b21_10, b21_11, b21_12, b21_40, b21_42, b21_43, b21_46, b21_49, b21_50, b21_51, b21_54, b21_55, b21_58, b21_59, b21_60, b21_62, b21_63, b21_66, b21_67, b21_68, b21_71, b21_72, b21_74, b21_77, b21_78, b21_81, b21_82, b21_83, b21_84, b21_10o, b21_10z, b21_10c, b21_59o, b21_59z, b21_59c, b21_66o, b21_66z, b21_66c, b21_82o, b21_82z, b21_82c, b21_84o, b21_84z, b21_84c, ↓xk_GF, ↓xk_PF, ↓xk_AL, ↓xk_AS, ↓xk_LN, ↓xk_RC, List.getElem?_cons_zero, List.getElem?_cons_succ, List.length_cons, List.length_nil, List.set_cons_zero, List.set_cons_succ, true_and, and_true, Option.toList_some, Option.toList_none, List.cons_append, List.nil_append, ↓reduceIte, not_false_eq_true, not_true_eq_false, Nat.reduceAdd, xj0_01, xj1_01, xb_B, xb_True, xb_False, ho.at.1, ↓xj_in, xj_nat, Int.toNat_natCast, xj_lt_t, xj_lt_f, xj_le_t, xj_le_f, xj_eq_t, xj_eq_f, xj_lt, xj_le, xj_eq, xj_add, xj_sub, xj_mul, show ¬ xj 1 = xj 0 from by decide, s_hasPaper _ ho hw, c1, c4, and_self]
        · have e : ¬ mayF O 1 x y = true := fun h => by have := of_decide_eq_true h; omega
          rw [xb_f e]
          simp (disch := omega) only [b21_0, b21_2, b21_3, b21_6, b21_9, b21_10, b21_11, b21_12, b21_40, b21_42, b21_43, b21_46, b21_49, b21_50, b21_51, b21_54, b21_55, b21_58, b21_59, b21_60, b21_62, b21_63, b21_66, b21_67, b21_68, b21_71, b21_72, b21_74, b21_77, b21_78, b21_81, b21_82, b21_83, b21_84, b21_10o, b21_10z, b21_10c, b21_59o, b21_59z, b21_59c, b21_66o, b21_66z, b21_66c, b21_82o, b21_82z, b21_82c, b21_84o, b21_84z, b21_84c, ↓xk_GF, ↓xk_PF, ↓xk_AL, ↓xk_AS, ↓xk_LN, ↓xk_RC, List.getElem?_cons_zero, List.getElem?_cons_succ, List.length_cons, List.length_nil, List.set_cons_zero, List.set_cons_succ, true_and, and_true, Option.toList_some, Option.toList_none, List.cons_append, List.nil_append, ↓reduceIte, not_false_eq_true, not_true_eq_false, Nat.reduceAdd, xj0_01, xj1_01, xb_B, xb_True, xb_False, ho.at.1, ↓xj_in, xj_nat, Int.toNat_natCast, xj_lt_t, xj_lt_f, xj_le_t, xj_le_f, xj_eq_t, xj_eq_f, xj_lt, xj_le, xj_eq, xj_add, xj_sub, xj_mul, show ¬ xj 1 = xj 0 from by decide, s_hasPaper _ ho hw, c1, c4, and_self]
      · by_cases c4 : z = 2
        · subst c4
          by_cases c5 : 0 ≤ y ∧ y ≤ 99
          · have e : mayF O 2 x y = true := decide_eq_true (by omega)
            rw [xb_t e]
            simp (disch := omega) only [b21_0, b21_2, b21_3, b21_6, b21_9, b21_10, b21_11, b21_12, b21_40, b21_42, b21_43, b21_46, b21_49, b21_50, b21_51, b21_54, b21_55, b21_58, b21_59, b21_60, b21_62, b21_63, b21_66, b21_67, b21_68, b21_71, b21_72, b21_74, b21_77, b21_78, b21_81, b21_82, b21_83, b21_84, b21_10o, b21_10z, b21_10c, b21_59o, b21_59z, b21_59c, b21_66o, b21_66z, b21_66c, b21_82o, b21_82z, b21_82c, b21_84o, b21_84z, b21_84c, ↓xk_GF, ↓xk_PF, ↓xk_AL, ↓xk_AS, ↓xk_LN, ↓xk_RC, List.getElem?_cons_zero, List.getElem?_cons_succ, List.length_cons, List.length_nil, List.set_cons_zero, List.set_cons_succ, true_and, and_true, Option.toList_some, Option.toList_none, List.cons_append, List.nil_append, ↓reduceIte, not_false_eq_true, not_true_eq_false, Nat.reduceAdd, xj0_01, xj1_01, xb_B, xb_True, xb_False, ho.at.1, ↓xj_in, xj_nat, Int.toNat_natCast, xj_lt_t, xj_lt_f, xj_le_t, xj_le_f, xj_eq_t, xj_eq_f, xj_lt, xj_le, xj_eq, xj_add, xj_sub, xj_mul, show ¬ xj 1 = xj 0 from by decide, s_hasPaper _ ho hw, c1, and_self]
          · have e : ¬ mayF O 2 x y = true := fun h => by have := of_decide_eq_true h; omega
            rw [xb_f e]
            by_cases c6 : y < 0
            · simp (disch := omega) only [b21_0, b21_2, b21_3, b21_6, b21_9, b21_10, b21_11, b21_12, b21_40, b21_42, b21_43, b21_46, b21_49, b21_50, b21_51, b21_54, b21_55, b21_58, b21_59, b21_60, b21_62, b21_63, b21_66, b21_67, b21_68, b21_71, b21_72, b21_74, b21_77, b21_78, b21_81, b21_82, b21_83, b21_84, b21_10o, b21_10z, b21_10c, b21_59o, b21_59z, b21_59c, b21_66o, b21_66z, b21_66c, b21_82o, b21_82z, b21_82c, b21_84o, b21_84z, b21_84c, ↓xk_GF, ↓xk_PF, ↓xk_AL, ↓xk_AS, ↓xk_LN, ↓xk_RC, List.getElem?_cons_zero, List.getElem?_cons_succ, List.length_cons, List.length_nil, List.set_cons_zero, List.set_cons_succ, true_and, and_true, Option.toList_some, Option.toList_none, List.cons_append, List.nil_append, ↓reduceIte, not_false_eq_true, not_true_eq_false, Nat.reduceAdd, xj0_01, xj1_01, xb_B, xb_True, xb_False, ho.at.1, ↓xj_in, xj_nat, Int.toNat_natCast, xj_lt_t, xj_lt_f, xj_le_t, xj_le_f, xj_eq_t, xj_eq_f, xj_lt, xj_le, xj_eq, xj_add, xj_sub, xj_mul, show ¬ xj 1 = xj 0 from by decide, s_hasPaper _ ho hw, c1, and_self]
            · simp (disch := omega) only [b21_0, b21_2, b21_3, b21_6, b21_9, b21_10, b21_11, b21_12, b21_40, b21_42, b21_43, b21_46, b21_49, b21_50, b21_51, b21_54, b21_55, b21_58, b21_59, b21_60, b21_62, b21_63, b21_66, b21_67, b21_68, b21_71, b21_72, b21_74, b21_77, b21_78, b21_81, b21_82, b21_83, b21_84, b21_10o, b21_10z, b21_10c, b21_59o, b21_59z, b21_59c, b21_66o, b21_66z, b21_66c, b21_82o, b21_82z, b21_82c, b21_84o, b21_84z, b21_84c, ↓xk_GF, ↓xk_PF, ↓xk_AL, ↓xk_AS, ↓xk_LN, ↓xk_RC, List.getElem?_cons_zero, List.getElem?_cons_succ, List.length_cons, List.length_nil, List.set_cons_zero, List.set_cons_succ, true_and, and_true, Option.toList_some, Option.toList_none, List.cons_append, List.nil_append, ↓reduceIte, not_false_eq_true, not_true_eq_false, Nat.reduceAdd, xj0_01, xj1_01, xb_B, xb_True, xb_False, ho.at.1, ↓xj_in, xj_nat, Int.toNat_natCast, xj_lt_t, xj_lt_f, xj_le_t, xj_le_f, xj_eq_t, xj_eq_f, xj_lt, xj_le, xj_eq, xj_add, xj_sub, xj_mul, show ¬ xj 1 = xj 0 from by decide, s_hasPaper _ ho hw, c1, and_self]
        · have e : ¬ mayF O z x y = true := fun h => by have := of_decide_eq_true h; omega
          rw [xb_f e]
          simp (disch := omega) only [b21_0, b21_2, b21_3, b21_6, b21_9, b21_10, b21_11, b21_12, b21_40, b21_42, b21_43, b21_46, b21_49, b21_50, b21_51, b21_54, b21_55, b21_58, b21_59, b21_60, b21_62, b21_63, b21_66, b21_67, b21_68, b21_71, b21_72, b21_74, b21_77, b21_78, b21_81, b21_82, b21_83, b21_84, b21_10o, b21_10z, b21_10c, b21_59o, b21_59z, b21_59c, b21_66o, b21_66z, b21_66c, b21_82o, b21_82z, b21_82c, b21_84o, b21_84z, b21_84c, ↓xk_GF, ↓xk_PF, ↓xk_AL, ↓xk_AS, ↓xk_LN, ↓xk_RC, List.getElem?_cons_zero, List.getElem?_cons_succ, List.length_cons, List.length_nil, List.set_cons_zero, List.set_cons_succ, true_and, and_true, Option.toList_some, Option.toList_none, List.cons_append, List.nil_append, ↓reduceIte, not_false_eq_true, not_true_eq_false, Nat.reduceAdd, xj0_01, xj1_01, xb_B, xb_True, xb_False, ho.at.1, ↓xj_in, xj_nat, Int.toNat_natCast, xj_lt_t, xj_lt_f, xj_le_t, xj_le_f, xj_eq_t, xj_eq_f, xj_lt, xj_le, xj_eq, xj_add, xj_sub, xj_mul, show ¬ xj 1 = xj 0 from by decide, s_hasPaper _ ho hw, c1, and_self]
  · have e : ¬ mayF O z x y = true := fun h => by have := of_decide_eq_true h; omega
    rw [xb_f e]
    simp (disch := omega) only [b21_0, b21_2, b21_3, b21_6, b21_9, b21_10, b21_11, b21_12, b21_40, b21_42, b21_43, b21_46, b21_49, b21_50, b21_51, b21_54, b21_55, b21_58, b21_59, b21_60, b21_62, b21_63, b21_66, b21_67, b21_68, b21_71, b21_72, b21_74, b21_77, b21_78, b21_81, b21_82, b21_83, b21_84, b21_10o, b21_10z, b21_10c, b21_59o, b21_59z, b21_59c, b21_66o, b21_66z, b21_66c, b21_82o, b21_82z, b21_82c, b21_84o, b21_84z, b21_84c, ↓xk_GF, ↓xk_PF, ↓xk_AL, ↓xk_AS, ↓xk_LN, ↓xk_RC, List.getElem?_cons_zero, List.getElem?_cons_succ, List.length_cons, List.length_nil, List.set_cons_zero, List.set_cons_succ, true_and, and_true, Option.toList_some, Option.toList_none, List.cons_append, List.nil_append, ↓reduceIte, not_false_eq_true, not_true_eq_false, Nat.reduceAdd, xj0_01, xj1_01, xb_B, xb_True, xb_False, ho.at.1, ↓xj_in, xj_nat, Int.toNat_natCast, xj_lt_t, xj_lt_f, xj_le_t, xj_le_f, xj_eq_t, xj_eq_f, xj_lt, xj_le, xj_eq, xj_add, xj_sub, xj_mul, show ¬ xj 1 = xj 0 from by decide, c1]
theorem s_placeOf (hD : 1 ≤ D) (ho : xv_Off f o O) (hw : xw_Off O) (hr : f r = xa_I 6 row) (hrow : ∀ i, i < 6 → -1 ≤ row i ∧ row i ≤ 6) (z1 : -2147483648 ≤ z) (z2 : z ≤ 2147483647) : xk_Cl D 25 [.int (xj z), .ref o, .ref r] (f, w) K ↔ K (some (.int (xj (plF O row z)))) (f, w) := by
  have hn := hw.2.2.2.1
  rw [e25 (by omega)]
  simp only [b25_0, b25_1]
  unfold plF
  have step : ∀ k : Nat, k < of_np O → row k ≠ z → (xk_B (D - 1) 25 2 [.int (xj z), .ref o, .ref r, .int (xj k)] [] (f, w) K ↔ xk_B (D - 1) 25 2 [.int (xj z), .ref o, .ref r, .int (xj ((k + 1 : Nat) : Int))] [] (f, w) K) := by
    intro k hk hz
    have h1 := hrow k (by omega)
    rw [b25_2]
    simp (disch := omega) only [b25_0, b25_1, b25_3, b25_4, b25_7, b25_10, b25_11, b25_12, b25_13, b25_16, b25_17, b25_18, b25_19, b25_20, b25_23, b25_24, b25_25, b25_28, b25_31, b25_32, List.getElem?_cons_zero, List.getElem?_cons_succ, List.length_cons, List.length_nil, List.set_cons_zero, List.set_cons_succ, true_and, and_true, Option.toList_some, Option.toList_none, List.cons_append, List.nil_append, ↓reduceIte, not_false_eq_true, not_true_eq_false, Nat.reduceAdd, xj0_01, xj1_01, xb_B, xb_True, xb_False, ↓go_0 ho, ↓go_1 ho, ↓go_2 ho, ↓go_3 ho, ↓go_4 ho, ↓go_5 ho, ↓go_6 ho, ↓go_7 ho, ↓go_8 ho, ↓go_9 ho, ↓go_10 ho, ↓go_11 ho, ↓go_12 ho, ↓go_13 ho, ↓go_14 ho, ↓go_15 ho, ↓ao_1 ho, ↓ao_2 ho, ↓ao_3 ho, ↓ao_4 ho, ↓ao_5 ho, ↓ao_6 ho, ↓ao_7 ho, ↓ao_8 ho, ↓ao_9 ho, ↓ln_I hr, ↓al_I hr, ↓xj_in, xj_nat, Int.toNat_natCast, xj_lt_t, xj_lt_f, xj_le_t, xj_le_f, xj_eq_t, xj_eq_f, xj_lt, xj_le, xj_eq, xj_add, xj_sub, xj_mul, show ¬ xj 1 = xj 0 from by decide]
    rfl
  rcases lst_cases (fun k => decide (row k = z)) (of_np O) with ⟨k0, h1, h2, h3, h4⟩ | ⟨h1, h2⟩
  · rw [h4]
    refine xk_down (J := Unit) (n := k0) (P := fun k _ => xk_B (D - 1) 25 2 [.int (xj z), .ref o, .ref r, .int (xj k)] [] (f, w) K) (fun j => ?_) (fun k hk ih j => ?_) 0 (Nat.zero_le _) ()
    · have h5 := of_decide_eq_true h2
      simp (disch := omega) only [b25_0, b25_1, b25_2, b25_3, b25_4, b25_7, b25_10, b25_11, b25_12, b25_13, b25_16, b25_17, b25_18, b25_19, b25_20, b25_23, b25_24, b25_25, b25_28, b25_31, b25_32, List.getElem?_cons_zero, List.getElem?_cons_succ, List.length_cons, List.length_nil, List.set_cons_zero, List.set_cons_succ, true_and, and_true, Option.toList_some, Option.toList_none, List.cons_append, List.nil_append, ↓reduceIte, not_false_eq_true, not_true_eq_false, Nat.reduceAdd, xj0_01, xj1_01, xb_B, xb_True, xb_False, ↓go_0 ho, ↓go_1 ho, ↓go_2 ho, ↓go_3 ho, ↓go_4 ho, ↓go_5 ho, ↓go_6 ho, ↓go_7 ho, ↓go_8 ho, ↓go_9 ho, ↓go_10 ho, ↓go_11 ho, ↓go_12 ho, ↓go_13 ho, ↓go_14 ho, ↓go_15 ho, ↓ao_1 ho, ↓ao_2 ho, ↓ao_3 ho, ↓ao_4 ho, ↓ao_5 ho, ↓ao_6 ho, ↓ao_7 ho, ↓ao_8 ho, ↓ao_9 ho, ↓ln_I hr, ↓al_I hr, ↓xj_in, xj_nat, Int.toNat_natCast, xj_lt_t, xj_lt_f, xj_le_t, xj_le_f, xj_eq_t, xj_eq_f, xj_lt, xj_le, xj_eq, xj_add, xj_sub, xj_mul, show ¬ xj 1 = xj 0 from by decide]
    · exact (step k (by omega) (of_decide_eq_false (h3 k hk))).trans (ih ())
  · rw [h2]
    refine xk_down (J := Unit) (n := of_np O) (P := fun k _ => xk_B (D - 1) 25 2 [.int (xj z), .ref o, .ref r, .int (xj k)] [] (f, w) K) (fun j => ?_) (fun k hk ih j => ?_) 0 (Nat.zero_le _) ()
    · simp (disch := omega) only [b25_0, b25_1, b25_2, b25_3, b25_4, b25_7, b25_10, b25_11, b25_12, b25_13, b25_16, b25_17, b25_18, b25_19, b25_20, b25_23, b25_24, b25_25, b25_28, b25_31, b25_32, List.getElem?_cons_zero, List.getElem?_cons_succ, List.length_cons, List.length_nil, List.set_cons_zero, List.set_cons_succ, true_and, and_true, Option.toList_some, Option.toList_none, List.cons_append, List.nil_append, ↓reduceIte, not_false_eq_true, not_true_eq_false, Nat.reduceAdd, xj0_01, xj1_01, xb_B, xb_True, xb_False, ↓go_0 ho, ↓go_1 ho, ↓go_2 ho, ↓go_3 ho, ↓go_4 ho, ↓go_5 ho, ↓go_6 ho, ↓go_7 ho, ↓go_8 ho, ↓go_9 ho, ↓go_10 ho, ↓go_11 ho, ↓go_12 ho, ↓go_13 ho, ↓go_14 ho, ↓go_15 ho, ↓ao_1 ho, ↓ao_2 ho, ↓ao_3 ho, ↓ao_4 ho, ↓ao_5 ho, ↓ao_6 ho, ↓ao_7 ho, ↓ao_8 ho, ↓ao_9 ho, ↓ln_I hr, ↓al_I hr, ↓xj_in, xj_nat, Int.toNat_natCast, xj_lt_t, xj_lt_f, xj_le_t, xj_le_f, xj_eq_t, xj_eq_f, xj_lt, xj_le, xj_eq, xj_add, xj_sub, xj_mul, show ¬ xj 1 = xj 0 from by decide]
    · exact (step k (by omega) (of_decide_eq_false (h1 k hk))).trans (ih ())
theorem s_strokesAhead (hD : 2 ≤ D) (ho : xv_Off f o O) (hw : xw_Off O) (hr : f r = xa_I 6 row) (hrow : ∀ i, i < 6 → -1 ≤ row i ∧ row i ≤ 6) (z1 : -1 ≤ z) (z2 : z ≤ 6) : xk_Cl D 26 [.int (xj z), .ref o, .ref r] (f, w) K ↔ K (some (.int (xj (ahF O row z.toNat)))) (f, w) := by
  have hn := hw.2.2.2.1
  rw [e26 (by omega)]
  simp only [b26_0, b26_1, b26_2, b26_3]
  refine xk_down (J := Unit) (n := z.toNat) (P := fun k _ => xk_B (D - 1) 26 5 [.int (xj z), .ref o, .ref r, .int (xj (ahF O row k)), .int (xj k)] [] (f, w) K) (fun j => ?_) (fun k hk ih j => ?_) 0 (Nat.zero_le _) ()
  · simp (disch := omega) only [b26_0, b26_1, b26_2, b26_3, b26_5, b26_7, b26_8, b26_11, b26_13, b26_14, b26_15, b26_18, b26_19, b26_20, b26_22, b26_23, b26_26, b26_29, b26_30, b26_31, b26_34, b26_35, b26_37, b26_38, b26_39, b26_40, b26_41, b26_44, b26_47, b26_48, List.getElem?_cons_zero, List.getElem?_cons_succ, List.length_cons, List.length_nil, List.set_cons_zero, List.set_cons_succ, true_and, and_true, Option.toList_some, Option.toList_none, List.cons_append, List.nil_append, ↓reduceIte, not_false_eq_true, not_true_eq_false, Nat.reduceAdd, xj0_01, xj1_01, xb_B, xb_True, xb_False, ↓go_0 ho, ↓go_1 ho, ↓go_2 ho, ↓go_3 ho, ↓go_4 ho, ↓go_5 ho, ↓go_6 ho, ↓go_7 ho, ↓go_8 ho, ↓go_9 ho, ↓go_10 ho, ↓go_11 ho, ↓go_12 ho, ↓go_13 ho, ↓go_14 ho, ↓go_15 ho, ↓ao_1 ho, ↓ao_2 ho, ↓ao_3 ho, ↓ao_4 ho, ↓ao_5 ho, ↓ao_6 ho, ↓ao_7 ho, ↓ao_8 ho, ↓ao_9 ho, ↓ln_I hr, ↓al_I hr, ↓xj_in, xj_nat, Int.toNat_natCast, xj_lt_t, xj_lt_f, xj_le_t, xj_le_f, xj_eq_t, xj_eq_f, xj_lt, xj_le, xj_eq, xj_add, xj_sub, xj_mul, show ¬ xj 1 = xj 0 from by decide]
  · have h1 := hrow k (by omega)
    have h0 := ahF_rng (row := row) hw k
    have hrc : xk_RC f o 4 ↔ True := by unfold xk_RC; rw [ho.at.1]; exact ⟨fun _ => trivial, fun _ => rfl⟩
    rw [← ih ()]
    have e : ahF O row (k + 1) = if decide (0 ≤ row k ∧ row k < of_np O) = true then ahF O row k + of_sk O (row k).toNat else ahF O row k := rfl
    rw [e]
    by_cases c : 0 ≤ row k ∧ row k < of_np O
    · have h2 := hw.2.2.2.2.2.2 (row k).toNat (by omega)
      rw [if_pos (decide_eq_true c), b26_5]
      simp (disch := omega) only [b26_0, b26_1, b26_2, b26_3, b26_7, b26_8, b26_11, b26_13, b26_14, b26_15, b26_18, b26_19, b26_20, b26_22, b26_23, b26_26, b26_29, b26_30, b26_31, b26_34, b26_35, b26_37, b26_38, b26_39, b26_40, b26_41, b26_44, b26_47, b26_48, List.getElem?_cons_zero, List.getElem?_cons_succ, List.length_cons, List.length_nil, List.set_cons_zero, List.set_cons_succ, true_and, and_true, Option.toList_some, Option.toList_none, List.cons_append, List.nil_append, ↓reduceIte, not_false_eq_true, not_true_eq_false, Nat.reduceAdd, xj0_01, xj1_01, xb_B, xb_True, xb_False, ↓go_0 ho, ↓go_1 ho, ↓go_2 ho, ↓go_3 ho, ↓go_4 ho, ↓go_5 ho, ↓go_6 ho, ↓go_7 ho, ↓go_8 ho, ↓go_9 ho, ↓go_10 ho, ↓go_11 ho, ↓go_12 ho, ↓go_13 ho, ↓go_14 ho, ↓go_15 ho, ↓ao_1 ho, ↓ao_2 ho, ↓ao_3 ho, ↓ao_4 ho, ↓ao_5 ho, ↓ao_6 ho, ↓ao_7 ho, ↓ao_8 ho, ↓ao_9 ho, ↓ln_I hr, ↓al_I hr, ↓xj_in, xj_nat, Int.toNat_natCast, xj_lt_t, xj_lt_f, xj_le_t, xj_le_f, xj_eq_t, xj_eq_f, xj_lt, xj_le, xj_eq, xj_add, xj_sub, xj_mul, show ¬ xj 1 = xj 0 from by decide, hrc, s_hasPaper _ ho hw, c, and_self]
      rfl
    · rw [if_neg (fun h => c (of_decide_eq_true h)), b26_5]
      simp (disch := omega) only [b26_0, b26_1, b26_2, b26_3, b26_7, b26_8, b26_11, b26_13, b26_14, b26_15, b26_18, b26_19, b26_20, b26_22, b26_23, b26_26, b26_29, b26_30, b26_31, b26_34, b26_35, b26_37, b26_38, b26_39, b26_40, b26_41, b26_44, b26_47, b26_48, List.getElem?_cons_zero, List.getElem?_cons_succ, List.length_cons, List.length_nil, List.set_cons_zero, List.set_cons_succ, true_and, and_true, Option.toList_some, Option.toList_none, List.cons_append, List.nil_append, ↓reduceIte, not_false_eq_true, not_true_eq_false, Nat.reduceAdd, xj0_01, xj1_01, xb_B, xb_True, xb_False, ↓go_0 ho, ↓go_1 ho, ↓go_2 ho, ↓go_3 ho, ↓go_4 ho, ↓go_5 ho, ↓go_6 ho, ↓go_7 ho, ↓go_8 ho, ↓go_9 ho, ↓go_10 ho, ↓go_11 ho, ↓go_12 ho, ↓go_13 ho, ↓go_14 ho, ↓go_15 ho, ↓ao_1 ho, ↓ao_2 ho, ↓ao_3 ho, ↓ao_4 ho, ↓ao_5 ho, ↓ao_6 ho, ↓ao_7 ho, ↓ao_8 ho, ↓ao_9 ho, ↓ln_I hr, ↓al_I hr, ↓xj_in, xj_nat, Int.toNat_natCast, xj_lt_t, xj_lt_f, xj_le_t, xj_le_f, xj_eq_t, xj_eq_f, xj_lt, xj_le, xj_eq, xj_add, xj_sub, xj_mul, show ¬ xj 1 = xj 0 from by decide, hrc, s_hasPaper _ ho hw, c, and_self]
      rfl
end XS30
