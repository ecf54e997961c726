/-! logs, second half -/
section XS31
variable {D a b o r k p q : Nat} {f g : Nat → xk_C} {w : Nat × Nat × Nat} {K : Option Value → xk_S → Prop} {O : Of} {L L2 : Lg} {c m n z x y : Int} {row : Nat → Int} {V : Value → Prop} {F : (Nat → xk_C) → Prop}
theorem gl_0 (h : xv_Lg f a L) : xk_GF f a 3 0 V ↔ V (.int (xj L.1)) := gf_R h.1 rfl
theorem gl_1 (h : xv_Lg f a L) : xk_GF f a 3 1 V ↔ V (.ref (a + 1)) := gf_R h.1 rfl
theorem gl_2 (h : xv_Lg f a L) : xk_GF f a 3 2 V ↔ V (.ref (a + 2)) := gf_R h.1 rfl
theorem gl_3 (h : xv_Lg f a L) : xk_GF f a 3 3 V ↔ V (.ref (a + 3)) := gf_R h.1 rfl
theorem plF_rng (O : Of) (row : Nat → Int) (z : Int) : -1 ≤ plF O row z ∧ plF O row z < of_np O := lst_rng _ _
theorem s_isSo (hD : 3 ≤ D) (ho : xv_Off f o O) (hw : xw_Off O) (hl : xv_Lg f a L) (hwl : xw_Lg O L) (hk : k < L.1) (hr : f r = xa_I 6 row) (hrow : ∀ i, i < 6 → -1 ≤ row i ∧ row i ≤ 6) : xk_Cl D 24 [.ref a, .int (xj k), .ref o, .ref r] (f, w) K ↔ K (some (.int (xb (soF O row L k = true)))) (f, w) := by
  have hn := hw.2.2.2.1
  have hk2 := hwl.2 k hk
  have hs := hwl.1
  have p1 := plF_rng O row (L.2.2.1 k)
  have p2 := plF_rng O row (L.2.2.2 k)
  have p3 := ahF_rng (row := row) hw (plF O row (L.2.2.1 k)).toNat
  rw [e24 (by omega)]
  have hrc : xk_RC f o 4 ↔ True := by unfold xk_RC; rw [ho.at.1]; exact ⟨fun _ => trivial, fun _ => rfl⟩
  unfold soF
  by_cases c1 : L.2.1 k = 0
  · rw [if_pos c1]
    by_cases c2 : plF O row (L.2.2.1 k) < plF O row (L.2.2.2 k)
    · rw [xb_t (decide_eq_true c2)]
      simp (disch := omega) only [b24_0, b24_1, b24_4, b24_5, b24_6, b24_7, b24_8, b24_11, b24_13, b24_14, b24_17, b24_18, b24_19, b24_44, b24_46, b24_47, b24_50, b24_51, b24_52, b24_53, b24_54, b24_57, b24_60, b24_61, b24_64, b24_65, b24_66, b24_68, b24_69, b24_72, b24_73, b24_74, b24_77, b24_78, b24_81, b24_82, b24_83, b24_85, b24_86, b24_87, b24_90, b24_91, b24_94, b24_95, b24_96, b24_99, b24_100, b24_103, b24_104, b24_65o, b24_65z, b24_65c, b24_82o, b24_82z, b24_82c, b24_104o, b24_104z, b24_104c, List.getElem?_cons_zero, List.getElem?_cons_succ, List.length_cons, List.length_nil, List.set_cons_zero, List.set_cons_succ, true_and, and_true, Option.toList_some, Option.toList_none, List.cons_append, List.nil_append, ↓reduceIte, not_false_eq_true, not_true_eq_false, Nat.reduceAdd, xj0_01, xj1_01, xb_B, xb_True, xb_False, ↓gl_0 hl, ↓gl_1 hl, ↓gl_2 hl, ↓gl_3 hl, ↓al_I hl.2.1, ↓al_I hl.2.2.1, ↓al_I hl.2.2.2, ↓xj_in, xj_nat, Int.toNat_natCast, xj_lt_t, xj_lt_f, xj_le_t, xj_le_f, xj_eq_t, xj_eq_f, xj_lt, xj_le, xj_eq, xj_add, xj_sub, xj_mul, show ¬ xj 1 = xj 0 from by decide, s_placeOf _ ho hw hr hrow]
    · rw [xb_f (fun h => c2 (of_decide_eq_true h))]
      simp (disch := omega) only [b24_0, b24_1, b24_4, b24_5, b24_6, b24_7, b24_8, b24_11, b24_13, b24_14, b24_17, b24_18, b24_19, b24_44, b24_46, b24_47, b24_50, b24_51, b24_52, b24_53, b24_54, b24_57, b24_60, b24_61, b24_64, b24_65, b24_66, b24_68, b24_69, b24_72, b24_73, b24_74, b24_77, b24_78, b24_81, b24_82, b24_83, b24_85, b24_86, b24_87, b24_90, b24_91, b24_94, b24_95, b24_96, b24_99, b24_100, b24_103, b24_104, b24_65o, b24_65z, b24_65c, b24_82o, b24_82z, b24_82c, b24_104o, b24_104z, b24_104c, List.getElem?_cons_zero, List.getElem?_cons_succ, List.length_cons, List.length_nil, List.set_cons_zero, List.set_cons_succ, true_and, and_true, Option.toList_some, Option.toList_none, List.cons_append, List.nil_append, ↓reduceIte, not_false_eq_true, not_true_eq_false, Nat.reduceAdd, xj0_01, xj1_01, xb_B, xb_True, xb_False, ↓gl_0 hl, ↓gl_1 hl, ↓gl_2 hl, ↓gl_3 hl, ↓al_I hl.2.1, ↓al_I hl.2.2.1, ↓al_I hl.2.2.2, ↓xj_in, xj_nat, Int.toNat_natCast, xj_lt_t, xj_lt_f, xj_le_t, xj_le_f, xj_eq_t, xj_eq_f, xj_lt, xj_le, xj_eq, xj_add, xj_sub, xj_mul, show ¬ xj 1 = xj 0 from by decide, s_placeOf _ ho hw hr hrow]
  · rw [if_neg c1]
    by_cases c2 : L.2.1 k = 1
    · rw [if_pos c2]
      by_cases c3 : plF O row (L.2.2.1 k) = L.2.2.2 k
      · rw [xb_t (decide_eq_true c3)]
        simp (disch := omega) only [b24_0, b24_1, b24_4, b24_5, b24_6, b24_7, b24_8, b24_11, b24_13, b24_14, b24_17, b24_18, b24_19, b24_44, b24_46, b24_47, b24_50, b24_51, b24_52, b24_53, b24_54, b24_57, b24_60, b24_61, b24_64, b24_65, b24_66, b24_68, b24_69, b24_72, b24_73, b24_74, b24_77, b24_78, b24_81, b24_82, b24_83, b24_85, b24_86, b24_87, b24_90, b24_91, b24_94, b24_95, b24_96, b24_99, b24_100, b24_103, b24_104, b24_65o, b24_65z, b24_65c, b24_82o, b24_82z, b24_82c, b24_104o, b24_104z, b24_104c, List.getElem?_cons_zero, List.getElem?_cons_succ, List.length_cons, List.length_nil, List.set_cons_zero, List.set_cons_succ, true_and, and_true, Option.toList_some, Option.toList_none, List.cons_append, List.nil_append, ↓reduceIte, not_false_eq_true, not_true_eq_false, Nat.reduceAdd, xj0_01, xj1_01, xb_B, xb_True, xb_False, ↓gl_0 hl, ↓gl_1 hl, ↓gl_2 hl, ↓gl_3 hl, ↓al_I hl.2.1, ↓al_I hl.2.2.1, ↓al_I hl.2.2.2, ↓xj_in, xj_nat, Int.toNat_natCast, xj_lt_t, xj_lt_f, xj_le_t, xj_le_f, xj_eq_t, xj_eq_f, xj_lt, xj_le, xj_eq, xj_add, xj_sub, xj_mul, show ¬ xj 1 = xj 0 from by decide, s_placeOf _ ho hw hr hrow]
      · rw [xb_f (fun h => c3 (of_decide_eq_true h))]
        simp (disch := omega) only [b24_0, b24_1, b24_4, b24_5, b24_6, b24_7, b24_8, b24_11, b24_13, b24_14, b24_17, b24_18, b24_19, b24_44, b24_46, b24_47, b24_50, b24_51, b24_52, b24_53, b24_54, b24_57, b24_60, b24_61, b24_64, b24_65, b24_66, b24_68, b24_69, b24_72, b24_73, b24_74, b24_77, b24_78, b24_81, b24_82, b24_83, b24_85, b24_86, b24_87, b24_90, b24_91, b24_94, b24_95, b24_96, b24_99, b24_100, b24_103, b24_104, b24_65o, b24_65z, b24_65c, b24_82o, b24_82z, b24_82c, b24_104o, b24_104z, b24_104c, List.getElem?_cons_zero, List.getElem?_cons_succ, List.length_cons, List.length_nil, List.set_cons_zero, List.set_cons_succ, true_and, and_true, Option.toList_some, Option.toList_none, List.cons_append, List.nil_append, ↓reduceIte, not_false_eq_true, not_true_eq_false, Nat.reduceAdd, xj0_01, xj1_01, xb_B, xb_True, xb_False, ↓gl_0 hl, ↓gl_1 hl, ↓gl_2 hl, ↓gl_3 hl, ↓al_I hl.2.1, ↓al_I hl.2.2.1, ↓al_I hl.2.2.2, ↓xj_in, xj_nat, Int.toNat_natCast, xj_lt_t, xj_lt_f, xj_le_t, xj_le_f, xj_eq_t, xj_eq_f, xj_lt, xj_le, xj_eq, xj_add, xj_sub, xj_mul, show ¬ xj 1 = xj 0 from by decide, s_placeOf _ ho hw hr hrow]
    · rw [if_neg c2]
      by_cases c3 : ahF O row (plF O row (L.2.2.1 k)).toNat = L.2.2.2 k
      · rw [xb_t (decide_eq_true c3)]
        simp (disch := omega) only [b24_0, b24_1, b24_4, b24_5, b24_6, b24_7, b24_8, b24_11, b24_13, b24_14, b24_17, b24_18, b24_19, b24_44, b24_46, b24_47, b24_50, b24_51, b24_52, b24_53, b24_54, b24_57, b24_60, b24_61, b24_64, b24_65, b24_66, b24_68, b24_69, b24_72, b24_73, b24_74, b24_77, b24_78, b24_81, b24_82, b24_83, b24_85, b24_86, b24_87, b24_90, b24_91, b24_94, b24_95, b24_96, b24_99, b24_100, b24_103, b24_104, b24_65o, b24_65z, b24_65c, b24_82o, b24_82z, b24_82c, b24_104o, b24_104z, b24_104c, List.getElem?_cons_zero, List.getElem?_cons_succ, List.length_cons, List.length_nil, List.set_cons_zero, List.set_cons_succ, true_and, and_true, Option.toList_some, Option.toList_none, List.cons_append, List.nil_append, ↓reduceIte, not_false_eq_true, not_true_eq_false, Nat.reduceAdd, xj0_01, xj1_01, xb_B, xb_True, xb_False, ↓gl_0 hl, ↓gl_1 hl, ↓gl_2 hl, ↓gl_3 hl, ↓al_I hl.2.1, ↓al_I hl.2.2.1, ↓al_I hl.2.2.2, ↓xj_in, xj_nat, Int.toNat_natCast, xj_lt_t, xj_lt_f, xj_le_t, xj_le_f, xj_eq_t, xj_eq_f, xj_lt, xj_le, xj_eq, xj_add, xj_sub, xj_mul, show ¬ xj 1 = xj 0 from by decide, s_placeOf _ ho hw hr hrow, s_strokesAhead _ ho hw hr hrow]
      · rw [xb_f (fun h => c3 (of_decide_eq_true h))]
        simp (disch := omega) only [b24_0, b24_1, b24_4, b24_5, b24_6, b24_7, b24_8, b24_11, b24_13, b24_14, b24_17, b24_18, b24_19, b24_44, b24_46, b24_47, b24_50, b24_51, b24_52, b24_53, b24_54, b24_57, b24_60, b24_61, b24_64, b24_65, b24_66, b24_68, b24_69, b24_72, b24_73, b24_74, b24_77, b24_78, b24_81, b24_82, b24_83, b24_85, b24_86, b24_87, b24_90, b24_91, b24_94, b24_95, b24_96, b24_99, b24_100, b24_103, b24_104, b24_65o, b24_65z, b24_65c, b24_82o, b24_82z, b24_82c, b24_104o, b24_104z, b24_104c, List.getElem?_cons_zero, List.getElem?_cons_succ, List.length_cons, List.length_nil, List.set_cons_zero, List.set_cons_succ, true_and, and_true, Option.toList_some, Option.toList_none, List.cons_append, List.nil_append, ↓reduceIte, not_false_eq_true, not_true_eq_false, Nat.reduceAdd, xj0_01, xj1_01, xb_B, xb_True, xb_False, ↓gl_0 hl, ↓gl_1 hl, ↓gl_2 hl, ↓gl_3 hl, ↓al_I hl.2.1, ↓al_I hl.2.2.1, ↓al_I hl.2.2.2, ↓xj_in, xj_nat, Int.toNat_natCast, xj_lt_t, xj_lt_f, xj_le_t, xj_le_f, xj_eq_t, xj_eq_f, xj_lt, xj_le, xj_eq, xj_add, xj_sub, xj_mul, show ¬ xj 1 = xj 0 from by decide, s_placeOf _ ho hw hr hrow, s_strokesAhead _ ho hw hr hrow]
def allF (O : Of) (row : Nat → Int) (L : Lg) : Bool := decide (lstI (fun k => !soF O row L k) L.1 < 0)
theorem s_allSo (hD : 4 ≤ D) (ho : xv_Off f o O) (hw : xw_Off O) (hl : xv_Lg f a L) (hwl : xw_Lg O L) (hr : f r = xa_I 6 row) (hrow : ∀ i, i < 6 → -1 ≤ row i ∧ row i ≤ 6) : xk_Cl D 23 [.ref a, .ref o, .ref r] (f, w) K ↔ K (some (.int (xb (allF O row L = true)))) (f, w) := by
  have hs := hwl.1
  have hrl : xk_RC f a 3 ↔ True := by unfold xk_RC; rw [hl.1]; exact ⟨fun _ => trivial, fun _ => rfl⟩
  rw [e23 (by omega)]
  simp only [b23_0, b23_1]
  have step : ∀ k : Nat, k < L.1 → soF O row L k = true → (xk_B (D - 1) 23 2 [.ref a, .ref o, .ref r, .int (xj k)] [] (f, w) K ↔ xk_B (D - 1) 23 2 [.ref a, .ref o, .ref r, .int (xj ((k + 1 : Nat) : Int))] [] (f, w) K) := by
    intro k hk hz
    rw [b23_2]
    simp (disch := omega) only [b23_0, b23_1, b23_3, b23_4, b23_7, b23_10, b23_11, b23_12, b23_13, b23_14, b23_17, b23_20, b23_21, b23_22, b23_25, b23_28, b23_29, b23_21o, b23_21z, b23_21c, b23_29o, b23_29z, b23_29c, List.getElem?_cons_zero, List.getElem?_cons_succ, List.length_cons, List.length_nil, List.set_cons_zero, List.set_cons_succ, true_and, and_true, Option.toList_some, Option.toList_none, List.cons_append, List.nil_append, ↓reduceIte, not_false_eq_true, not_true_eq_false, Nat.reduceAdd, xj0_01, xj1_01, xb_B, xb_True, xb_False, ↓gl_0 hl, ↓xj_in, xj_nat, Int.toNat_natCast, xj_lt_t, xj_lt_f, xj_le_t, xj_le_f, xj_eq_t, xj_eq_f, xj_lt, xj_le, xj_eq, xj_add, xj_sub, xj_mul, show ¬ xj 1 = xj 0 from by decide, hrl, s_isSo (D := D - 1) (k := k) (by omega) ho hw hl hwl hk hr hrow, hz]
    rfl
  rcases lst_cases (fun k => !soF O row L k) L.1 with ⟨k0, h1, h2, h3, h4⟩ | ⟨h1, h2⟩
  · have e : ¬ allF O row L = true := fun h => by have := of_decide_eq_true h; omega
    rw [xb_f e]
    refine xk_down (J := Unit) (n := k0) (P := fun k _ => xk_B (D - 1) 23 2 [.ref a, .ref o, .ref r, .int (xj k)] [] (f, w) K) (fun j => ?_) (fun k hk ih j => ?_) 0 (Nat.zero_le _) ()
    · have h5 : soF O row L k0 = false := by simpa using h2
      rw [b23_2]
      simp (disch := omega) only [b23_0, b23_1, b23_3, b23_4, b23_7, b23_10, b23_11, b23_12, b23_13, b23_14, b23_17, b23_20, b23_21, b23_22, b23_25, b23_28, b23_29, b23_21o, b23_21z, b23_21c, b23_29o, b23_29z, b23_29c, List.getElem?_cons_zero, List.getElem?_cons_succ, List.length_cons, List.length_nil, List.set_cons_zero, List.set_cons_succ, true_and, and_true, Option.toList_some, Option.toList_none, List.cons_append, List.nil_append, ↓reduceIte, not_false_eq_true, not_true_eq_false, Nat.reduceAdd, xj0_01, xj1_01, xb_B, xb_True, xb_False, ↓gl_0 hl, ↓xj_in, xj_nat, Int.toNat_natCast, xj_lt_t, xj_lt_f, xj_le_t, xj_le_f, xj_eq_t, xj_eq_f, xj_lt, xj_le, xj_eq, xj_add, xj_sub, xj_mul, show ¬ xj 1 = xj 0 from by decide, hrl, s_isSo (D := D - 1) (k := k0) (by omega) ho hw hl hwl h1 hr hrow, h5, Bool.false_eq_true]
    · exact (step k (by omega) (by simpa using h3 k hk)).trans (ih ())
  · have e : allF O row L = true := decide_eq_true (by omega)
    rw [xb_t e]
    refine xk_down (J := Unit) (n := L.1) (P := fun k _ => xk_B (D - 1) 23 2 [.ref a, .ref o, .ref r, .int (xj k)] [] (f, w) K) (fun j => ?_) (fun k hk ih j => ?_) 0 (Nat.zero_le _) ()
    · simp (disch := omega) only [b23_0, b23_1, b23_2, b23_3, b23_4, b23_7, b23_10, b23_11, b23_12, b23_13, b23_14, b23_17, b23_20, b23_21, b23_22, b23_25, b23_28, b23_29, b23_21o, b23_21z, b23_21c, b23_29o, b23_29z, b23_29c, List.getElem?_cons_zero, List.getElem?_cons_succ, List.length_cons, List.length_nil, List.set_cons_zero, List.set_cons_succ, true_and, and_true, Option.toList_some, Option.toList_none, List.cons_append, List.nil_append, ↓reduceIte, not_false_eq_true, not_true_eq_false, Nat.reduceAdd, xj0_01, xj1_01, xb_B, xb_True, xb_False, ↓gl_0 hl, ↓xj_in, xj_nat, Int.toNat_natCast, xj_lt_t, xj_lt_f, xj_le_t, xj_le_f, xj_eq_t, xj_eq_f, xj_lt, xj_le, xj_eq, xj_add, xj_sub, xj_mul, show ¬ xj 1 = xj 0 from by decide]
    · exact (step k (by omega) (by simpa using h1 k hk)).trans (ih ())
/-- writes in a block of logs -/
theorem pl_0 : xk_PF (xs f a (xc_Lg a L)) a 3 0 (.int (xj (k : Nat))) F ↔ F (xs f a (xc_Lg a (k, L.2))) := by
  rw [pf_R (fs := [.int (xj L.1), .ref (a + 1), .ref (a + 2), .ref (a + 3)]) (xs_at f a _ 0) (by decide : 0 < 4)]
  exact iff_of_eq (congrArg F xs_up0)
theorem pl_1 (h1 : 0 ≤ z) (h2 : z < 10) : xk_AS (xs f a (xc_Lg a L)) (a + 1) (xj z) (xj y) F ↔ F (xs f a (xc_Lg a (L.1, upI L.2.1 z.toNat y, L.2.2))) := by
  rw [as_I (xs_at f a _ 1) h1 h2 (by decide)]
  exact iff_of_eq (congrArg F (xs_up (k := 1) (cs := xc_Lg a L) (by show 1 < 4; decide)))
theorem pl_2 (h1 : 0 ≤ z) (h2 : z < 10) : xk_AS (xs f a (xc_Lg a L)) (a + 2) (xj z) (xj y) F ↔ F (xs f a (xc_Lg a (L.1, L.2.1, upI L.2.2.1 z.toNat y, L.2.2.2))) := by
  rw [as_I (xs_at f a _ 2) h1 h2 (by decide)]
  exact iff_of_eq (congrArg F (xs_up (k := 2) (cs := xc_Lg a L) (by show 2 < 4; decide)))
theorem pl_3 (h1 : 0 ≤ z) (h2 : z < 10) : xk_AS (xs f a (xc_Lg a L)) (a + 3) (xj z) (xj y) F ↔ F (xs f a (xc_Lg a (L.1, L.2.1, L.2.2.1, upI L.2.2.2 z.toNat y))) := by
  rw [as_I (xs_at f a _ 3) h1 h2 (by decide)]
  exact iff_of_eq (congrArg F (xs_up (k := 3) (cs := xc_Lg a L) (by show 3 < 4; decide)))
def addL (L : Lg) (z x y : Int) : Lg := (L.1 + 1, upI L.2.1 L.1 z, upI L.2.2.1 L.1 x, upI L.2.2.2 L.1 y)
theorem s_addL_no (hD : 1 ≤ D) (hl : xv_Lg f a L) (hs : L.1 = 10) : xk_Cl D 22 [.ref a, .int (xj z), .int (xj x), .int (xj y)] (f, w) K ↔ K (some (.int (xj 0))) (f, w) := by
  rw [e22 (by omega)]
  simp (disch := omega) only [b22_0, b22_1, b22_4, b22_7, b22_8, b22_11, b22_12, b22_15, b22_16, b22_19, b22_20, b22_23, b22_24, b22_27, b22_28, b22_31, b22_32, b22_35, b22_36, b22_39, b22_40, b22_43, b22_44, b22_45, b22_46, b22_49, b22_50, b22_53, b22_54, b22_55, b22_56, b22_59, b22_60, b22_63, b22_64, b22_65, b22_66, b22_69, b22_70, b22_73, b22_74, b22_75, b22_76, b22_77, b22_80, b22_81, b22_82, b22_85, b22_86, b22_44o, b22_44z, b22_44c, b22_86o, b22_86z, b22_86c, List.getElem?_cons_zero, List.getElem?_cons_succ, List.length_cons, List.length_nil, List.set_cons_zero, List.set_cons_succ, true_and, and_true, Option.toList_some, Option.toList_none, List.cons_append, List.nil_append, ↓reduceIte, not_false_eq_true, not_true_eq_false, Nat.reduceAdd, xj0_01, xj1_01, xb_B, xb_True, xb_False, ↓gl_0 hl, ↓gl_1 hl, ↓gl_2 hl, ↓gl_3 hl, ↓ln_I hl.2.1, ↓ln_I hl.2.2.1, ↓ln_I hl.2.2.2, ↓xj_in, xj_nat, Int.toNat_natCast, xj_lt_t, xj_lt_f, xj_le_t, xj_le_f, xj_eq_t, xj_eq_f, xj_lt, xj_le, xj_eq, xj_add, xj_sub, xj_mul, show ¬ xj 1 = xj 0 from by decide, hs]
theorem s_addL (hD : 1 ≤ D) (hl : xv_Lg f a L) (hs : L.1 < 10) : xk_Cl D 22 [.ref a, .int (xj z), .int (xj x), .int (xj y)] (f, w) K ↔ K (some (.int (xj 1))) (xs f a (xc_Lg a (addL L z x y)), w) := by
  rw [e22 (by omega)]
  rw [← xv_Lg_xv hl]
  have hq : ∀ L' : Lg, xv_Lg (xs f a (xc_Lg a L')) a L' := fun L' => xv_Lg_xs
  have hx : ∀ L' L'' : Lg, xs (xs f a (xc_Lg a L')) a (xc_Lg a L'') = xs f a (xc_Lg a L'') := fun L' L'' => xs_xs rfl
  have l1 : ∀ (L' : Lg) (F : Int32 → Prop), xk_LN (xs f a (xc_Lg a L')) (a + 1) F ↔ F (xj (10 : Nat)) := fun L' F => ln_I (hq L').2.1
  have l2 : ∀ (L' : Lg) (F : Int32 → Prop), xk_LN (xs f a (xc_Lg a L')) (a + 2) F ↔ F (xj (10 : Nat)) := fun L' F => ln_I (hq L').2.2.1
  have l3 : ∀ (L' : Lg) (F : Int32 → Prop), xk_LN (xs f a (xc_Lg a L')) (a + 3) F ↔ F (xj (10 : Nat)) := fun L' F => ln_I (hq L').2.2.2
  have p0 : ∀ (L' : Lg) (k : Nat) (F : (Nat → xk_C) → Prop), xk_PF (xs f a (xc_Lg a L')) a 3 0 (.int (xj ((k : Int) + 1))) F ↔ F (xs f a (xc_Lg a (k + 1, L'.2))) := fun L' k F => pl_0 (k := k + 1)
  simp (disch := omega) only [b22_0, b22_1, b22_4, b22_7, b22_8, b22_11, b22_12, b22_15, b22_16, b22_19, b22_20, b22_23, b22_24, b22_27, b22_28, b22_31, b22_32, b22_35, b22_36, b22_39, b22_40, b22_43, b22_44, b22_45, b22_46, b22_49, b22_50, b22_53, b22_54, b22_55, b22_56, b22_59, b22_60, b22_63, b22_64, b22_65, b22_66, b22_69, b22_70, b22_73, b22_74, b22_75, b22_76, b22_77, b22_80, b22_81, b22_82, b22_85, b22_86, b22_44o, b22_44z, b22_44c, b22_86o, b22_86z, b22_86c, List.getElem?_cons_zero, List.getElem?_cons_succ, List.length_cons, List.length_nil, List.set_cons_zero, List.set_cons_succ, true_and, and_true, Option.toList_some, Option.toList_none, List.cons_append, List.nil_append, ↓reduceIte, not_false_eq_true, not_true_eq_false, Nat.reduceAdd, xj0_01, xj1_01, xb_B, xb_True, xb_False, ↓gl_0 (hq _), ↓gl_1 (hq _), ↓gl_2 (hq _), ↓gl_3 (hq _), ↓l1, ↓l2, ↓l3, ↓xj_in, xj_nat, Int.toNat_natCast, xj_lt_t, xj_lt_f, xj_le_t, xj_le_f, xj_eq_t, xj_eq_f, xj_lt, xj_le, xj_eq, xj_add, xj_sub, xj_mul, show ¬ xj 1 = xj 0 from by decide, ↓pl_1, ↓pl_2, ↓pl_3, ↓p0, hx]
  rfl
theorem s_clearL (hD : 1 ≤ D) (hl : xv_Lg f a L) : xk_Cl D 20 [.ref a] (f, w) K ↔ K none (xs f a (xc_Lg a (0, L.2)), w) := by
  rw [e20 (by omega)]
  rw [← xv_Lg_xv hl]
  have hx : ∀ L' L'' : Lg, xs (xs f a (xc_Lg a L')) a (xc_Lg a L'') = xs f a (xc_Lg a L'') := fun L' L'' => xs_xs rfl
  have p0 : ∀ (L' : Lg) (F : (Nat → xk_C) → Prop), xk_PF (xs f a (xc_Lg a L')) a 3 0 (.int (xj 0)) F ↔ F (xs f a (xc_Lg a (0, L'.2))) := fun L' F => pl_0 (k := 0)
  simp (disch := omega) only [b20_0, b20_1, b20_2, b20_5, List.getElem?_cons_zero, List.getElem?_cons_succ, List.length_cons, List.length_nil, List.set_cons_zero, List.set_cons_succ, true_and, and_true, Option.toList_some, Option.toList_none, List.cons_append, List.nil_append, ↓reduceIte, not_false_eq_true, not_true_eq_false, Nat.reduceAdd, xj0_01, xj1_01, xb_B, xb_True, xb_False, ↓p0, hx]
theorem s_copyL (hD : 2 ≤ D) (hl : xv_Lg f a L) (hl2 : xv_Lg f b L2) (hz : xz_Lg L) (hz2 : xz_Lg L2) (hab : a + 3 < b ∨ b + 3 < a) : xk_Cl D 19 [.ref a, .ref b] (f, w) K ↔ K none (xs f a (xc_Lg a L2), w) := by
  rw [e19 (by omega)]
  rw [← xv_Lg_xv hl]
  have hx : ∀ L' L'' : Lg, xs (xs f a (xc_Lg a L')) a (xc_Lg a L'') = xs f a (xc_Lg a L'') := fun L' L'' => xs_xs rfl
  have hq : ∀ L' : Lg, xv_Lg (xs f a (xc_Lg a L')) a L' := fun L' => xv_Lg_xs
  have len : ∀ L' : Lg, (xc_Lg a L').length = 4 := fun _ => rfl
  have hb : ∀ L' : Lg, xv_Lg (xs f a (xc_Lg a L')) b L2 := fun L' => ⟨by rw [xs_ne (by rw [len]; omega)]; exact hl2.1, by rw [xs_ne (by rw [len]; omega)]; exact hl2.2.1, by rw [xs_ne (by rw [len]; omega)]; exact hl2.2.2.1, by rw [xs_ne (by rw [len]; omega)]; exact hl2.2.2.2⟩
  have u1 : ∀ (L' : Lg) (g : Nat → Int), va_up (xs f a (xc_Lg a L')) (a + 1) (xa_I 10 g) = xs f a (xc_Lg a (L'.1, g, L'.2.2)) := fun L' g => xs_up (k := 1) (cs := xc_Lg a L') (by show 1 < 4; decide)
  have u2 : ∀ (L' : Lg) (g : Nat → Int), va_up (xs f a (xc_Lg a L')) (a + 2) (xa_I 10 g) = xs f a (xc_Lg a (L'.1, L'.2.1, g, L'.2.2.2)) := fun L' g => xs_up (k := 2) (cs := xc_Lg a L') (by show 2 < 4; decide)
  have u3 : ∀ (L' : Lg) (g : Nat → Int), va_up (xs f a (xc_Lg a L')) (a + 3) (xa_I 10 g) = xs f a (xc_Lg a (L'.1, L'.2.1, L'.2.2.1, g)) := fun L' g => xs_up (k := 3) (cs := xc_Lg a L') (by show 3 < 4; decide)
  have m1 : mixI 10 L2.2.1 L.2.1 = L2.2.1 := mixI_z (fun i hi => (hz2 i hi).1) (fun i hi => (hz i hi).1)
  have m2 : mixI 10 L2.2.2.1 L.2.2.1 = L2.2.2.1 := mixI_z (fun i hi => (hz2 i hi).2.1) (fun i hi => (hz i hi).2.1)
  have m3 : mixI 10 L2.2.2.2 L.2.2.2 = L2.2.2.2 := mixI_z (fun i hi => (hz2 i hi).2.2) (fun i hi => (hz i hi).2.2)
  simp (disch := omega) only [b19_0, b19_1, b19_2, b19_5, b19_8, b19_9, b19_12, b19_13, List.getElem?_cons_zero, List.getElem?_cons_succ, List.length_cons, List.length_nil, List.set_cons_zero, List.set_cons_succ, true_and, and_true, Option.toList_some, Option.toList_none, List.cons_append, List.nil_append, ↓reduceIte, not_false_eq_true, not_true_eq_false, Nat.reduceAdd, xj0_01, xj1_01, xb_B, xb_True, xb_False, ↓gl_0 (hb _), ↓gl_1 (hb _), ↓gl_1 (hq _), ↓pl_0]
  rw [b19_16, s_copyRow (by omega) (hb _).2.1 (hq _).2.1 (by omega) (by decide), u1, m1]
  simp (disch := omega) only [b19_19, b19_20, b19_23, b19_24, List.getElem?_cons_zero, List.getElem?_cons_succ, List.length_cons, List.length_nil, List.set_cons_zero, List.set_cons_succ, true_and, and_true, Option.toList_some, Option.toList_none, List.cons_append, List.nil_append, ↓reduceIte, not_false_eq_true, not_true_eq_false, Nat.reduceAdd, xj0_01, xj1_01, xb_B, xb_True, xb_False, ↓gl_2 (hb _), ↓gl_2 (hq _)]
  rw [b19_27, s_copyRow (by omega) (hb _).2.2.1 (hq _).2.2.1 (by omega) (by decide), u2, m2]
  simp (disch := omega) only [b19_30, b19_31, b19_34, b19_35, List.getElem?_cons_zero, List.getElem?_cons_succ, List.length_cons, List.length_nil, List.set_cons_zero, List.set_cons_succ, true_and, and_true, Option.toList_some, Option.toList_none, List.cons_append, List.nil_append, ↓reduceIte, not_false_eq_true, not_true_eq_false, Nat.reduceAdd, xj0_01, xj1_01, xb_B, xb_True, xb_False, ↓gl_3 (hb _), ↓gl_3 (hq _)]
  rw [b19_38, s_copyRow (by omega) (hb _).2.2.2 (hq _).2.2.2 (by omega) (by decide), u3, m3]
  simp only [b19_41, List.getElem?_cons_zero, List.getElem?_cons_succ, List.length_cons, List.length_nil, List.set_cons_zero, List.set_cons_succ, true_and, and_true, Option.toList_some, Option.toList_none, List.cons_append, List.nil_append, ↓reduceIte, not_false_eq_true, not_true_eq_false, Nat.reduceAdd, xj0_01, xj1_01, xb_B, xb_True, xb_False, hx]
end XS31
