/-! the class cuts a text: a piece, all -/
section XS97
variable {D a b k p q n r c v fa sz nx sz' nx' fa' : Nat} {f g : Nat → xk_C} {w : Nat × Nat × Nat} {K : Option Value → xk_S → Prop} {x y z lo hi : Int} {T ks vs ps h : Nat → Int} {V : Value → Prop} {F : Int32 → Prop} {G : (Nat → xk_C) → Prop}
theorem pTx_3z : xk_PF (xs_Tx f a sz nx fa ks vs ps) a 10 3 (.int (xj 0)) G ↔ G (xs_Tx f a 0 nx fa ks vs ps) := pTx_3 (k := 0)
theorem pTx_4z : xk_PF (xs_Tx f a sz nx fa ks vs ps) a 10 4 (.int (xj 0)) G ↔ G (xs_Tx f a sz 0 fa ks vs ps) := pTx_4 (k := 0)
theorem pTx_5z : xk_PF (xs_Tx f a sz nx fa ks vs ps) a 10 5 (.int (xj 0)) G ↔ G (xs_Tx f a sz nx 0 ks vs ps) := pTx_5 (k := 0)
theorem s_cutOne (hD : 11 ≤ D) (hr : f r = xa_I 400 T) (hra : r < a ∨ a + 4 ≤ r) (hT : tOK T n) (hp : p < n) (hsp : T p ≠ 32) (hs : sz < 401) : xk_Cl D 85 [.ref a, .ref r, .int (xj (p : Nat)), .int (xj (n : Nat))] (xs_Tx f a sz nx fa ks vs ps, w) K ↔ K (some (.int (xj ((enT T n p : Nat) - (p : Nat))))) (xs_Tx f a (sz + 1) nx fa (upI ks sz (kdT T n p : Nat)) (upI vs sz (vaT T n p)) (upI ps sz (p : Nat)), w) := by
  rw [e85 (by omega)]
  have hn := hT.1
  have hr' : xs_Tx f a sz nx fa ks vs ps r = xa_I 400 T := (xTx_ne hra).trans hr
  have ht := hT.2 p hp
  have enr := en_rng (T := T) hp
  by_cases c1 : 48 ≤ T p ∧ T p ≤ 57
  · have hd : dgB T n p = true := decide_eq_true ⟨hp, c1.1, c1.2⟩
    have hk := kd_1 hd
    have k1 : ((kdT T n p : Nat) : Int) = 1 := by rw [hk]; rfl
    have he : enT T n p = dgE T n p := by unfold enT; rw [if_pos hk]
    have hv : vaT T n p = if 5 < dgE T n p - p then -1 else nvF T p (dgE T n p - p) := by unfold vaT; rw [if_neg (by omega), if_pos hk]
    rw [he] at enr
    have re : ∀ K', xk_Cl (D - 1) 87 [.ref r, .int (xj (p : Nat)), .int (xj (n : Nat)), .int (xj 48), .int (xj 57)] (xs_Tx f a sz nx fa ks vs ps, w) K' ↔ K' (some (.int (xj (dgE T n p : Nat)))) (xs_Tx f a sz nx fa ks vs ps, w) := fun K' => s_runEnd (by omega) hr' hT (by omega) (by omega) (by omega) (by omega) (by omega)
    have rn : ∀ K', xk_Cl (D - 1) 88 [.ref r, .int (xj (p : Nat)), .int (xj (dgE T n p : Nat))] (xs_Tx f a sz nx fa ks vs ps, w) K' ↔ _ := fun K' => s_numberIn (n := n) (by omega) hr' hT (by omega) enr.2 (fun i hi => reF_all (dgB T n) 400 p (p + i) (by omega) (by show p + i < dgE T n p; omega))
    rw [he, hv, k1]
    generalize (if 5 < dgE T n p - p then -1 else nvF T p (dgE T n p - p)) = val at *
    simp (disch := omega) only [b85_0, b85_1, b85_2, b85_3, b85_5, b85_7, b85_9, b85_12, b85_14, b85_16, b85_19, b85_20, b85_21, b85_22, b85_24, b85_26, b85_29, b85_31, b85_32, b85_33, b85_34, b85_35, b85_37, b85_40, b85_41, b85_44, b85_46, b85_47, b85_48, List.getElem?_cons_zero, List.getElem?_cons_succ, List.length_cons, List.length_nil, List.set_cons_zero, List.set_cons_succ, true_and, and_true, Option.toList_some, Option.toList_none, List.cons_append, List.nil_append, ↓reduceIte, not_false_eq_true, not_true_eq_false, Nat.reduceAdd, xj0_01, xj1_01, xb_B, xb_True, xb_False, ↓ln_I hr', ↓al_I hr', ↓xj_in, xj_nat, Int.toNat_natCast, xj_lt_t, xj_lt_f, xj_le_t, xj_le_f, xj_eq_t, xj_eq_f, xj_lt, xj_le, xj_eq, xj_add, xj_sub, xj_mul, show ¬ xj 1 = xj 0 from by decide, re, rn, rcTx, s_put]
  · by_cases c2 : 97 ≤ T p ∧ T p ≤ 122
    · have hd : ltB T n p = true := decide_eq_true ⟨hp, c2.1, c2.2⟩
      have hk := kd_2 hd
      have k1 : ((kdT T n p : Nat) : Int) = 2 := by rw [hk]; rfl
      have he : enT T n p = ltE T n p := by unfold enT; rw [if_neg (by omega), if_pos hk]
      have hv : vaT T n p = wdT T p (ltE T n p - p) := by unfold vaT; rw [if_neg (by omega), if_neg (by omega), if_pos hk]; rfl
      rw [he] at enr
      have re : ∀ K', xk_Cl (D - 1) 87 [.ref r, .int (xj (p : Nat)), .int (xj (n : Nat)), .int (xj 97), .int (xj 122)] (xs_Tx f a sz nx fa ks vs ps, w) K' ↔ K' (some (.int (xj (ltE T n p : Nat)))) (xs_Tx f a sz nx fa ks vs ps, w) := fun K' => s_runEnd (by omega) hr' hT (by omega) (by omega) (by omega) (by omega) (by omega)
      have rn : ∀ K', xk_Cl (D - 1) 89 [.ref r, .int (xj (p : Nat)), .int (xj (ltE T n p : Nat))] (xs_Tx f a sz nx fa ks vs ps, w) K' ↔ _ := fun K' => s_wordIn (n := n) (by omega) hr' hT (by omega) enr.2
      rw [he, hv, k1]
      generalize wdT T p (ltE T n p - p) = val at *
      by_cases c3 : T p < 48
      · omega
      · have c4 : 57 < T p := by omega
        simp (disch := omega) only [b85_0, b85_1, b85_2, b85_3, b85_5, b85_7, b85_9, b85_12, b85_14, b85_16, b85_49, b85_51, b85_53, b85_56, b85_58, b85_60, b85_63, b85_64, b85_65, b85_66, b85_68, b85_70, b85_73, b85_75, b85_76, b85_77, b85_78, b85_79, b85_81, b85_84, b85_85, b85_88, b85_90, b85_91, b85_92, List.getElem?_cons_zero, List.getElem?_cons_succ, List.length_cons, List.length_nil, List.set_cons_zero, List.set_cons_succ, true_and, and_true, Option.toList_some, Option.toList_none, List.cons_append, List.nil_append, ↓reduceIte, not_false_eq_true, not_true_eq_false, Nat.reduceAdd, xj0_01, xj1_01, xb_B, xb_True, xb_False, ↓ln_I hr', ↓al_I hr', ↓xj_in, xj_nat, Int.toNat_natCast, xj_lt_t, xj_lt_f, xj_le_t, xj_le_f, xj_eq_t, xj_eq_f, xj_lt, xj_le, xj_eq, xj_add, xj_sub, xj_mul, show ¬ xj 1 = xj 0 from by decide, re, rn, rcTx, s_put]
    · have hk := kd_mk (T := T) hp c1 c2
      have k1 : ((kdT T n p : Nat) : Int) = 3 := by rw [hk]; rfl
      have hv := va_mk (T := T) hk
      have he := en_mk (T := T) hk
      -- to the first test of a mark
      have start : xk_B (D - 1) 85 93 [.ref a, .ref r, .int (xj (p : Nat)), .int (xj (n : Nat)), .int (xj (T p)), xk_dd] [] (xs_Tx f a sz nx fa ks vs ps, w) K ↔ K (some (.int (xj ((enT T n p : Nat) - (p : Nat))))) (xs_Tx f a (sz + 1) nx fa (upI ks sz (kdT T n p : Nat)) (upI vs sz (vaT T n p)) (upI ps sz (p : Nat)), w) := by
        by_cases ct : twB T n p = true
        · obtain ⟨q1, q2, q3⟩ := of_decide_eq_true ct
          rw [if_pos ct] at hv he
          have e2 : ((enT T n p : Nat) : Int) - (p : Nat) = 2 := by omega
          have ep : ((p : Nat) : Int) + 1 = ((p + 1 : Nat) : Int) := by omega
          rw [k1, hv, e2]
          rcases q1 with q1 | q1
          · rw [q1]
            simp (disch := omega) only [b85_93, b85_95, b85_97, b85_100, b85_102, b85_104, b85_107, b85_108, b85_109, b85_110, b85_111, b85_114, b85_115, b85_116, b85_117, b85_118, b85_119, b85_122, b85_123, b85_124, b85_125, b85_126, b85_127, b85_129, b85_132, b85_133, b85_136, b85_137, b85_139, b85_140, b85_141, b85_143, b85_146, b85_148, b85_151, b85_152, b85_155, b85_157, b85_158, b85_161, b85_163, b85_166, b85_167, b85_170, b85_171, List.getElem?_cons_zero, List.getElem?_cons_succ, List.length_cons, List.length_nil, List.set_cons_zero, List.set_cons_succ, true_and, and_true, Option.toList_some, Option.toList_none, List.cons_append, List.nil_append, ↓reduceIte, not_false_eq_true, not_true_eq_false, Nat.reduceAdd, xj0_01, xj1_01, xb_B, xb_True, xb_False, ↓ln_I hr', ↓al_I hr', ↓xj_in, xj_nat, Int.toNat_natCast, xj_lt_t, xj_lt_f, xj_le_t, xj_le_f, xj_eq_t, xj_eq_f, xj_lt, xj_le, xj_eq, xj_add, xj_sub, xj_mul, show ¬ xj 1 = xj 0 from by decide, ep, q3, rcTx, s_put]
          · rw [q1]
            simp (disch := omega) only [b85_93, b85_95, b85_97, b85_100, b85_102, b85_104, b85_107, b85_108, b85_109, b85_110, b85_111, b85_114, b85_115, b85_116, b85_117, b85_118, b85_119, b85_122, b85_123, b85_124, b85_125, b85_126, b85_127, b85_129, b85_132, b85_133, b85_136, b85_137, b85_139, b85_140, b85_141, b85_143, b85_146, b85_148, b85_151, b85_152, b85_155, b85_157, b85_158, b85_161, b85_163, b85_166, b85_167, b85_170, b85_171, List.getElem?_cons_zero, List.getElem?_cons_succ, List.length_cons, List.length_nil, List.set_cons_zero, List.set_cons_succ, true_and, and_true, Option.toList_some, Option.toList_none, List.cons_append, List.nil_append, ↓reduceIte, not_false_eq_true, not_true_eq_false, Nat.reduceAdd, xj0_01, xj1_01, xb_B, xb_True, xb_False, ↓ln_I hr', ↓al_I hr', ↓xj_in, xj_nat, Int.toNat_natCast, xj_lt_t, xj_lt_f, xj_le_t, xj_le_f, xj_eq_t, xj_eq_f, xj_lt, xj_le, xj_eq, xj_add, xj_sub, xj_mul, show ¬ xj 1 = xj 0 from by decide, ep, q3, rcTx, s_put]
        · have nt : ¬ ((T p = 60 ∨ T p = 62) ∧ p + 1 < n ∧ T (p + 1) = 61) := fun s => ct (decide_eq_true s)
          rw [if_neg ct] at hv he
          have e1 : ((enT T n p : Nat) : Int) - (p : Nat) = 1 := by omega
          have ep : ((p : Nat) : Int) + 1 = ((p + 1 : Nat) : Int) := by omega
          rw [k1, hv, e1]
          have fin : xk_B (D - 1) 85 136 [.ref a, .ref r, .int (xj (p : Nat)), .int (xj (n : Nat)), .int (xj (T p)), xk_dd] [] (xs_Tx f a sz nx fa ks vs ps, w) K ↔ K (some (.int (xj 1))) (xs_Tx f a (sz + 1) nx fa (upI ks sz 3) (upI vs sz (T p)) (upI ps sz (p : Nat)), w) := by
            simp (disch := omega) only [b85_136, b85_137, b85_139, b85_140, b85_141, b85_143, b85_146, b85_148, b85_151, b85_152, b85_155, b85_157, b85_158, b85_161, b85_163, b85_166, b85_167, b85_170, b85_171, List.getElem?_cons_zero, List.getElem?_cons_succ, List.length_cons, List.length_nil, List.set_cons_zero, List.set_cons_succ, true_and, and_true, Option.toList_some, Option.toList_none, List.cons_append, List.nil_append, ↓reduceIte, not_false_eq_true, not_true_eq_false, Nat.reduceAdd, xj0_01, xj1_01, xb_B, xb_True, xb_False, ↓xj_in, xj_nat, Int.toNat_natCast, xj_lt_t, xj_lt_f, xj_le_t, xj_le_f, xj_eq_t, xj_eq_f, xj_lt, xj_le, xj_eq, xj_add, xj_sub, xj_mul, show ¬ xj 1 = xj 0 from by decide, rcTx, s_put]
          rw [← fin]
          by_cases d1 : p + 1 < n
          · have ht1 := hT.2 (p + 1) d1
            by_cases d2 : T p = 60
            · have d3 : ¬ T (p + 1) = 61 := fun s => nt ⟨Or.inl d2, d1, s⟩
              simp (disch := omega) only [b85_93, b85_95, b85_97, b85_100, b85_102, b85_104, b85_107, b85_108, b85_109, b85_110, b85_111, b85_114, b85_115, b85_116, b85_117, b85_118, b85_119, b85_122, b85_123, b85_124, b85_125, b85_126, b85_127, b85_129, b85_132, b85_133, List.getElem?_cons_zero, List.getElem?_cons_succ, List.length_cons, List.length_nil, List.set_cons_zero, List.set_cons_succ, true_and, and_true, Option.toList_some, Option.toList_none, List.cons_append, List.nil_append, ↓reduceIte, not_false_eq_true, not_true_eq_false, Nat.reduceAdd, xj0_01, xj1_01, xb_B, xb_True, xb_False, ↓ln_I hr', ↓al_I hr', ↓xj_in, xj_nat, Int.toNat_natCast, xj_lt_t, xj_lt_f, xj_le_t, xj_le_f, xj_eq_t, xj_eq_f, xj_lt, xj_le, xj_eq, xj_add, xj_sub, xj_mul, show ¬ xj 1 = xj 0 from by decide, ep]
            · by_cases d4 : T p = 62
              · have d3 : ¬ T (p + 1) = 61 := fun s => nt ⟨Or.inr d4, d1, s⟩
                simp (disch := omega) only [b85_93, b85_95, b85_97, b85_100, b85_102, b85_104, b85_107, b85_108, b85_109, b85_110, b85_111, b85_114, b85_115, b85_116, b85_117, b85_118, b85_119, b85_122, b85_123, b85_124, b85_125, b85_126, b85_127, b85_129, b85_132, b85_133, List.getElem?_cons_zero, List.getElem?_cons_succ, List.length_cons, List.length_nil, List.set_cons_zero, List.set_cons_succ, true_and, and_true, Option.toList_some, Option.toList_none, List.cons_append, List.nil_append, ↓reduceIte, not_false_eq_true, not_true_eq_false, Nat.reduceAdd, xj0_01, xj1_01, xb_B, xb_True, xb_False, ↓ln_I hr', ↓al_I hr', ↓xj_in, xj_nat, Int.toNat_natCast, xj_lt_t, xj_lt_f, xj_le_t, xj_le_f, xj_eq_t, xj_eq_f, xj_lt, xj_le, xj_eq, xj_add, xj_sub, xj_mul, show ¬ xj 1 = xj 0 from by decide, ep]
              · simp (disch := omega) only [b85_93, b85_95, b85_97, b85_100, b85_102, b85_104, b85_107, b85_108, b85_109, b85_110, b85_111, b85_114, b85_115, b85_116, b85_117, b85_118, b85_119, b85_122, b85_123, b85_124, b85_125, b85_126, b85_127, b85_129, b85_132, b85_133, List.getElem?_cons_zero, List.getElem?_cons_succ, List.length_cons, List.length_nil, List.set_cons_zero, List.set_cons_succ, true_and, and_true, Option.toList_some, Option.toList_none, List.cons_append, List.nil_append, ↓reduceIte, not_false_eq_true, not_true_eq_false, Nat.reduceAdd, xj0_01, xj1_01, xb_B, xb_True, xb_False, ↓ln_I hr', ↓al_I hr', ↓xj_in, xj_nat, Int.toNat_natCast, xj_lt_t, xj_lt_f, xj_le_t, xj_le_f, xj_eq_t, xj_eq_f, xj_lt, xj_le, xj_eq, xj_add, xj_sub, xj_mul, show ¬ xj 1 = xj 0 from by decide, ep]
          · by_cases d2 : T p = 60
            · simp (disch := omega) only [b85_93, b85_95, b85_97, b85_100, b85_102, b85_104, b85_107, b85_108, b85_109, b85_110, b85_111, b85_114, b85_115, b85_116, b85_117, b85_118, b85_119, b85_122, b85_123, b85_124, b85_125, b85_126, b85_127, b85_129, b85_132, b85_133, List.getElem?_cons_zero, List.getElem?_cons_succ, List.length_cons, List.length_nil, List.set_cons_zero, List.set_cons_succ, true_and, and_true, Option.toList_some, Option.toList_none, List.cons_append, List.nil_append, ↓reduceIte, not_false_eq_true, not_true_eq_false, Nat.reduceAdd, xj0_01, xj1_01, xb_B, xb_True, xb_False, ↓ln_I hr', ↓al_I hr', ↓xj_in, xj_nat, Int.toNat_natCast, xj_lt_t, xj_lt_f, xj_le_t, xj_le_f, xj_eq_t, xj_eq_f, xj_lt, xj_le, xj_eq, xj_add, xj_sub, xj_mul, show ¬ xj 1 = xj 0 from by decide, ep]
            · by_cases d4 : T p = 62
              · simp (disch := omega) only [b85_93, b85_95, b85_97, b85_100, b85_102, b85_104, b85_107, b85_108, b85_109, b85_110, b85_111, b85_114, b85_115, b85_116, b85_117, b85_118, b85_119, b85_122, b85_123, b85_124, b85_125, b85_126, b85_127, b85_129, b85_132, b85_133, List.getElem?_cons_zero, List.getElem?_cons_succ, List.length_cons, List.length_nil, List.set_cons_zero, List.set_cons_succ, true_and, and_true, Option.toList_some, Option.toList_none, List.cons_append, List.nil_append, ↓reduceIte, not_false_eq_true, not_true_eq_false, Nat.reduceAdd, xj0_01, xj1_01, xb_B, xb_True, xb_False, ↓ln_I hr', ↓al_I hr', ↓xj_in, xj_nat, Int.toNat_natCast, xj_lt_t, xj_lt_f, xj_le_t, xj_le_f, xj_eq_t, xj_eq_f, xj_lt, xj_le, xj_eq, xj_add, xj_sub, xj_mul, show ¬ xj 1 = xj 0 from by decide, ep]
              · simp (disch := omega) only [b85_93, b85_95, b85_97, b85_100, b85_102, b85_104, b85_107, b85_108, b85_109, b85_110, b85_111, b85_114, b85_115, b85_116, b85_117, b85_118, b85_119, b85_122, b85_123, b85_124, b85_125, b85_126, b85_127, b85_129, b85_132, b85_133, List.getElem?_cons_zero, List.getElem?_cons_succ, List.length_cons, List.length_nil, List.set_cons_zero, List.set_cons_succ, true_and, and_true, Option.toList_some, Option.toList_none, List.cons_append, List.nil_append, ↓reduceIte, not_false_eq_true, not_true_eq_false, Nat.reduceAdd, xj0_01, xj1_01, xb_B, xb_True, xb_False, ↓ln_I hr', ↓al_I hr', ↓xj_in, xj_nat, Int.toNat_natCast, xj_lt_t, xj_lt_f, xj_le_t, xj_le_f, xj_eq_t, xj_eq_f, xj_lt, xj_le, xj_eq, xj_add, xj_sub, xj_mul, show ¬ xj 1 = xj 0 from by decide, ep]
      rw [← start]
      by_cases c3 : T p < 48
      · simp (disch := omega) only [b85_0, b85_1, b85_2, b85_3, b85_5, b85_7, b85_9, b85_12, b85_14, b85_16, b85_49, b85_51, b85_53, b85_56, b85_58, b85_60, List.getElem?_cons_zero, List.getElem?_cons_succ, List.length_cons, List.length_nil, List.set_cons_zero, List.set_cons_succ, true_and, and_true, Option.toList_some, Option.toList_none, List.cons_append, List.nil_append, ↓reduceIte, not_false_eq_true, not_true_eq_false, Nat.reduceAdd, xj0_01, xj1_01, xb_B, xb_True, xb_False, ↓ln_I hr', ↓al_I hr', ↓xj_in, xj_nat, Int.toNat_natCast, xj_lt_t, xj_lt_f, xj_le_t, xj_le_f, xj_eq_t, xj_eq_f, xj_lt, xj_le, xj_eq, xj_add, xj_sub, xj_mul, show ¬ xj 1 = xj 0 from by decide]
      · by_cases c4 : T p < 97
        · simp (disch := omega) only [b85_0, b85_1, b85_2, b85_3, b85_5, b85_7, b85_9, b85_12, b85_14, b85_16, b85_49, b85_51, b85_53, b85_56, b85_58, b85_60, List.getElem?_cons_zero, List.getElem?_cons_succ, List.length_cons, List.length_nil, List.set_cons_zero, List.set_cons_succ, true_and, and_true, Option.toList_some, Option.toList_none, List.cons_append, List.nil_append, ↓reduceIte, not_false_eq_true, not_true_eq_false, Nat.reduceAdd, xj0_01, xj1_01, xb_B, xb_True, xb_False, ↓ln_I hr', ↓al_I hr', ↓xj_in, xj_nat, Int.toNat_natCast, xj_lt_t, xj_lt_f, xj_le_t, xj_le_f, xj_eq_t, xj_eq_f, xj_lt, xj_le, xj_eq, xj_add, xj_sub, xj_mul, show ¬ xj 1 = xj 0 from by decide]
        · simp (disch := omega) only [b85_0, b85_1, b85_2, b85_3, b85_5, b85_7, b85_9, b85_12, b85_14, b85_16, b85_49, b85_51, b85_53, b85_56, b85_58, b85_60, List.getElem?_cons_zero, List.getElem?_cons_succ, List.length_cons, List.length_nil, List.set_cons_zero, List.set_cons_succ, true_and, and_true, Option.toList_some, Option.toList_none, List.cons_append, List.nil_append, ↓reduceIte, not_false_eq_true, not_true_eq_false, Nat.reduceAdd, xj0_01, xj1_01, xb_B, xb_True, xb_False, ↓ln_I hr', ↓al_I hr', ↓xj_in, xj_nat, Int.toNat_natCast, xj_lt_t, xj_lt_f, xj_le_t, xj_le_f, xj_eq_t, xj_eq_f, xj_lt, xj_le, xj_eq, xj_add, xj_sub, xj_mul, show ¬ xj 1 = xj 0 from by decide]
theorem u_cutL (hD : 12 ≤ D) (hr : f r = xa_I 400 T) (hra : r < a ∨ a + 4 ≤ r) (hT : tOK T n) (hpost : ∀ f', (∀ x, (x < a ∨ a + 4 ≤ x) → f' x = f x) → xT f' a T n (skT T n 0) 0 → K none (f', w)) : ∀ (m q j sz : Nat) (ks vs ps : Nat → Int), n ≤ q + m → q ≤ n → j ≤ q → sz ≤ j → cutI T n sz ks vs ps q → xk_B (D - 1) 84 20 [.ref a, .ref r, .int (xj (n : Nat)), .int (xj (q : Nat)), .int (xj (j : Nat))] [] (xs_Tx f a sz 0 0 ks vs ps, w) K := by
  have hn := hT.1
  have fin : ∀ (j sz : Nat) (ks vs ps : Nat → Int), j ≤ n → sz ≤ j → cutI T n sz ks vs ps n → xk_B (D - 1) 84 20 [.ref a, .ref r, .int (xj (n : Nat)), .int (xj (n : Nat)), .int (xj (j : Nat))] [] (xs_Tx f a sz 0 0 ks vs ps, w) K := by
    intro j sz ks vs ps h1 h2 h3
    have ce := cutI_end hn (by omega) h3
    have po := hpost (xs_Tx f a (sz + 1) 0 0 (upI ks sz 0) (upI vs sz 0) (upI ps sz (n : Nat))) (fun x hx => xTx_ne hx) ⟨_, _, _, sz + 1, 0, xTx_0, xTx_1, xTx_2, xTx_3, ce.1, by omega, ce.2, by omega, hT⟩
    by_cases c : j < 400
    · simp (disch := omega) only [b84_20, b84_22, b84_25, b84_28, b84_29, b84_30, b84_67, b84_68, b84_69, b84_70, b84_71, b84_74, List.getElem?_cons_zero, List.getElem?_cons_succ, List.length_cons, List.length_nil, List.set_cons_zero, List.set_cons_succ, true_and, and_true, Option.toList_some, Option.toList_none, List.cons_append, List.nil_append, ↓reduceIte, not_false_eq_true, not_true_eq_false, Nat.reduceAdd, xj0_01, xj1_01, xb_B, xb_True, xb_False, ↓xj_in, xj_nat, Int.toNat_natCast, xj_lt_t, xj_lt_f, xj_le_t, xj_le_f, xj_eq_t, xj_eq_f, xj_lt, xj_le, xj_eq, xj_add, xj_sub, xj_mul, show ¬ xj 1 = xj 0 from by decide, rcTx, s_put]
      exact po
    · simp (disch := omega) only [b84_20, b84_22, b84_25, b84_28, b84_29, b84_30, b84_67, b84_68, b84_69, b84_70, b84_71, b84_74, List.getElem?_cons_zero, List.getElem?_cons_succ, List.length_cons, List.length_nil, List.set_cons_zero, List.set_cons_succ, true_and, and_true, Option.toList_some, Option.toList_none, List.cons_append, List.nil_append, ↓reduceIte, not_false_eq_true, not_true_eq_false, Nat.reduceAdd, xj0_01, xj1_01, xb_B, xb_True, xb_False, ↓xj_in, xj_nat, Int.toNat_natCast, xj_lt_t, xj_lt_f, xj_le_t, xj_le_f, xj_eq_t, xj_eq_f, xj_lt, xj_le, xj_eq, xj_add, xj_sub, xj_mul, show ¬ xj 1 = xj 0 from by decide, rcTx, s_put]
      exact po
  intro m
  induction m with
  | zero =>
    intro q j sz ks vs ps h1 h2 h3 h4 h5
    have : q = n := by omega
    subst this
    exact fin j sz ks vs ps h3 h4 h5
  | succ m ih =>
    intro q j sz ks vs ps h1 h2 h3 h4 h5
    by_cases cq : q = n
    · subst cq
      exact fin j sz ks vs ps h3 h4 h5
    · have hq : q < n := by omega
      have hr' : xs_Tx f a sz 0 0 ks vs ps r = xa_I 400 T := (xTx_ne hra).trans hr
      have ht := hT.2 q hq
      by_cases c : T q = 32
      · have hsp : spB T n q = true := decide_eq_true ⟨hq, c⟩
        have h6 : cutI T n sz ks vs ps (q + 1) := by
          have e := sk_sp hn hsp
          unfold cutI at h5 ⊢
          rw [← e]
          exact h5
        have po := ih (q + 1) (j + 1) sz ks vs ps (by omega) (by omega) (by omega) (by omega) h6
        rw [b84_20]
        simp (disch := omega) only [b84_22, b84_25, b84_28, b84_29, b84_30, b84_33, b84_34, b84_35, b84_36, b84_39, b84_40, b84_41, b84_42, b84_43, b84_45, b84_48, b84_49, b84_52, b84_53, b84_54, b84_55, b84_56, b84_59, b84_60, b84_61, b84_64, List.getElem?_cons_zero, List.getElem?_cons_succ, List.length_cons, List.length_nil, List.set_cons_zero, List.set_cons_succ, true_and, and_true, Option.toList_some, Option.toList_none, List.cons_append, List.nil_append, ↓reduceIte, not_false_eq_true, not_true_eq_false, Nat.reduceAdd, xj0_01, xj1_01, xb_B, xb_True, xb_False, ↓ln_I hr', ↓al_I hr', ↓xj_in, xj_nat, Int.toNat_natCast, xj_lt_t, xj_lt_f, xj_le_t, xj_le_f, xj_eq_t, xj_eq_f, xj_lt, xj_le, xj_eq, xj_add, xj_sub, xj_mul, show ¬ xj 1 = xj 0 from by decide, c]
        exact po
      · have hsp : spB T n q = false := decide_eq_false (fun s => c s.2)
        have enr := en_rng (T := T) hq
        have po := ih (enT T n q) (j + 1) (sz + 1) _ _ _ (by omega) enr.2 (by omega) (by omega) (cutI_up hn h5 hq hsp)
        have ee : ((q : Nat) : Int) + ((enT T n q : Nat) - (q : Nat)) = (enT T n q : Nat) := by omega
        rw [b84_20]
        simp (disch := omega) only [b84_22, b84_25, b84_28, b84_29, b84_30, b84_33, b84_34, b84_35, b84_36, b84_39, b84_40, b84_41, b84_42, b84_43, b84_45, b84_48, b84_49, b84_52, b84_53, b84_54, b84_55, b84_56, b84_59, b84_60, b84_61, b84_64, List.getElem?_cons_zero, List.getElem?_cons_succ, List.length_cons, List.length_nil, List.set_cons_zero, List.set_cons_succ, true_and, and_true, Option.toList_some, Option.toList_none, List.cons_append, List.nil_append, ↓reduceIte, not_false_eq_true, not_true_eq_false, Nat.reduceAdd, xj0_01, xj1_01, xb_B, xb_True, xb_False, ↓ln_I hr', ↓al_I hr', ↓xj_in, xj_nat, Int.toNat_natCast, xj_lt_t, xj_lt_f, xj_le_t, xj_le_f, xj_eq_t, xj_eq_f, xj_lt, xj_le, xj_eq, xj_add, xj_sub, xj_mul, show ¬ xj 1 = xj 0 from by decide, rcTx, s_cutOne _ hr hra hT hq c, ee]
        exact po
theorem u_cut (hD : 12 ≤ D) (h0 : f a = xc_Tx a sz nx fa) (h1 : f (a + 1) = xa_I 401 ks) (h2 : f (a + 2) = xa_I 401 vs) (h3 : f (a + 3) = xa_I 401 ps) (hr : f r = xa_I 400 T) (hra : r < a ∨ a + 4 ≤ r) (hT : tOK T n) (hpost : ∀ f', (∀ x, (x < a ∨ a + 4 ≤ x) → f' x = f x) → xT f' a T n (skT T n 0) 0 → K none (f', w)) : xk_Cl D 84 [.ref a, .ref r, .int (xj (n : Nat))] (f, w) K := by
  rw [e84 (by omega)]
  have po := u_cutL hD hr hra hT hpost n 0 0 0 ks vs ps (by omega) (by omega) (by omega) (by omega) ⟨fun i hi => absurd hi (Nat.not_lt_zero i), fun _ => rfl, fun c => absurd c (Nat.lt_irrefl 0)⟩
  rw [← xTx_id h0 h1 h2 h3]
  simp (disch := omega) only [b84_0, b84_1, b84_2, b84_5, b84_6, b84_7, b84_10, b84_11, b84_12, b84_15, b84_16, b84_17, b84_18, List.getElem?_cons_zero, List.getElem?_cons_succ, List.length_cons, List.length_nil, List.set_cons_zero, List.set_cons_succ, true_and, and_true, Option.toList_some, Option.toList_none, List.cons_append, List.nil_append, ↓reduceIte, not_false_eq_true, not_true_eq_false, Nat.reduceAdd, xj0_01, xj1_01, xb_B, xb_True, xb_False, ↓pTx_3z, ↓pTx_4z, ↓pTx_5z, ↓xj_in, xj_nat, Int.toNat_natCast, xj_lt_t, xj_lt_f, xj_le_t, xj_le_f, xj_eq_t, xj_eq_f, xj_lt, xj_le, xj_eq, xj_add, xj_sub, xj_mul, show ¬ xj 1 = xj 0 from by decide]
  exact po
end XS97
