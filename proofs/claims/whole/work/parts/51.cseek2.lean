/-! the class looks through rows: the search -/
def bstE (B A : Bst) : Prop := B.1 = A.1 ∧ B.2.1 = A.2.1 ∧ B.2.2.1 = A.2.2.1 ∧ ∀ i, i < A.2.2.1 → B.2.2.2 i = A.2.2.2 i
def bOK (B : Bst) : Prop := -1 ≤ B.1 ∧ B.1 ≤ 1000 ∧ 0 ≤ B.2.1 ∧ B.2.1 ≤ 100000 ∧ B.2.2.1 ≤ 6
def wtF (O : Of) (d : Dy) : Int := smF (inTF O d) (of_wo O) (of_np O)
def vsD (d : Dy) : Prop := ∀ p, d.2.2.2.2.2.1.testBit p = true → d.2.2.2.2.1.testBit p = true
theorem vsD_write {O : Of} {d : Dy} {p q : Nat} (h : vsD d) : vsD (writeD O d p q) := by
  intro i hi
  have e1 : (writeD O d p q).2.2.2.2.1.testBit i = (d.2.2.2.2.1.testBit i || decide (p = i)) := by
    show (d.2.2.2.2.1 ||| 2 ^ p).testBit i = _
    rw [Nat.testBit_or, Nat.testBit_two_pow]
  rw [e1]
  have e2 : (writeD O d p q).2.2.2.2.2.1 = if nibF O d p < 0 ∨ noRF O d p q = true then d.2.2.2.2.2.1 ||| 2 ^ p else d.2.2.2.2.2.1 := rfl
  rw [e2] at hi
  split at hi
  · rw [Nat.testBit_or, Nat.testBit_two_pow] at hi
    cases hv : d.2.2.2.2.2.1.testBit i
    · rw [hv, Bool.false_or] at hi
      rw [hi]; simp
    · rw [h i hv]; rfl
  · rw [h i hi]; rfl
theorem void_write {O : Of} {d : Dy} {p q : Nat} (h : vsD d) (hs : d.2.2.2.2.1.testBit p = false) : (writeD O d p q).2.2.2.2.2.1.testBit p = voidB O d p q := by
  have hv : d.2.2.2.2.2.1.testBit p = false := by
    cases hv : d.2.2.2.2.2.1.testBit p
    · rfl
    · rw [h p hv] at hs; cases hs
  have e2 : (writeD O d p q).2.2.2.2.2.1 = if nibF O d p < 0 ∨ noRF O d p q = true then d.2.2.2.2.2.1 ||| 2 ^ p else d.2.2.2.2.2.1 := rfl
  rw [e2]
  unfold voidB
  by_cases c : nibF O d p < 0 ∨ noRF O d p q = true
  · rw [if_pos c, Nat.testBit_or, Nat.testBit_two_pow]
    have : (decide (nibF O d p < 0) || noRF O d p q) = true := by simpa using c
    rw [this]; simp
  · rw [if_neg c, hv]
    have : (decide (nibF O d p < 0) || noRF O d p q) = false := by
      rw [Bool.or_eq_false_iff]
      exact ⟨decide_eq_false (fun q => c (Or.inl q)), by cases h : noRF O d p q; rfl; exact absurd (Or.inr h) c⟩
    rw [this]
theorem can_uns {O : Of} {d : Dy} {p : Nat} (hc : canF O d p = true) : d.2.2.2.2.1.testBit p = false := by
  unfold canF at hc
  have := (of_decide_eq_true hc).2.1
  rwa [Int.toNat_natCast] at this
theorem vPl_E {W : Dy → Int} {k : Nat} {d : Dy} {r r' : Nat → Int} {B A : Bst} (h : bstE B A) (hr : ∀ i, i < k → r i = r' i) : bstE (vPl W k d r B) (vPl W k d r' A) := by
  obtain ⟨h1, h2, h3, h4⟩ := h
  unfold vPl
  rw [h1, h2]
  split
  · exact ⟨rfl, rfl, rfl, hr⟩
  · exact ⟨h1, h2, h3, h4⟩
theorem vPl_OK {O : Of} {k : Nat} {d : Dy} {r : Nat → Int} {B : Bst} (hw : xw_Off O) (hd : xw_Day O d) (hk : k ≤ 6) (h : bOK B) : bOK (vPl (fun d => smF (inTF O d) (of_wo O) (of_np O)) k d r B) := by
  have hW := smF_wo hw (inTF O d) (of_np O) (Nat.le_refl _)
  have hn := hw.2.2.2.1
  have d1 := hd.1
  have d2 := hd.2.1
  unfold vPl
  split
  · refine ⟨?_, ?_, ?_, ?_, hk⟩
    · show -1 ≤ smF (inTF O d) (of_wo O) (of_np O); omega
    · show smF (inTF O d) (of_wo O) (of_np O) ≤ 1000; omega
    · show 0 ≤ d.1; omega
    · show d.1 ≤ 100000; omega
  · exact h
def skP (O : Of) (q s o a n : Nat) : Prop := ∀ (D k : Nat) (f : Nat → xk_C) (w : Nat × Nat × Nat) (K : Option Value → xk_S → Prop) (B A : Bst) (mo : Int) (row prow : Nat → Int) (ds : Nat → Dy) (d : Dy), k + n = 6 → n + 7 ≤ D → xv_Off f o O → xv_Pl f a B s q mo prow ds → ds k = d → xw_Day O d → vsD d → (∀ i, i < k → prow i = row i) → bstE B A → bOK B →
  (∀ f' B' prow' ds', xv_Pl f' a B' s q mo prow' ds' → (∀ x, x < a ∨ a + 18 ≤ x → f' x = f x) → (∀ i, i ≤ k → ds' i = ds i) → (∀ i, i < k → prow' i = prow i) → bstE B' (dfsG (okP O q s) (fun d p => writeD O d p q) (vPl (wtF O)) (of_np O) n k d row A) → bOK B' → K none (f', w)) →
  xk_Cl D 54 [.ref a, .ref o, .int (xj k)] (f, w) K
theorem u_skIn {O : Of} {q s o a : Nat} (hw : xw_Off O) (hs : s < 2147483648) (hq : q < 2147483648) (hoa : o + 9 < a ∨ a + 18 ≤ o) (n : Nat) (hch : ∀ n', n = n' + 1 → skP O q s o a n') : skP O q s o a n := by
  intro D k f w K B A mo row prow ds d hkn hD ho hp hdk hwd hvs hrow hB hOK hpost
  have hn := hw.2.2.2.1
  have hdv := hp.2.2.2.2.1 k (by omega)
  rw [hdk] at hdv
  have rcp : ∀ {f : Nat → xk_C} {B : Bst} {row : Nat → Int} {ds : Nat → Dy}, xv_Pl f a B s q mo row ds → (xk_RC f a 6 ↔ True) := fun h => by unfold xk_RC; rw [h.1]; exact ⟨fun _ => trivial, fun _ => rfl⟩
  have rcd : ∀ {f : Nat → xk_C} {b : Nat} {d : Dy}, xv_Day f b d → (xk_RC f b 0 ↔ True) := fun h => by unfold xk_RC; rw [h.1]; exact ⟨fun _ => trivial, fun _ => rfl⟩
  rw [e54 (by omega)]
  simp (disch := omega) only [b54_0, b54_1, b54_4, b54_5, b54_7, b54_10, b54_11, b54_12, b54_15, b54_16, b54_17, b54_18, b54_19, b54_20, b54_21, List.getElem?_cons_zero, List.getElem?_cons_succ, List.length_cons, List.length_nil, List.set_cons_zero, List.set_cons_succ, true_and, and_true, Option.toList_some, Option.toList_none, List.cons_append, List.nil_append, ↓reduceIte, not_false_eq_true, not_true_eq_false, Nat.reduceAdd, xj0_01, xj1_01, xb_B, xb_True, xb_False, ↓xj_in, xj_nat, Int.toNat_natCast, xj_lt_t, xj_lt_f, xj_le_t, xj_le_f, xj_eq_t, xj_eq_f, xj_lt, xj_le, xj_eq, xj_add, xj_sub, xj_mul, show ¬ xj 1 = xj 0 from by decide, tn_add, tn_mul, tn_sub, Int.toNat_natCast, Int.reduceToNat, ↓gp_7 hp, ↓ap_ hp]
  rw [b54_22, rcp hp, true_and]
  obtain ⟨k1, k2, k3, k4, k5⟩ := hOK
  refine u_weigh (by omega) ho hw hp hdv hwd (by omega) k1 k2 k3 k4 (by omega) (fun f1 B1 hp1 hf1 hB1 => ?_)
  simp only [b54_25, b54_26, List.getElem?_cons_zero, List.getElem?_cons_succ, List.length_cons, List.length_nil, List.set_cons_zero, List.set_cons_succ, true_and, and_true, Option.toList_some, Option.toList_none, List.cons_append, List.nil_append, ↓reduceIte, not_false_eq_true, not_true_eq_false, Nat.reduceAdd, xj0_01, xj1_01, xb_B, xb_True, xb_False]
  have hE1 : bstE B1 (vPl (wtF O) k d row A) := by rw [hB1]; exact vPl_E hB hrow
  have hOK1 : bOK B1 := by rw [hB1]; exact vPl_OK hw hwd (by omega) ⟨k1, k2, k3, k4, k5⟩
  have ho1 : xv_Off f1 o O := xv_Off_fr ho (fun x h1 h2 => hf1 x (by omega))
  cases n with
  | zero =>
    have h1 := hpost f1 B1 prow ds hp1 (fun x hx => hf1 x (by omega)) (fun _ _ => rfl) (fun _ _ => rfl) hE1 hOK1
    by_cases c : 0 < of_np O
    · simp (disch := omega) only [b54_28, b54_30, b54_31, b54_34, b54_37, b54_38, b54_40, b54_122, List.getElem?_cons_zero, List.getElem?_cons_succ, List.length_cons, List.length_nil, List.set_cons_zero, List.set_cons_succ, true_and, and_true, Option.toList_some, Option.toList_none, List.cons_append, List.nil_append, ↓reduceIte, not_false_eq_true, not_true_eq_false, Nat.reduceAdd, xj0_01, xj1_01, xb_B, xb_True, xb_False, ↓go_0 ho1, ↓go_1 ho1, ↓go_2 ho1, ↓go_3 ho1, ↓go_4 ho1, ↓go_5 ho1, ↓go_6 ho1, ↓go_7 ho1, ↓go_8 ho1, ↓go_9 ho1, ↓go_10 ho1, ↓go_11 ho1, ↓go_12 ho1, ↓go_13 ho1, ↓go_14 ho1, ↓go_15 ho1, ↓ao_1 ho1, ↓ao_2 ho1, ↓ao_3 ho1, ↓ao_4 ho1, ↓ao_5 ho1, ↓ao_6 ho1, ↓ao_7 ho1, ↓ao_8 ho1, ↓ao_9 ho1, ↓xj_in, xj_nat, Int.toNat_natCast, xj_lt_t, xj_lt_f, xj_le_t, xj_le_f, xj_eq_t, xj_eq_f, xj_lt, xj_le, xj_eq, xj_add, xj_sub, xj_mul, show ¬ xj 1 = xj 0 from by decide]
      exact h1
    · simp (disch := omega) only [b54_28, b54_30, b54_31, b54_34, b54_122, List.getElem?_cons_zero, List.getElem?_cons_succ, List.length_cons, List.length_nil, List.set_cons_zero, List.set_cons_succ, true_and, and_true, Option.toList_some, Option.toList_none, List.cons_append, List.nil_append, ↓reduceIte, not_false_eq_true, not_true_eq_false, Nat.reduceAdd, xj0_01, xj1_01, xb_B, xb_True, xb_False, ↓go_0 ho1, ↓go_1 ho1, ↓go_2 ho1, ↓go_3 ho1, ↓go_4 ho1, ↓go_5 ho1, ↓go_6 ho1, ↓go_7 ho1, ↓go_8 ho1, ↓go_9 ho1, ↓go_10 ho1, ↓go_11 ho1, ↓go_12 ho1, ↓go_13 ho1, ↓go_14 ho1, ↓go_15 ho1, ↓ao_1 ho1, ↓ao_2 ho1, ↓ao_3 ho1, ↓ao_4 ho1, ↓ao_5 ho1, ↓ao_6 ho1, ↓ao_7 ho1, ↓ao_8 ho1, ↓ao_9 ho1, ↓xj_in, xj_nat, Int.toNat_natCast, xj_lt_t, xj_lt_f, xj_le_t, xj_le_f, xj_eq_t, xj_eq_f, xj_lt, xj_le, xj_eq, xj_add, xj_sub, xj_mul, show ¬ xj 1 = xj 0 from by decide]
      exact h1
  | succ n =>
    have loop : ∀ (m j : Nat) (g : Nat → xk_C) (Bj : Bst) (pj : Nat → Int) (dj : Nat → Dy) (l5 : Value), j + m = of_np O → xv_Pl g a Bj s q mo pj dj → (∀ x, x < a ∨ a + 18 ≤ x → g x = f x) → (∀ i, i ≤ k → dj i = ds i) → (∀ i, i < k → pj i = prow i) → bstE Bj (itF (gnF (okP O q s) (fun d p => writeD O d p q) (vPl (wtF O)) (of_np O) (n + 1) k d row) j (vPl (wtF O) k d row A)) → bOK Bj → xk_B (D - 1) 54 28 [.ref a, .ref o, .int (xj k), .ref (a + 4 + 2 * k), .int (xj j), l5] [] (g, w) K := by
      intro m
      induction m with
      | zero =>
        intro j g Bj pj dj l5 hj hpj hg hdj hpr hE hO
        have hj : j = of_np O := by omega
        subst hj
        have hog : xv_Off g o O := xv_Off_fr ho (fun x h1 h2 => hg x (by omega))
        have h1 := hpost g Bj pj dj hpj hg hdj hpr (by rw [dfs_eq]; exact hE) hO
        simp (disch := omega) only [b54_28, b54_30, b54_31, b54_34, b54_122, List.getElem?_cons_zero, List.getElem?_cons_succ, List.length_cons, List.length_nil, List.set_cons_zero, List.set_cons_succ, true_and, and_true, Option.toList_some, Option.toList_none, List.cons_append, List.nil_append, ↓reduceIte, not_false_eq_true, not_true_eq_false, Nat.reduceAdd, xj0_01, xj1_01, xb_B, xb_True, xb_False, ↓go_0 hog, ↓go_1 hog, ↓go_2 hog, ↓go_3 hog, ↓go_4 hog, ↓go_5 hog, ↓go_6 hog, ↓go_7 hog, ↓go_8 hog, ↓go_9 hog, ↓go_10 hog, ↓go_11 hog, ↓go_12 hog, ↓go_13 hog, ↓go_14 hog, ↓go_15 hog, ↓ao_1 hog, ↓ao_2 hog, ↓ao_3 hog, ↓ao_4 hog, ↓ao_5 hog, ↓ao_6 hog, ↓ao_7 hog, ↓ao_8 hog, ↓ao_9 hog, ↓xj_in, xj_nat, Int.toNat_natCast, xj_lt_t, xj_lt_f, xj_le_t, xj_le_f, xj_eq_t, xj_eq_f, xj_lt, xj_le, xj_eq, xj_add, xj_sub, xj_mul, show ¬ xj 1 = xj 0 from by decide]
        exact h1
      | succ m ihm =>
        intro j g Bj pj dj l5 hj hpj hg hdj hpr hE hO
        have hjn : j < of_np O := by omega
        have hog : xv_Off g o O := xv_Off_fr ho (fun x h1 h2 => hg x (by omega))
        have hd1 := hpj.2.2.2.2.1 (k + 1) (by omega)
        have hz1 := hpj.2.2.2.2.2.1 (k + 1) (by omega)
        have hd0 := hpj.2.2.2.2.1 k (by omega)
        have hz0 := hpj.2.2.2.2.2.1 k (by omega)
        rw [hdj k (Nat.le_refl _), hdk] at hd0 hz0
        rw [b54_28]
        simp (disch := omega) only [b54_30, b54_31, b54_34, b54_37, b54_38, b54_40, b54_43, b54_44, b54_47, b54_48, b54_49, b54_50, b54_51, b54_53, b54_55, List.getElem?_cons_zero, List.getElem?_cons_succ, List.length_cons, List.length_nil, List.set_cons_zero, List.set_cons_succ, true_and, and_true, Option.toList_some, Option.toList_none, List.cons_append, List.nil_append, ↓reduceIte, not_false_eq_true, not_true_eq_false, Nat.reduceAdd, xj0_01, xj1_01, xb_B, xb_True, xb_False, ↓go_0 hog, ↓go_1 hog, ↓go_2 hog, ↓go_3 hog, ↓go_4 hog, ↓go_5 hog, ↓go_6 hog, ↓go_7 hog, ↓go_8 hog, ↓go_9 hog, ↓go_10 hog, ↓go_11 hog, ↓go_12 hog, ↓go_13 hog, ↓go_14 hog, ↓go_15 hog, ↓ao_1 hog, ↓ao_2 hog, ↓ao_3 hog, ↓ao_4 hog, ↓ao_5 hog, ↓ao_6 hog, ↓ao_7 hog, ↓ao_8 hog, ↓ao_9 hog, ↓xj_in, xj_nat, Int.toNat_natCast, xj_lt_t, xj_lt_f, xj_le_t, xj_le_f, xj_eq_t, xj_eq_f, xj_lt, xj_le, xj_eq, xj_add, xj_sub, xj_mul, show ¬ xj 1 = xj 0 from by decide, tn_add, tn_mul, tn_sub, Int.toNat_natCast, Int.reduceToNat, ↓gp_7 hpj, ↓ap_ hpj]
        rw [b54_56, rcd hd1, true_and, s_day_copy (by omega) hd1 hd0 hz1 hz0 (by omega)]
        have skip : okP O q s d j = false → itF (gnF (okP O q s) (fun d p => writeD O d p q) (vPl (wtF O)) (of_np O) (n + 1) k d row) (j + 1) (vPl (wtF O) k d row A) = itF (gnF (okP O q s) (fun d p => writeD O d p q) (vPl (wtF O)) (of_np O) (n + 1) k d row) j (vPl (wtF O) k d row A) := by
          intro h
          show gnF (okP O q s) (fun d p => writeD O d p q) (vPl (wtF O)) (of_np O) (n + 1) k d row _ j = _
          unfold gnF
          rw [h]
          rfl
        have fr2 : ∀ (d' : Dy) (x : Nat), x < a ∨ a + 18 ≤ x → xs_Day g (a + 4 + 2 * (k + 1)) d' x = f x := fun d' x hx => (xs_Day_ne (by omega) (by omega)).trans (hg x hx)
        have nx : okP O q s d j = false → ∀ d', xz_Day d' → xk_B (D - 1) 54 116 [.ref a, .ref o, .int (xj k), .ref (a + 4 + 2 * k), .int (xj j), .ref (a + 4 + 2 * (k + 1))] [] (xs_Day g (a + 4 + 2 * (k + 1)) d', w) K := by
          intro hno d' hz'
          have t := ihm (j + 1) (xs_Day g (a + 4 + 2 * (k + 1)) d') Bj pj (fun i => if i = k + 1 then d' else dj i) (.ref (a + 4 + 2 * (k + 1))) (by omega) (xv_Pl_day hpj (by omega) hz') (fr2 d') (fun i hi => by simp only [show ¬ i = k + 1 by omega, if_false]; exact hdj i hi) hpr (by rw [skip hno]; exact hE) hO
          simp (disch := omega) only [b54_116, b54_119, List.getElem?_cons_zero, List.getElem?_cons_succ, List.length_cons, List.length_nil, List.set_cons_zero, List.set_cons_succ, true_and, and_true, Option.toList_some, Option.toList_none, List.cons_append, List.nil_append, ↓reduceIte, not_false_eq_true, not_true_eq_false, Nat.reduceAdd, xj0_01, xj1_01, xb_B, xb_True, xb_False, ↓xj_in, xj_nat, Int.toNat_natCast, xj_lt_t, xj_lt_f, xj_le_t, xj_le_f, xj_eq_t, xj_eq_f, xj_lt, xj_le, xj_eq, xj_add, xj_sub, xj_mul, show ¬ xj 1 = xj 0 from by decide]
          exact t
        have v2 := xv_Pl_day hpj (k := k + 1) (d' := d) (by omega) hz0
        have e2 := xs_Day_v g (a + 4 + 2 * (k + 1)) d
        have ho2 : ∀ d', xv_Off (xs_Day g (a + 4 + 2 * (k + 1)) d') o O := fun d' => xv_Off_day hog (by omega)
        cases hb1 : s.testBit j
        · have hno : okP O q s d j = false := by unfold okP; rw [hb1]; rfl
          have t := nx hno d hz0
          simp (disch := omega) only [b54_59, b54_60, b54_63, b54_65, b54_68, List.getElem?_cons_zero, List.getElem?_cons_succ, List.length_cons, List.length_nil, List.set_cons_zero, List.set_cons_succ, true_and, and_true, Option.toList_some, Option.toList_none, List.cons_append, List.nil_append, ↓reduceIte, not_false_eq_true, not_true_eq_false, Nat.reduceAdd, xj0_01, xj1_01, xb_B, xb_True, xb_False, ↓xj_in, xj_nat, Int.toNat_natCast, xj_lt_t, xj_lt_f, xj_le_t, xj_le_f, xj_eq_t, xj_eq_f, xj_lt, xj_le, xj_eq, xj_add, xj_sub, xj_mul, show ¬ xj 1 = xj 0 from by decide, ↓gp_4 v2, s_has _ hs, hb1, Bool.false_eq_true, xb_F]
          exact t
        · cases hb2 : canF O d j
          · have hno : okP O q s d j = false := by unfold okP; rw [hb1, hb2]; rfl
            have t := nx hno d hz0
            simp (disch := omega) only [b54_59, b54_60, b54_63, b54_65, b54_68, b54_71, b54_73, b54_74, b54_76, b54_77, b54_80, b54_83, b54_84, List.getElem?_cons_zero, List.getElem?_cons_succ, List.length_cons, List.length_nil, List.set_cons_zero, List.set_cons_succ, true_and, and_true, Option.toList_some, Option.toList_none, List.cons_append, List.nil_append, ↓reduceIte, not_false_eq_true, not_true_eq_false, Nat.reduceAdd, xj0_01, xj1_01, xb_B, xb_True, xb_False, ↓xj_in, xj_nat, Int.toNat_natCast, xj_lt_t, xj_lt_f, xj_le_t, xj_le_f, xj_eq_t, xj_eq_f, xj_lt, xj_le, xj_eq, xj_add, xj_sub, xj_mul, show ¬ xj 1 = xj 0 from by decide, ↓gp_4 v2, ↓gp_5 v2, s_has _ hs, hb1, xb_T, rcd e2, s_write_no (D := D - 1) (by omega) (ho2 d) hw e2 hwd (by omega) (by omega) hb2]
            exact t
          · have hun := can_uns hb2
            have hb := beginF_rng hw hwd hjn
            have hsk := hw.2.2.2.2.2.2 j hjn
            have he : 0 ≤ endF O d j ∧ endF O d j ≤ 20000 := by unfold endF; omega
            have hz' : xz_Day (writeD O d j q) := xz_writeD hz0 (by omega)
            have hwd' : xw_Day O (writeD O d j q) := xw_writeD hw hwd hb2
            have e3 := xs_Day_v g (a + 4 + 2 * (k + 1)) (writeD O d j q)
            have v3 := xv_Pl_day hpj (k := k + 1) (d' := writeD O d j q) (by omega) hz'
            have gv : ∀ V : Value → Prop, xk_GF (xs_Day g (a + 4 + 2 * (k + 1)) (writeD O d j q)) (a + 4 + 2 * (k + 1)) 0 5 V ↔ V (.int (xj (writeD O d j q).2.2.2.2.2.1)) := fun V => gf_R e3.1 rfl
            have hv31 : (writeD O d j q).2.2.2.2.2.1 < 2147483648 := hw.n31 hwd'.2.2.2.2.2.2.2.2.2.1
            have hvb := void_write (O := O) (p := j) (q := q) hvs hun
            cases hb3 : voidB O d j q
            · have hyes : okP O q s d j = true := by unfold okP; rw [hb1, hb2, hb3]; rfl
              have hr0 : ∀ i, 6 ≤ i → upI pj k (j : Int) i = 0 := fun i hi => by rw [up_n (by omega)]; exact hpj.2.2.2.2.2.2.1 i hi
              have v4 := xv_Pl_row v3 (r := upI pj k (j : Int)) hr0
              have hc := hch n rfl (D - 1) (k + 1) (va_up (xs_Day g (a + 4 + 2 * (k + 1)) (writeD O d j q)) (a + 2) (xa_I 6 (upI pj k (j : Int)))) w (fun v σ' => xk_B (D - 1) 54 116 [.ref a, .ref o, .int (xj k), .ref (a + 4 + 2 * k), .int (xj j), .ref (a + 4 + 2 * (k + 1))] (v.toList ++ []) σ' K) Bj (itF (gnF (okP O q s) (fun d p => writeD O d p q) (vPl (wtF O)) (of_np O) (n + 1) k d row) j (vPl (wtF O) k d row A)) mo (upI row k j) (upI pj k (j : Int)) (fun i => if i = k + 1 then writeD O d j q else dj i) (writeD O d j q) (by omega) (by omega) (xv_Off_fr (ho2 _) (fun x h1 h2 => up_ne (by omega))) v4 (if_pos rfl) hwd' (vsD_write hvs) (fun i hi => ?_) hE hO (fun f' B' prow' ds' g1 g2 g3 g4 g5 g6 => ?_)
              · have c3 : xs_Day g (a + 4 + 2 * (k + 1)) (writeD O d j q) (a + 2) = xa_I 6 pj := v3.2.2.1
                simp (disch := omega) only [b54_59, b54_60, b54_63, b54_65, b54_68, b54_71, b54_73, b54_74, b54_76, b54_77, b54_80, b54_83, b54_84, b54_87, b54_89, b54_92, b54_94, b54_97, b54_100, b54_101, b54_104, b54_105, b54_107, b54_108, b54_109, b54_110, b54_111, b54_112, List.getElem?_cons_zero, List.getElem?_cons_succ, List.length_cons, List.length_nil, List.set_cons_zero, List.set_cons_succ, true_and, and_true, Option.toList_some, Option.toList_none, List.cons_append, List.nil_append, ↓reduceIte, not_false_eq_true, not_true_eq_false, Nat.reduceAdd, xj0_01, xj1_01, xb_B, xb_True, xb_False, ↓xj_in, xj_nat, Int.toNat_natCast, xj_lt_t, xj_lt_f, xj_le_t, xj_le_f, xj_eq_t, xj_eq_f, xj_lt, xj_le, xj_eq, xj_add, xj_sub, xj_mul, show ¬ xj 1 = xj 0 from by decide, tn_add, tn_mul, tn_sub, Int.toNat_natCast, Int.reduceToNat, ↓gp_4 v2, ↓gp_5 v2, ↓gp_6 v3, s_has _ hs, s_has _ hv31, hb1, xb_T, rcd e2, s_write (D := D - 1) (by omega) (ho2 d) hw e2 hwd (by omega) hb2 hq, xs_Day_2, ↓gv, hvb, hb3, Bool.false_eq_true, xb_F, ↓as_I c3]
                rw [b54_113]
                exact hc
              · by_cases c : i = k
                · subst c; rw [up_e, up_e]
                · rw [up_n c, up_n c, hpr i (by omega)]; exact hrow i (by omega)
              · have hx : ∀ x, x < a ∨ a + 18 ≤ x → f' x = f x := fun x hx => (g2 x hx).trans ((up_ne (by omega)).trans (fr2 _ x hx))
                have t := ihm (j + 1) f' B' prow' ds' (.ref (a + 4 + 2 * (k + 1))) (by omega) g1 hx (fun i hi => by rw [g3 i (by omega)]; simp only [show ¬ i = k + 1 by omega, if_false]; exact hdj i hi) (fun i hi => by rw [g4 i (by omega), up_n (by omega)]; exact hpr i hi) (by
                  have e8 : itF (gnF (okP O q s) (fun d p => writeD O d p q) (vPl (wtF O)) (of_np O) (n + 1) k d row) (j + 1) (vPl (wtF O) k d row A) = dfsG (okP O q s) (fun d p => writeD O d p q) (vPl (wtF O)) (of_np O) n (k + 1) (writeD O d j q) (upI row k j) (itF (gnF (okP O q s) (fun d p => writeD O d p q) (vPl (wtF O)) (of_np O) (n + 1) k d row) j (vPl (wtF O) k d row A)) := by
                    show gnF (okP O q s) (fun d p => writeD O d p q) (vPl (wtF O)) (of_np O) (n + 1) k d row _ j = _
                    unfold gnF
                    rw [hyes]
                    rfl
                  rw [e8]; exact g5) g6
                simp (disch := omega) only [b54_116, b54_119, List.getElem?_cons_zero, List.getElem?_cons_succ, List.length_cons, List.length_nil, List.set_cons_zero, List.set_cons_succ, true_and, and_true, Option.toList_some, Option.toList_none, List.cons_append, List.nil_append, ↓reduceIte, not_false_eq_true, not_true_eq_false, Nat.reduceAdd, xj0_01, xj1_01, xb_B, xb_True, xb_False, ↓xj_in, xj_nat, Int.toNat_natCast, xj_lt_t, xj_lt_f, xj_le_t, xj_le_f, xj_eq_t, xj_eq_f, xj_lt, xj_le, xj_eq, xj_add, xj_sub, xj_mul, show ¬ xj 1 = xj 0 from by decide]
                exact t
            · have hno : okP O q s d j = false := by unfold okP; rw [hb1, hb2, hb3]; rfl
              have t := nx hno (writeD O d j q) hz'
              simp (disch := omega) only [b54_59, b54_60, b54_63, b54_65, b54_68, b54_71, b54_73, b54_74, b54_76, b54_77, b54_80, b54_83, b54_84, b54_87, b54_89, b54_92, b54_94, b54_97, List.getElem?_cons_zero, List.getElem?_cons_succ, List.length_cons, List.length_nil, List.set_cons_zero, List.set_cons_succ, true_and, and_true, Option.toList_some, Option.toList_none, List.cons_append, List.nil_append, ↓reduceIte, not_false_eq_true, not_true_eq_false, Nat.reduceAdd, xj0_01, xj1_01, xb_B, xb_True, xb_False, ↓xj_in, xj_nat, Int.toNat_natCast, xj_lt_t, xj_lt_f, xj_le_t, xj_le_f, xj_eq_t, xj_eq_f, xj_lt, xj_le, xj_eq, xj_add, xj_sub, xj_mul, show ¬ xj 1 = xj 0 from by decide, tn_add, tn_mul, tn_sub, Int.toNat_natCast, Int.reduceToNat, ↓gp_4 v2, ↓gp_5 v2, s_has _ hs, s_has _ hv31, hb1, xb_T, rcd e2, s_write (D := D - 1) (by omega) (ho2 d) hw e2 hwd (by omega) hb2 hq, xs_Day_2, ↓gv, hvb, hb3]
              exact t
    have key := loop (of_np O) 0 f1 B1 prow ds xk_dd (by omega) hp1 (fun x hx => hf1 x (by omega)) (fun _ _ => rfl) (fun _ _ => rfl) hE1 hOK1
    exact key
theorem u_seek {O : Of} {q s o a : Nat} (hw : xw_Off O) (hs : s < 2147483648) (hq : q < 2147483648) (hoa : o + 9 < a ∨ a + 18 ≤ o) (n : Nat) : skP O q s o a n := by
  induction n with
  | zero => exact u_skIn hw hs hq hoa 0 (fun n' h => by omega)
  | succ n ih => exact u_skIn hw hs hq hoa (n + 1) (fun n' h => by cases h; exact ih)
