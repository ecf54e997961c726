/-! the model reads values, terms, sums, comparisons -/
theorem wd0 (T : Nat → Int) (p : Nat) : wdT T p 0 = -1 := by
  refine lst_no 21 (fun i hi => ?_)
  have h := (wl_rng i hi).1.1
  exact decide_eq_false (fun q => by have := q.1; omega)
theorem lt0 {T : Nat → Int} {n p : Nat} (h : ltB T n p = false) : ltE T n p = p := by
  show (if ltB T n p = true then _ else p) = p
  rw [h, if_neg (by decide)]
theorem kd_1 {T : Nat → Int} {n p : Nat} (h : dgB T n p = true) : kdT T n p = 1 := by
  have := (of_decide_eq_true h).1
  unfold kdT
  rw [if_neg (by omega), if_pos h]
theorem kd_2 {T : Nat → Int} {n p : Nat} (h : ltB T n p = true) : kdT T n p = 2 := by
  have h1 := of_decide_eq_true h
  have h2 : dgB T n p = false := decide_eq_false (fun q => by omega)
  unfold kdT
  rw [if_neg (by omega), h2, if_neg (by decide), if_pos h]
theorem kd_3 {T : Nat → Int} {n p : Nat} (h0 : p < n) (h1 : dgB T n p = false) (h2 : ltB T n p = false) : kdT T n p = 3 := by
  unfold kdT
  rw [if_neg (by omega), h1, if_neg (by decide), h2, if_neg (by decide)]
theorem kd_0 {T : Nat → Int} {n p : Nat} (h0 : n ≤ p) : kdT T n p = 0 := by
  unfold kdT
  rw [if_pos h0]
/-- a mark that stands alone -/
theorem kd_mk {T : Nat → Int} {n p : Nat} (h0 : p < n) (h1 : ¬ (48 ≤ T p ∧ T p ≤ 57)) (h2 : ¬ (97 ≤ T p ∧ T p ≤ 122)) : kdT T n p = 3 := kd_3 h0 (decide_eq_false (fun q => h1 q.2)) (decide_eq_false (fun q => h2 q.2))
theorem va_mk {T : Nat → Int} {n p : Nat} (hk : kdT T n p = 3) : vaT T n p = if twB T n p = true then T p + 256 else T p := by
  unfold vaT
  rw [if_neg (by omega), if_neg (by omega), if_neg (by omega)]
theorem en_mk {T : Nat → Int} {n p : Nat} (hk : kdT T n p = 3) : enT T n p = if twB T n p = true then p + 2 else p + 1 := by
  unfold enT
  rw [if_neg (by omega), if_neg (by omega)]
theorem tw_no {T : Nat → Int} {n p : Nat} (h : T p ≠ 60 ∧ T p ≠ 62) : twB T n p = false := decide_eq_false (fun q => by omega)
/-- marks of terms and sums by what is seen -/
theorem opM_see {T : Nat → Int} {n p : Nat} (hb : p < n → 0 ≤ T p ∧ T p ≤ 255) : (seeF T n p = 42 ∧ opM T n p = 4 ∨ seeF T n p = 47 ∧ opM T n p = 5 ∨ seeF T n p = 37 ∧ opM T n p = 6) ∧ p < n ∧ enT T n p = p + 1 ∧ T p = seeF T n p ∨ (seeF T n p ≠ 42 ∧ seeF T n p ≠ 47 ∧ seeF T n p ≠ 37) ∧ opM T n p = 0 := by
  unfold seeF
  by_cases c : p < n
  · rw [if_pos c]
    by_cases c1 : T p = 42 ∨ T p = 47 ∨ T p = 37
    · have hk := kd_mk (T := T) c (by omega) (by omega)
      have ht := tw_no (T := T) (n := n) (p := p) (by omega)
      have hv : vaT T n p = T p := by rw [va_mk hk, ht]; rfl
      have he : enT T n p = p + 1 := by rw [en_mk hk, ht]; rfl
      refine Or.inl ⟨?_, c, he, rfl⟩
      unfold opM
      rw [if_pos hk, hv]
      rcases c1 with h | h | h
      · rw [h]; exact Or.inl ⟨rfl, rfl⟩
      · rw [h]; exact Or.inr (Or.inl ⟨rfl, rfl⟩)
      · rw [h]; exact Or.inr (Or.inr ⟨rfl, rfl⟩)
    · refine Or.inr ⟨by omega, ?_⟩
      unfold opM
      split
      · rename_i hk
        rw [va_mk hk]
        have hbb := hb c
        have : twB T n p = true → T p = 60 ∨ T p = 62 := fun h => (of_decide_eq_true h).1
        split
        · rename_i h9; have := this h9; rw [if_neg (by omega), if_neg (by omega), if_neg (by omega)]
        · rw [if_neg (by omega), if_neg (by omega), if_neg (by omega)]
      · rfl
  · rw [if_neg c]
    refine Or.inr ⟨by decide, ?_⟩
    unfold opM
    rw [kd_0 (by omega), if_neg (by decide)]
theorem opS_see {T : Nat → Int} {n p : Nat} (hb : p < n → 0 ≤ T p ∧ T p ≤ 255) : (seeF T n p = 43 ∧ opS T n p = 2 ∨ seeF T n p = 45 ∧ opS T n p = 3) ∧ p < n ∧ enT T n p = p + 1 ∧ T p = seeF T n p ∨ (seeF T n p ≠ 43 ∧ seeF T n p ≠ 45) ∧ opS T n p = 0 := by
  unfold seeF
  by_cases c : p < n
  · rw [if_pos c]
    by_cases c1 : T p = 43 ∨ T p = 45
    · have hk := kd_mk (T := T) c (by omega) (by omega)
      have ht := tw_no (T := T) (n := n) (p := p) (by omega)
      have hv : vaT T n p = T p := by rw [va_mk hk, ht]; rfl
      have he : enT T n p = p + 1 := by rw [en_mk hk, ht]; rfl
      refine Or.inl ⟨?_, c, he, rfl⟩
      unfold opS
      rw [if_pos hk, hv]
      rcases c1 with h | h
      · rw [h]; exact Or.inl ⟨rfl, rfl⟩
      · rw [h]; exact Or.inr ⟨rfl, rfl⟩
    · refine Or.inr ⟨by omega, ?_⟩
      unfold opS
      split
      · rename_i hk
        rw [va_mk hk]
        have hbb := hb c
        have : twB T n p = true → T p = 60 ∨ T p = 62 := fun h => (of_decide_eq_true h).1
        split
        · rename_i h9; have := this h9; rw [if_neg (by omega), if_neg (by omega)]
        · rw [if_neg (by omega), if_neg (by omega)]
      · rfl
  · rw [if_neg c]
    refine Or.inr ⟨by decide, ?_⟩
    unfold opS
    rw [kd_0 (by omega), if_neg (by decide)]
theorem rP_8 {R : Md} {T : Nat → Int} {n t p' q : Nat} {s : Ps} (h : rP R T n t s) (hq : q ≤ n) (e : skT T n q = p') : rP (sS R 8 (q : Nat)) T n t (p', s.2) := by
  obtain ⟨h0, h1, h11, h9, h8, h12, h13, h4, h14, h3⟩ := h
  exact ⟨h0, h1, h11, h9, ⟨q, mS_S, hq, e⟩, h12, h13, h4, h14, h3⟩
theorem rP_at {R : Md} {T : Nat → Int} {n t : Nat} {s : Ps} (h : rP R T n t s) : atP T n s.1 := by
  obtain ⟨q, _, hq, e⟩ := h.2.2.2.2.1
  rw [← e]
  exact sk_at h.1.2.1 hq
theorem rP_b {R : Md} {T : Nat → Int} {n t : Nat} {s : Ps} (h : rP R T n t s) {i : Nat} (hi : i < n) : 0 ≤ T i ∧ T i ≤ 255 := (h.1.2.2 i hi).2
section XS75
variable {D b k p q n t c v : Nat} {f g : Nat → xk_C} {w : Nat × Nat × Nat} {K : Option Value → xk_S → Prop} {R : Md} {x y z : Int} {T : Nat → Int} {s : Ps}
theorem m_seeP (hD : 1 ≤ D) (hp : rP R T n t s) : xk_Cl D 149 [.ref b] (xm f b R, w) K ↔ K (some (.int (xj (seeF T n s.1)))) (xm f b (sS R 8 (s.1 : Nat)), w) := by
  obtain ⟨q, h8, hq, e⟩ := hp.2.2.2.2.1
  rw [m_see hD hp.1 h8 hq, e]
theorem m_see2 (hD : 1 ≤ D) (hT : rT R T n) (h8 : mS R 8 = (p : Nat)) (ha : atP T n p) : xk_Cl D 149 [.ref b] (xm f b R, w) K ↔ K (some (.int (xj (seeF T n p)))) (xm f b R, w) := by
  rw [m_see hD hT h8 ha.1, at_sk hT.2.1 ha]
  have e : sS R 8 (p : Nat) = R := by rw [← h8, sS_id]
  rw [e]
theorem u_value (hD : 4 ≤ D) (hp : rP R T n t s) (hr : s.2.2.length < s.1) (hok : ∀ s', gVal T n s = .inr s' → ∀ R', frP t R R' → rP R' T n t s' → K (some (.int (xj 1))) (xm f b R', w)) (hno : ∀ e : Nat, gVal T n s = .inl e → ∀ R', frP t R R' → mS R' 9 = (e : Nat) → K (some (.int (xj 0))) (xm f b R', w)) : xk_Cl D 162 [.ref b] (xm f b R, w) K := by
  rw [e162 (by omega)]
  have ha := rP_at hp
  have hn := hp.1.2.1
  have hp1 : rP (sS R 8 (s.1 : Nat)) T n t s := rP_8 hp ha.1 (at_sk hn ha)
  have fr1 : frP t R (sS R 8 (s.1 : Nat)) := frP_S (by omega)
  have h81 : mS (sS R 8 (s.1 : Nat)) 8 = (s.1 : Nat) := mS_S
  simp (disch := omega) only [b162_0, b162_1, b162_4, b162_5, b162_6, b162_9, b162_10, b162_11, b162_12, ↓gm_0, ↓gm_1, ↓gm_2, ↓gm_3, ↓gm_4, ↓gm_5, ↓gm_6, ↓gm_7, ↓gm_8, ↓gm_9, ↓gm_10, ↓gm_11, ↓gm_12, ↓gm_13, ↓gm_14, ↓gm_15, ↓gm_16, ↓gm_17, ↓gm_18, ↓gm_19, ↓gm_20, ↓gm_21, ↓gm_22, ↓gm_23, ↓gm_24, ↓gm_25, ↓gm_26, ↓gm_27, ↓gm_28, ↓gm_29, ↓gm_30, ↓gm_31, ↓gm_32, ↓gm_33, ↓gm_34, ↓gm_35, ↓gm_36, ↓gm_37, ↓gm_38, ↓gm_39, ↓gm_40, ↓gm_41, ↓gm_42, ↓gm_43, ↓gm_44, ↓gm_45, ↓gm_46, ↓pm_1, ↓pm_2, ↓pm_8, ↓pm_9, ↓pm_10, ↓pm_11, ↓pm_12, ↓pm_13, ↓pm_14, ↓pm_16, ↓pm_18, ↓pm_21, ↓pm_22, ↓pm_23, ↓pm_24, ↓pm_25, ↓pm_26, ↓pm_28, ↓pm_31, ↓pm_35, ↓pm_36, ↓pm_37, ↓pm_38, ↓pm_40, ↓pm_43, ↓am_0, ↓wm_0, ↓am_3, ↓wm_3, ↓am_4, ↓wm_4, ↓am_5, ↓wm_5, ↓am_6, ↓wm_6, ↓am_7, ↓wm_7, ↓am_15, ↓wm_15, ↓am_17, ↓wm_17, ↓am_19, ↓wm_19, ↓am_20, ↓wm_20, ↓am_27, ↓wm_27, ↓am_29, ↓wm_29, ↓am_30, ↓wm_30, ↓am_32, ↓wm_32, ↓am_33, ↓wm_33, ↓am_34, ↓wm_34, ↓am_39, ↓wm_39, ↓am_41, ↓wm_41, ↓am_42, ↓wm_42, ↓am_44, ↓wm_44, ↓am_45, ↓wm_45, ↓am_46, ↓wm_46, ↓wn_0, ↓wn_46, or_false, false_or, rc_M, List.getElem?_cons_zero, List.getElem?_cons_succ, List.length_cons, List.length_nil, List.set_cons_zero, List.set_cons_succ, true_and, and_true, Option.toList_some, Option.toList_none, List.cons_append, List.nil_append, ↓reduceIte, not_false_eq_true, not_true_eq_false, Nat.reduceAdd, xj0_01, xj1_01, xb_B, xb_True, xb_False, ↓xj_in, xj_nat, Int.toNat_natCast, xj_lt_t, xj_lt_f, xj_le_t, xj_le_f, xj_eq_t, xj_eq_f, xj_lt, xj_le, xj_eq, xj_add, xj_sub, xj_mul, show ¬ xj 1 = xj 0 from by decide, m_seeP _ hp, h81]
  generalize sS R 8 (s.1 : Nat) = R1 at *
  have h1 := hp1
  obtain ⟨h0, ht, h11, h9, h8, h12, h13, h4, h14, h3⟩ := h1
  have dig := fun K => m_isDigit (D := D - 1) (f := f) (b := b) (w := w) (K := K) (k := s.1) (by omega) h0 (by have := ha.1; omega)
  have ska := at_sk hn ha
  cases hd : dgB T n s.1
  · -- a word, or what can't stand
    have wh := fun K => m_wordHere (D := D - 1) (f := f) (b := b) (w := w) (K := K) (by omega) h0 h81 ha.1
    rw [ska] at wh
    have e8 : sS R1 8 (s.1 : Nat) = R1 := by rw [← h81, sS_id]
    rw [e8] at wh
    have wr : -1 ≤ wdA T n s.1 ∧ wdA T n s.1 < 21 := wd_rng T s.1 (ltE T n s.1 - s.1)
    simp (disch := omega) only [b162_15, b162_18, b162_21, b162_22, b162_23, b162_25, b162_28, b162_31, b162_32, b162_33, b162_36, b162_39, b162_40, b162_41, b162_42, b162_43, b162_44, b162_47, b162_50, b162_51, b162_52, b162_53, b162_56, b162_40o, b162_40z, b162_40c, b162_51o, b162_51z, b162_51c, ↓gm_0, ↓gm_1, ↓gm_2, ↓gm_3, ↓gm_4, ↓gm_5, ↓gm_6, ↓gm_7, ↓gm_8, ↓gm_9, ↓gm_10, ↓gm_11, ↓gm_12, ↓gm_13, ↓gm_14, ↓gm_15, ↓gm_16, ↓gm_17, ↓gm_18, ↓gm_19, ↓gm_20, ↓gm_21, ↓gm_22, ↓gm_23, ↓gm_24, ↓gm_25, ↓gm_26, ↓gm_27, ↓gm_28, ↓gm_29, ↓gm_30, ↓gm_31, ↓gm_32, ↓gm_33, ↓gm_34, ↓gm_35, ↓gm_36, ↓gm_37, ↓gm_38, ↓gm_39, ↓gm_40, ↓gm_41, ↓gm_42, ↓gm_43, ↓gm_44, ↓gm_45, ↓gm_46, ↓pm_1, ↓pm_2, ↓pm_8, ↓pm_9, ↓pm_10, ↓pm_11, ↓pm_12, ↓pm_13, ↓pm_14, ↓pm_16, ↓pm_18, ↓pm_21, ↓pm_22, ↓pm_23, ↓pm_24, ↓pm_25, ↓pm_26, ↓pm_28, ↓pm_31, ↓pm_35, ↓pm_36, ↓pm_37, ↓pm_38, ↓pm_40, ↓pm_43, ↓am_0, ↓wm_0, ↓am_3, ↓wm_3, ↓am_4, ↓wm_4, ↓am_5, ↓wm_5, ↓am_6, ↓wm_6, ↓am_7, ↓wm_7, ↓am_15, ↓wm_15, ↓am_17, ↓wm_17, ↓am_19, ↓wm_19, ↓am_20, ↓wm_20, ↓am_27, ↓wm_27, ↓am_29, ↓wm_29, ↓am_30, ↓wm_30, ↓am_32, ↓wm_32, ↓am_33, ↓wm_33, ↓am_34, ↓wm_34, ↓am_39, ↓wm_39, ↓am_41, ↓wm_41, ↓am_42, ↓wm_42, ↓am_44, ↓wm_44, ↓am_45, ↓wm_45, ↓am_46, ↓wm_46, ↓wn_0, ↓wn_46, or_false, false_or, rc_M, List.getElem?_cons_zero, List.getElem?_cons_succ, List.length_cons, List.length_nil, List.set_cons_zero, List.set_cons_succ, true_and, and_true, Option.toList_some, Option.toList_none, List.cons_append, List.nil_append, ↓reduceIte, not_false_eq_true, not_true_eq_false, Nat.reduceAdd, xj0_01, xj1_01, xb_B, xb_True, xb_False, ↓xj_in, xj_nat, Int.toNat_natCast, xj_lt_t, xj_lt_f, xj_le_t, xj_le_f, xj_eq_t, xj_eq_f, xj_lt, xj_le, xj_eq, xj_add, xj_sub, xj_mul, show ¬ xj 1 = xj 0 from by decide, dig, hd, Bool.false_eq_true, xb_F, wh]
    by_cases cw : 0 ≤ wdA T n s.1 ∧ wdA T n s.1 < 13
    · have hl : ltB T n s.1 = true := by
        cases hl : ltB T n s.1
        · have := lt0 hl
          unfold wdA at cw
          rw [this, Nat.sub_self, wd0] at cw
          omega
        · rfl
      have hk := kd_2 hl
      have hv : vaT T n s.1 = wdA T n s.1 := by unfold vaT; rw [if_neg (by omega), if_neg (by omega), if_pos hk]
      have hen : enT T n s.1 = ltE T n s.1 := by unfold enT; rw [if_neg (by omega), if_pos hk]
      obtain ⟨v, hvv⟩ : ∃ v : Nat, wdA T n s.1 = v := ⟨(wdA T n s.1).toNat, by omega⟩
      have hg : gVal T n s = if 60 ≤ s.2.1 then .inl (1 + 8 * s.1 + 3) else .inr (nxT T n s.1, s.2.1 + 1, s.2.2 ++ [(1, v)]) := by
        unfold gVal
        rw [if_neg (by omega), if_pos ⟨hk, by rw [hv]; exact cw.1, by rw [hv]; exact cw.2⟩, hv, hvv, Int.toNat_natCast]
      rw [if_pos cw.2, hvv]
      simp (disch := omega) only [b162_57, b162_58, b162_61, b162_62, b162_63, b162_64, b162_67, b162_68, b162_69, b162_67o, b162_67z, b162_67c, ↓gm_0, ↓gm_1, ↓gm_2, ↓gm_3, ↓gm_4, ↓gm_5, ↓gm_6, ↓gm_7, ↓gm_8, ↓gm_9, ↓gm_10, ↓gm_11, ↓gm_12, ↓gm_13, ↓gm_14, ↓gm_15, ↓gm_16, ↓gm_17, ↓gm_18, ↓gm_19, ↓gm_20, ↓gm_21, ↓gm_22, ↓gm_23, ↓gm_24, ↓gm_25, ↓gm_26, ↓gm_27, ↓gm_28, ↓gm_29, ↓gm_30, ↓gm_31, ↓gm_32, ↓gm_33, ↓gm_34, ↓gm_35, ↓gm_36, ↓gm_37, ↓gm_38, ↓gm_39, ↓gm_40, ↓gm_41, ↓gm_42, ↓gm_43, ↓gm_44, ↓gm_45, ↓gm_46, ↓pm_1, ↓pm_2, ↓pm_8, ↓pm_9, ↓pm_10, ↓pm_11, ↓pm_12, ↓pm_13, ↓pm_14, ↓pm_16, ↓pm_18, ↓pm_21, ↓pm_22, ↓pm_23, ↓pm_24, ↓pm_25, ↓pm_26, ↓pm_28, ↓pm_31, ↓pm_35, ↓pm_36, ↓pm_37, ↓pm_38, ↓pm_40, ↓pm_43, ↓am_0, ↓wm_0, ↓am_3, ↓wm_3, ↓am_4, ↓wm_4, ↓am_5, ↓wm_5, ↓am_6, ↓wm_6, ↓am_7, ↓wm_7, ↓am_15, ↓wm_15, ↓am_17, ↓wm_17, ↓am_19, ↓wm_19, ↓am_20, ↓wm_20, ↓am_27, ↓wm_27, ↓am_29, ↓wm_29, ↓am_30, ↓wm_30, ↓am_32, ↓wm_32, ↓am_33, ↓wm_33, ↓am_34, ↓wm_34, ↓am_39, ↓wm_39, ↓am_41, ↓wm_41, ↓am_42, ↓wm_42, ↓am_44, ↓wm_44, ↓am_45, ↓wm_45, ↓am_46, ↓wm_46, ↓wn_0, ↓wn_46, or_false, false_or, rc_M, List.getElem?_cons_zero, List.getElem?_cons_succ, List.length_cons, List.length_nil, List.set_cons_zero, List.set_cons_succ, true_and, and_true, Option.toList_some, Option.toList_none, List.cons_append, List.nil_append, ↓reduceIte, not_false_eq_true, not_true_eq_false, Nat.reduceAdd, xj0_01, xj1_01, xb_B, xb_True, xb_False, ↓xj_in, xj_nat, Int.toNat_natCast, xj_lt_t, xj_lt_f, xj_le_t, xj_le_f, xj_eq_t, xj_eq_f, xj_lt, xj_le, xj_eq, xj_add, xj_sub, xj_mul, show ¬ xj 1 = xj 0 from by decide]
      rw [b162_70, rc_M, true_and]
      refine u_makes (by omega) hp1 (fun c60 R3 f3 p3 m8 _ => ?_) (fun c60 R3 f3 m9 => ?_)
      · rw [if_neg (by omega)] at hg
        have h83 : mS R3 8 = (s.1 : Nat) := m8.trans h81
        have hl2 := (run_rng (T := T) ha.1).2
        have hp4 : rP (sS R3 8 (ltE T n s.1 : Nat)) T n t (nxT T n s.1, s.2.1 + 1, s.2.2) := rP_8 p3 hl2.2 (by unfold nxT; rw [hen])
        have hlen : s.2.2.length < 400 := by have := ha.1; omega
        simp (disch := omega) only [b162_73, b162_76, b162_77, b162_78, b162_79, b162_82, b162_83, b162_84, b162_77o, b162_77z, b162_77c, ↓gm_0, ↓gm_1, ↓gm_2, ↓gm_3, ↓gm_4, ↓gm_5, ↓gm_6, ↓gm_7, ↓gm_8, ↓gm_9, ↓gm_10, ↓gm_11, ↓gm_12, ↓gm_13, ↓gm_14, ↓gm_15, ↓gm_16, ↓gm_17, ↓gm_18, ↓gm_19, ↓gm_20, ↓gm_21, ↓gm_22, ↓gm_23, ↓gm_24, ↓gm_25, ↓gm_26, ↓gm_27, ↓gm_28, ↓gm_29, ↓gm_30, ↓gm_31, ↓gm_32, ↓gm_33, ↓gm_34, ↓gm_35, ↓gm_36, ↓gm_37, ↓gm_38, ↓gm_39, ↓gm_40, ↓gm_41, ↓gm_42, ↓gm_43, ↓gm_44, ↓gm_45, ↓gm_46, ↓pm_1, ↓pm_2, ↓pm_8, ↓pm_9, ↓pm_10, ↓pm_11, ↓pm_12, ↓pm_13, ↓pm_14, ↓pm_16, ↓pm_18, ↓pm_21, ↓pm_22, ↓pm_23, ↓pm_24, ↓pm_25, ↓pm_26, ↓pm_28, ↓pm_31, ↓pm_35, ↓pm_36, ↓pm_37, ↓pm_38, ↓pm_40, ↓pm_43, ↓am_0, ↓wm_0, ↓am_3, ↓wm_3, ↓am_4, ↓wm_4, ↓am_5, ↓wm_5, ↓am_6, ↓wm_6, ↓am_7, ↓wm_7, ↓am_15, ↓wm_15, ↓am_17, ↓wm_17, ↓am_19, ↓wm_19, ↓am_20, ↓wm_20, ↓am_27, ↓wm_27, ↓am_29, ↓wm_29, ↓am_30, ↓wm_30, ↓am_32, ↓wm_32, ↓am_33, ↓wm_33, ↓am_34, ↓wm_34, ↓am_39, ↓wm_39, ↓am_41, ↓wm_41, ↓am_42, ↓wm_42, ↓am_44, ↓wm_44, ↓am_45, ↓wm_45, ↓am_46, ↓wm_46, ↓wn_0, ↓wn_46, or_false, false_or, rc_M, List.getElem?_cons_zero, List.getElem?_cons_succ, List.length_cons, List.length_nil, List.set_cons_zero, List.set_cons_succ, true_and, and_true, Option.toList_some, Option.toList_none, List.cons_append, List.nil_append, ↓reduceIte, not_false_eq_true, not_true_eq_false, Nat.reduceAdd, xj0_01, xj1_01, xb_B, xb_True, xb_False, ↓xj_in, xj_nat, Int.toNat_natCast, xj_lt_t, xj_lt_f, xj_le_t, xj_le_f, xj_eq_t, xj_eq_f, xj_lt, xj_le, xj_eq, xj_add, xj_sub, xj_mul, show ¬ xj 1 = xj 0 from by decide, m_passWord (h8 := h83) (hT := p3.1) (hp := ha.1)]
        rw [b162_85, rc_M, true_and]
        refine u_puts (c := 1) (v := v) (by omega) hp4 (by omega) (by omega) hlen (fun R5 f5 p5 _ => ?_)
        have po := hok _ hg R5 (frP_t fr1 (frP_t f3 (frP_t (frP_S (by omega)) f5))) p5
        simp (disch := omega) only [b162_88, b162_89, b162_89o, b162_89z, b162_89c, ↓gm_0, ↓gm_1, ↓gm_2, ↓gm_3, ↓gm_4, ↓gm_5, ↓gm_6, ↓gm_7, ↓gm_8, ↓gm_9, ↓gm_10, ↓gm_11, ↓gm_12, ↓gm_13, ↓gm_14, ↓gm_15, ↓gm_16, ↓gm_17, ↓gm_18, ↓gm_19, ↓gm_20, ↓gm_21, ↓gm_22, ↓gm_23, ↓gm_24, ↓gm_25, ↓gm_26, ↓gm_27, ↓gm_28, ↓gm_29, ↓gm_30, ↓gm_31, ↓gm_32, ↓gm_33, ↓gm_34, ↓gm_35, ↓gm_36, ↓gm_37, ↓gm_38, ↓gm_39, ↓gm_40, ↓gm_41, ↓gm_42, ↓gm_43, ↓gm_44, ↓gm_45, ↓gm_46, ↓pm_1, ↓pm_2, ↓pm_8, ↓pm_9, ↓pm_10, ↓pm_11, ↓pm_12, ↓pm_13, ↓pm_14, ↓pm_16, ↓pm_18, ↓pm_21, ↓pm_22, ↓pm_23, ↓pm_24, ↓pm_25, ↓pm_26, ↓pm_28, ↓pm_31, ↓pm_35, ↓pm_36, ↓pm_37, ↓pm_38, ↓pm_40, ↓pm_43, ↓am_0, ↓wm_0, ↓am_3, ↓wm_3, ↓am_4, ↓wm_4, ↓am_5, ↓wm_5, ↓am_6, ↓wm_6, ↓am_7, ↓wm_7, ↓am_15, ↓wm_15, ↓am_17, ↓wm_17, ↓am_19, ↓wm_19, ↓am_20, ↓wm_20, ↓am_27, ↓wm_27, ↓am_29, ↓wm_29, ↓am_30, ↓wm_30, ↓am_32, ↓wm_32, ↓am_33, ↓wm_33, ↓am_34, ↓wm_34, ↓am_39, ↓wm_39, ↓am_41, ↓wm_41, ↓am_42, ↓wm_42, ↓am_44, ↓wm_44, ↓am_45, ↓wm_45, ↓am_46, ↓wm_46, ↓wn_0, ↓wn_46, or_false, false_or, rc_M, List.getElem?_cons_zero, List.getElem?_cons_succ, List.length_cons, List.length_nil, List.set_cons_zero, List.set_cons_succ, true_and, and_true, Option.toList_some, Option.toList_none, List.cons_append, List.nil_append, ↓reduceIte, not_false_eq_true, not_true_eq_false, Nat.reduceAdd, xj0_01, xj1_01, xb_B, xb_True, xb_False, ↓xj_in, xj_nat, Int.toNat_natCast, xj_lt_t, xj_lt_f, xj_le_t, xj_le_f, xj_eq_t, xj_eq_f, xj_lt, xj_le, xj_eq, xj_add, xj_sub, xj_mul, show ¬ xj 1 = xj 0 from by decide]
        exact po
      · rw [if_pos c60] at hg
        have po := hno _ hg R3 (frP_t fr1 f3) m9
        simp (disch := omega) only [b162_73, b162_76, b162_77, b162_77o, b162_77z, b162_77c, ↓gm_0, ↓gm_1, ↓gm_2, ↓gm_3, ↓gm_4, ↓gm_5, ↓gm_6, ↓gm_7, ↓gm_8, ↓gm_9, ↓gm_10, ↓gm_11, ↓gm_12, ↓gm_13, ↓gm_14, ↓gm_15, ↓gm_16, ↓gm_17, ↓gm_18, ↓gm_19, ↓gm_20, ↓gm_21, ↓gm_22, ↓gm_23, ↓gm_24, ↓gm_25, ↓gm_26, ↓gm_27, ↓gm_28, ↓gm_29, ↓gm_30, ↓gm_31, ↓gm_32, ↓gm_33, ↓gm_34, ↓gm_35, ↓gm_36, ↓gm_37, ↓gm_38, ↓gm_39, ↓gm_40, ↓gm_41, ↓gm_42, ↓gm_43, ↓gm_44, ↓gm_45, ↓gm_46, ↓pm_1, ↓pm_2, ↓pm_8, ↓pm_9, ↓pm_10, ↓pm_11, ↓pm_12, ↓pm_13, ↓pm_14, ↓pm_16, ↓pm_18, ↓pm_21, ↓pm_22, ↓pm_23, ↓pm_24, ↓pm_25, ↓pm_26, ↓pm_28, ↓pm_31, ↓pm_35, ↓pm_36, ↓pm_37, ↓pm_38, ↓pm_40, ↓pm_43, ↓am_0, ↓wm_0, ↓am_3, ↓wm_3, ↓am_4, ↓wm_4, ↓am_5, ↓wm_5, ↓am_6, ↓wm_6, ↓am_7, ↓wm_7, ↓am_15, ↓wm_15, ↓am_17, ↓wm_17, ↓am_19, ↓wm_19, ↓am_20, ↓wm_20, ↓am_27, ↓wm_27, ↓am_29, ↓wm_29, ↓am_30, ↓wm_30, ↓am_32, ↓wm_32, ↓am_33, ↓wm_33, ↓am_34, ↓wm_34, ↓am_39, ↓wm_39, ↓am_41, ↓wm_41, ↓am_42, ↓wm_42, ↓am_44, ↓wm_44, ↓am_45, ↓wm_45, ↓am_46, ↓wm_46, ↓wn_0, ↓wn_46, or_false, false_or, rc_M, List.getElem?_cons_zero, List.getElem?_cons_succ, List.length_cons, List.length_nil, List.set_cons_zero, List.set_cons_succ, true_and, and_true, Option.toList_some, Option.toList_none, List.cons_append, List.nil_append, ↓reduceIte, not_false_eq_true, not_true_eq_false, Nat.reduceAdd, xj0_01, xj1_01, xb_B, xb_True, xb_False, ↓xj_in, xj_nat, Int.toNat_natCast, xj_lt_t, xj_lt_f, xj_le_t, xj_le_f, xj_eq_t, xj_eq_f, xj_lt, xj_le, xj_eq, xj_add, xj_sub, xj_mul, show ¬ xj 1 = xj 0 from by decide]
        exact po
    · have e : (if wdA T n s.1 < 13 then wdA T n s.1 else -1) = -1 := by split <;> omega
      have hg : gVal T n s = .inl (1 + 8 * s.1) := by
        unfold gVal
        have hk1 : kdT T n s.1 ≠ 1 := by
          unfold kdT
          split
          · decide
          · rw [hd, if_neg (by decide)]; split <;> decide
        rw [if_neg hk1, if_neg]
        rintro ⟨k1, k2, k3⟩
        have hv : vaT T n s.1 = wdA T n s.1 := by unfold vaT; rw [if_neg (by omega), if_neg (by omega), if_pos k1]
        rw [hv] at k2 k3
        exact cw ⟨k2, k3⟩
      have po := hno _ hg (sS R1 9 (1 + 8 * (s.1 : Nat))) (frP_t fr1 (frP_S (by omega))) (by rw [mS_S]; omega)
      rw [e]
      simp (disch := omega) only [b162_57, b162_58, b162_61, b162_62, b162_63, b162_64, b162_67, b162_67o, b162_67z, b162_67c, ↓gm_0, ↓gm_1, ↓gm_2, ↓gm_3, ↓gm_4, ↓gm_5, ↓gm_6, ↓gm_7, ↓gm_8, ↓gm_9, ↓gm_10, ↓gm_11, ↓gm_12, ↓gm_13, ↓gm_14, ↓gm_15, ↓gm_16, ↓gm_17, ↓gm_18, ↓gm_19, ↓gm_20, ↓gm_21, ↓gm_22, ↓gm_23, ↓gm_24, ↓gm_25, ↓gm_26, ↓gm_27, ↓gm_28, ↓gm_29, ↓gm_30, ↓gm_31, ↓gm_32, ↓gm_33, ↓gm_34, ↓gm_35, ↓gm_36, ↓gm_37, ↓gm_38, ↓gm_39, ↓gm_40, ↓gm_41, ↓gm_42, ↓gm_43, ↓gm_44, ↓gm_45, ↓gm_46, ↓pm_1, ↓pm_2, ↓pm_8, ↓pm_9, ↓pm_10, ↓pm_11, ↓pm_12, ↓pm_13, ↓pm_14, ↓pm_16, ↓pm_18, ↓pm_21, ↓pm_22, ↓pm_23, ↓pm_24, ↓pm_25, ↓pm_26, ↓pm_28, ↓pm_31, ↓pm_35, ↓pm_36, ↓pm_37, ↓pm_38, ↓pm_40, ↓pm_43, ↓am_0, ↓wm_0, ↓am_3, ↓wm_3, ↓am_4, ↓wm_4, ↓am_5, ↓wm_5, ↓am_6, ↓wm_6, ↓am_7, ↓wm_7, ↓am_15, ↓wm_15, ↓am_17, ↓wm_17, ↓am_19, ↓wm_19, ↓am_20, ↓wm_20, ↓am_27, ↓wm_27, ↓am_29, ↓wm_29, ↓am_30, ↓wm_30, ↓am_32, ↓wm_32, ↓am_33, ↓wm_33, ↓am_34, ↓wm_34, ↓am_39, ↓wm_39, ↓am_41, ↓wm_41, ↓am_42, ↓wm_42, ↓am_44, ↓wm_44, ↓am_45, ↓wm_45, ↓am_46, ↓wm_46, ↓wn_0, ↓wn_46, or_false, false_or, rc_M, List.getElem?_cons_zero, List.getElem?_cons_succ, List.length_cons, List.length_nil, List.set_cons_zero, List.set_cons_succ, true_and, and_true, Option.toList_some, Option.toList_none, List.cons_append, List.nil_append, ↓reduceIte, not_false_eq_true, not_true_eq_false, Nat.reduceAdd, xj0_01, xj1_01, xb_B, xb_True, xb_False, ↓xj_in, xj_nat, Int.toNat_natCast, xj_lt_t, xj_lt_f, xj_le_t, xj_le_f, xj_eq_t, xj_eq_f, xj_lt, xj_le, xj_eq, xj_add, xj_sub, xj_mul, show ¬ xj 1 = xj 0 from by decide, m_fails, h9, Int.add_zero]
      exact po
  · have hk := kd_1 hd
    have hen : enT T n s.1 = dgE T n s.1 := by unfold enT; rw [if_pos hk]
    have hlt := kd_lt (T := T) (show kdT T n s.1 ≠ 0 by omega)
    have hl := (run_rng (T := T) ha.1).1
    have hv9 := nv_rng2 (T := T) (n := n) (p := s.1) (dgE T n s.1 - s.1) (fun i hi => reF_all (dgB T n) 400 s.1 (s.1 + i) (by omega) (by show s.1 + i < dgE T n s.1; omega))
    have hd' : dgB T n (skT T n s.1) = true := by rw [ska]; exact hd
    have nm := fun K => m_number (D := D - 1) (f := f) (b := b) (w := w) (K := K) (x := 0) (y := 99999) (by omega) h0 h9 h81 ha.1 hd' (by omega) (by omega) (by omega) (by omega)
    rw [ska] at nm
    have l9 : (99999 : Int32) = xj 99999 := by decide
    simp (disch := omega) only [b162_15, b162_18, b162_21, b162_22, b162_23, b162_25, ↓gm_0, ↓gm_1, ↓gm_2, ↓gm_3, ↓gm_4, ↓gm_5, ↓gm_6, ↓gm_7, ↓gm_8, ↓gm_9, ↓gm_10, ↓gm_11, ↓gm_12, ↓gm_13, ↓gm_14, ↓gm_15, ↓gm_16, ↓gm_17, ↓gm_18, ↓gm_19, ↓gm_20, ↓gm_21, ↓gm_22, ↓gm_23, ↓gm_24, ↓gm_25, ↓gm_26, ↓gm_27, ↓gm_28, ↓gm_29, ↓gm_30, ↓gm_31, ↓gm_32, ↓gm_33, ↓gm_34, ↓gm_35, ↓gm_36, ↓gm_37, ↓gm_38, ↓gm_39, ↓gm_40, ↓gm_41, ↓gm_42, ↓gm_43, ↓gm_44, ↓gm_45, ↓gm_46, ↓pm_1, ↓pm_2, ↓pm_8, ↓pm_9, ↓pm_10, ↓pm_11, ↓pm_12, ↓pm_13, ↓pm_14, ↓pm_16, ↓pm_18, ↓pm_21, ↓pm_22, ↓pm_23, ↓pm_24, ↓pm_25, ↓pm_26, ↓pm_28, ↓pm_31, ↓pm_35, ↓pm_36, ↓pm_37, ↓pm_38, ↓pm_40, ↓pm_43, ↓am_0, ↓wm_0, ↓am_3, ↓wm_3, ↓am_4, ↓wm_4, ↓am_5, ↓wm_5, ↓am_6, ↓wm_6, ↓am_7, ↓wm_7, ↓am_15, ↓wm_15, ↓am_17, ↓wm_17, ↓am_19, ↓wm_19, ↓am_20, ↓wm_20, ↓am_27, ↓wm_27, ↓am_29, ↓wm_29, ↓am_30, ↓wm_30, ↓am_32, ↓wm_32, ↓am_33, ↓wm_33, ↓am_34, ↓wm_34, ↓am_39, ↓wm_39, ↓am_41, ↓wm_41, ↓am_42, ↓wm_42, ↓am_44, ↓wm_44, ↓am_45, ↓wm_45, ↓am_46, ↓wm_46, ↓wn_0, ↓wn_46, or_false, false_or, rc_M, List.getElem?_cons_zero, List.getElem?_cons_succ, List.length_cons, List.length_nil, List.set_cons_zero, List.set_cons_succ, true_and, and_true, Option.toList_some, Option.toList_none, List.cons_append, List.nil_append, ↓reduceIte, not_false_eq_true, not_true_eq_false, Nat.reduceAdd, xj0_01, xj1_01, xb_B, xb_True, xb_False, ↓xj_in, xj_nat, Int.toNat_natCast, xj_lt_t, xj_lt_f, xj_le_t, xj_le_f, xj_eq_t, xj_eq_f, xj_lt, xj_le, xj_eq, xj_add, xj_sub, xj_mul, show ¬ xj 1 = xj 0 from by decide, dig, hd, xb_T, l9, nm]
    by_cases c5 : dgE T n s.1 - s.1 ≤ 5
    · have hnm : nmB T n s.1 0 99999 = true := decide_eq_true ⟨c5, hv9.1, hv9.2⟩
      have hva : vaT T n s.1 = nvF T s.1 (dgE T n s.1 - s.1) := by unfold vaT; rw [if_neg (by omega), if_pos hk, if_neg (by omega)]
      obtain ⟨v, hvv⟩ : ∃ v : Nat, nvF T s.1 (dgE T n s.1 - s.1) = v := ⟨(nvF T s.1 (dgE T n s.1 - s.1)).toNat, by omega⟩
      have hg : gVal T n s = if 60 ≤ s.2.1 then .inl (1 + 8 * s.1 + 3) else .inr (nxT T n s.1, s.2.1 + 1, s.2.2 ++ [(0, v)]) := by
        unfold gVal
        rw [if_pos hk, hva, hvv, if_neg (by omega), Int.toNat_natCast]
      rw [hnm, hvv]
      have hp2' : rP (sS R1 8 (dgE T n s.1 : Nat)) T n t (nxT T n s.1, s.2) := rP_8 hp1 hl.2 (by unfold nxT; rw [hen])
      have hp2 : rP (sS (sS R1 8 (dgE T n s.1 : Nat)) 10 (v : Nat)) T n t (nxT T n s.1, s.2) := hp2'
      simp (disch := omega) only [b162_28, b162_31, b162_32, ↓gm_0, ↓gm_1, ↓gm_2, ↓gm_3, ↓gm_4, ↓gm_5, ↓gm_6, ↓gm_7, ↓gm_8, ↓gm_9, ↓gm_10, ↓gm_11, ↓gm_12, ↓gm_13, ↓gm_14, ↓gm_15, ↓gm_16, ↓gm_17, ↓gm_18, ↓gm_19, ↓gm_20, ↓gm_21, ↓gm_22, ↓gm_23, ↓gm_24, ↓gm_25, ↓gm_26, ↓gm_27, ↓gm_28, ↓gm_29, ↓gm_30, ↓gm_31, ↓gm_32, ↓gm_33, ↓gm_34, ↓gm_35, ↓gm_36, ↓gm_37, ↓gm_38, ↓gm_39, ↓gm_40, ↓gm_41, ↓gm_42, ↓gm_43, ↓gm_44, ↓gm_45, ↓gm_46, ↓pm_1, ↓pm_2, ↓pm_8, ↓pm_9, ↓pm_10, ↓pm_11, ↓pm_12, ↓pm_13, ↓pm_14, ↓pm_16, ↓pm_18, ↓pm_21, ↓pm_22, ↓pm_23, ↓pm_24, ↓pm_25, ↓pm_26, ↓pm_28, ↓pm_31, ↓pm_35, ↓pm_36, ↓pm_37, ↓pm_38, ↓pm_40, ↓pm_43, ↓am_0, ↓wm_0, ↓am_3, ↓wm_3, ↓am_4, ↓wm_4, ↓am_5, ↓wm_5, ↓am_6, ↓wm_6, ↓am_7, ↓wm_7, ↓am_15, ↓wm_15, ↓am_17, ↓wm_17, ↓am_19, ↓wm_19, ↓am_20, ↓wm_20, ↓am_27, ↓wm_27, ↓am_29, ↓wm_29, ↓am_30, ↓wm_30, ↓am_32, ↓wm_32, ↓am_33, ↓wm_33, ↓am_34, ↓wm_34, ↓am_39, ↓wm_39, ↓am_41, ↓wm_41, ↓am_42, ↓wm_42, ↓am_44, ↓wm_44, ↓am_45, ↓wm_45, ↓am_46, ↓wm_46, ↓wn_0, ↓wn_46, or_false, false_or, rc_M, List.getElem?_cons_zero, List.getElem?_cons_succ, List.length_cons, List.length_nil, List.set_cons_zero, List.set_cons_succ, true_and, and_true, Option.toList_some, Option.toList_none, List.cons_append, List.nil_append, ↓reduceIte, not_false_eq_true, not_true_eq_false, Nat.reduceAdd, xj0_01, xj1_01, xb_B, xb_True, xb_False, ↓xj_in, xj_nat, Int.toNat_natCast, xj_lt_t, xj_lt_f, xj_le_t, xj_le_f, xj_eq_t, xj_eq_f, xj_lt, xj_le, xj_eq, xj_add, xj_sub, xj_mul, show ¬ xj 1 = xj 0 from by decide, xb_T, if_true]
      rw [b162_33, rc_M, true_and]
      refine u_makes (by omega) hp2 (fun c60 R3 f3 p3 _ m10 => ?_) (fun c60 R3 f3 m9 => ?_)
      · have c60 : s.2.1 < 60 := c60
        rw [if_neg (by omega)] at hg
        have hlen : s.2.2.length < 400 := by have := ha.1; omega
        have h103 : mS R3 10 = (v : Nat) := m10.trans mS_S
        simp (disch := omega) only [b162_36, b162_39, b162_40, b162_41, b162_42, b162_43, b162_44, b162_40o, b162_40z, b162_40c, ↓gm_0, ↓gm_1, ↓gm_2, ↓gm_3, ↓gm_4, ↓gm_5, ↓gm_6, ↓gm_7, ↓gm_8, ↓gm_9, ↓gm_10, ↓gm_11, ↓gm_12, ↓gm_13, ↓gm_14, ↓gm_15, ↓gm_16, ↓gm_17, ↓gm_18, ↓gm_19, ↓gm_20, ↓gm_21, ↓gm_22, ↓gm_23, ↓gm_24, ↓gm_25, ↓gm_26, ↓gm_27, ↓gm_28, ↓gm_29, ↓gm_30, ↓gm_31, ↓gm_32, ↓gm_33, ↓gm_34, ↓gm_35, ↓gm_36, ↓gm_37, ↓gm_38, ↓gm_39, ↓gm_40, ↓gm_41, ↓gm_42, ↓gm_43, ↓gm_44, ↓gm_45, ↓gm_46, ↓pm_1, ↓pm_2, ↓pm_8, ↓pm_9, ↓pm_10, ↓pm_11, ↓pm_12, ↓pm_13, ↓pm_14, ↓pm_16, ↓pm_18, ↓pm_21, ↓pm_22, ↓pm_23, ↓pm_24, ↓pm_25, ↓pm_26, ↓pm_28, ↓pm_31, ↓pm_35, ↓pm_36, ↓pm_37, ↓pm_38, ↓pm_40, ↓pm_43, ↓am_0, ↓wm_0, ↓am_3, ↓wm_3, ↓am_4, ↓wm_4, ↓am_5, ↓wm_5, ↓am_6, ↓wm_6, ↓am_7, ↓wm_7, ↓am_15, ↓wm_15, ↓am_17, ↓wm_17, ↓am_19, ↓wm_19, ↓am_20, ↓wm_20, ↓am_27, ↓wm_27, ↓am_29, ↓wm_29, ↓am_30, ↓wm_30, ↓am_32, ↓wm_32, ↓am_33, ↓wm_33, ↓am_34, ↓wm_34, ↓am_39, ↓wm_39, ↓am_41, ↓wm_41, ↓am_42, ↓wm_42, ↓am_44, ↓wm_44, ↓am_45, ↓wm_45, ↓am_46, ↓wm_46, ↓wn_0, ↓wn_46, or_false, false_or, rc_M, List.getElem?_cons_zero, List.getElem?_cons_succ, List.length_cons, List.length_nil, List.set_cons_zero, List.set_cons_succ, true_and, and_true, Option.toList_some, Option.toList_none, List.cons_append, List.nil_append, ↓reduceIte, not_false_eq_true, not_true_eq_false, Nat.reduceAdd, xj0_01, xj1_01, xb_B, xb_True, xb_False, ↓xj_in, xj_nat, Int.toNat_natCast, xj_lt_t, xj_lt_f, xj_le_t, xj_le_f, xj_eq_t, xj_eq_f, xj_lt, xj_le, xj_eq, xj_add, xj_sub, xj_mul, show ¬ xj 1 = xj 0 from by decide, h103]
        rw [b162_47, rc_M, true_and]
        refine u_puts (c := 0) (v := v) (by omega) p3 (by omega) (by omega) hlen (fun R5 f5 p5 _ => ?_)
        have po := hok _ hg R5 (frP_t fr1 (frP_t (frP_t (frP_t (frP_S (by omega)) (frP_S (by omega))) f3) f5)) p5
        simp (disch := omega) only [b162_50, b162_51, b162_51o, b162_51z, b162_51c, ↓gm_0, ↓gm_1, ↓gm_2, ↓gm_3, ↓gm_4, ↓gm_5, ↓gm_6, ↓gm_7, ↓gm_8, ↓gm_9, ↓gm_10, ↓gm_11, ↓gm_12, ↓gm_13, ↓gm_14, ↓gm_15, ↓gm_16, ↓gm_17, ↓gm_18, ↓gm_19, ↓gm_20, ↓gm_21, ↓gm_22, ↓gm_23, ↓gm_24, ↓gm_25, ↓gm_26, ↓gm_27, ↓gm_28, ↓gm_29, ↓gm_30, ↓gm_31, ↓gm_32, ↓gm_33, ↓gm_34, ↓gm_35, ↓gm_36, ↓gm_37, ↓gm_38, ↓gm_39, ↓gm_40, ↓gm_41, ↓gm_42, ↓gm_43, ↓gm_44, ↓gm_45, ↓gm_46, ↓pm_1, ↓pm_2, ↓pm_8, ↓pm_9, ↓pm_10, ↓pm_11, ↓pm_12, ↓pm_13, ↓pm_14, ↓pm_16, ↓pm_18, ↓pm_21, ↓pm_22, ↓pm_23, ↓pm_24, ↓pm_25, ↓pm_26, ↓pm_28, ↓pm_31, ↓pm_35, ↓pm_36, ↓pm_37, ↓pm_38, ↓pm_40, ↓pm_43, ↓am_0, ↓wm_0, ↓am_3, ↓wm_3, ↓am_4, ↓wm_4, ↓am_5, ↓wm_5, ↓am_6, ↓wm_6, ↓am_7, ↓wm_7, ↓am_15, ↓wm_15, ↓am_17, ↓wm_17, ↓am_19, ↓wm_19, ↓am_20, ↓wm_20, ↓am_27, ↓wm_27, ↓am_29, ↓wm_29, ↓am_30, ↓wm_30, ↓am_32, ↓wm_32, ↓am_33, ↓wm_33, ↓am_34, ↓wm_34, ↓am_39, ↓wm_39, ↓am_41, ↓wm_41, ↓am_42, ↓wm_42, ↓am_44, ↓wm_44, ↓am_45, ↓wm_45, ↓am_46, ↓wm_46, ↓wn_0, ↓wn_46, or_false, false_or, rc_M, List.getElem?_cons_zero, List.getElem?_cons_succ, List.length_cons, List.length_nil, List.set_cons_zero, List.set_cons_succ, true_and, and_true, Option.toList_some, Option.toList_none, List.cons_append, List.nil_append, ↓reduceIte, not_false_eq_true, not_true_eq_false, Nat.reduceAdd, xj0_01, xj1_01, xb_B, xb_True, xb_False, ↓xj_in, xj_nat, Int.toNat_natCast, xj_lt_t, xj_lt_f, xj_le_t, xj_le_f, xj_eq_t, xj_eq_f, xj_lt, xj_le, xj_eq, xj_add, xj_sub, xj_mul, show ¬ xj 1 = xj 0 from by decide]
        exact po
      · have c60 : 60 ≤ s.2.1 := c60
        rw [if_pos c60] at hg
        have po := hno _ hg R3 (frP_t fr1 (frP_t (frP_t (frP_S (by omega)) (frP_S (by omega))) f3)) m9
        simp (disch := omega) only [b162_36, b162_39, b162_40, b162_40o, b162_40z, b162_40c, ↓gm_0, ↓gm_1, ↓gm_2, ↓gm_3, ↓gm_4, ↓gm_5, ↓gm_6, ↓gm_7, ↓gm_8, ↓gm_9, ↓gm_10, ↓gm_11, ↓gm_12, ↓gm_13, ↓gm_14, ↓gm_15, ↓gm_16, ↓gm_17, ↓gm_18, ↓gm_19, ↓gm_20, ↓gm_21, ↓gm_22, ↓gm_23, ↓gm_24, ↓gm_25, ↓gm_26, ↓gm_27, ↓gm_28, ↓gm_29, ↓gm_30, ↓gm_31, ↓gm_32, ↓gm_33, ↓gm_34, ↓gm_35, ↓gm_36, ↓gm_37, ↓gm_38, ↓gm_39, ↓gm_40, ↓gm_41, ↓gm_42, ↓gm_43, ↓gm_44, ↓gm_45, ↓gm_46, ↓pm_1, ↓pm_2, ↓pm_8, ↓pm_9, ↓pm_10, ↓pm_11, ↓pm_12, ↓pm_13, ↓pm_14, ↓pm_16, ↓pm_18, ↓pm_21, ↓pm_22, ↓pm_23, ↓pm_24, ↓pm_25, ↓pm_26, ↓pm_28, ↓pm_31, ↓pm_35, ↓pm_36, ↓pm_37, ↓pm_38, ↓pm_40, ↓pm_43, ↓am_0, ↓wm_0, ↓am_3, ↓wm_3, ↓am_4, ↓wm_4, ↓am_5, ↓wm_5, ↓am_6, ↓wm_6, ↓am_7, ↓wm_7, ↓am_15, ↓wm_15, ↓am_17, ↓wm_17, ↓am_19, ↓wm_19, ↓am_20, ↓wm_20, ↓am_27, ↓wm_27, ↓am_29, ↓wm_29, ↓am_30, ↓wm_30, ↓am_32, ↓wm_32, ↓am_33, ↓wm_33, ↓am_34, ↓wm_34, ↓am_39, ↓wm_39, ↓am_41, ↓wm_41, ↓am_42, ↓wm_42, ↓am_44, ↓wm_44, ↓am_45, ↓wm_45, ↓am_46, ↓wm_46, ↓wn_0, ↓wn_46, or_false, false_or, rc_M, List.getElem?_cons_zero, List.getElem?_cons_succ, List.length_cons, List.length_nil, List.set_cons_zero, List.set_cons_succ, true_and, and_true, Option.toList_some, Option.toList_none, List.cons_append, List.nil_append, ↓reduceIte, not_false_eq_true, not_true_eq_false, Nat.reduceAdd, xj0_01, xj1_01, xb_B, xb_True, xb_False, ↓xj_in, xj_nat, Int.toNat_natCast, xj_lt_t, xj_lt_f, xj_le_t, xj_le_f, xj_eq_t, xj_eq_f, xj_lt, xj_le, xj_eq, xj_add, xj_sub, xj_mul, show ¬ xj 1 = xj 0 from by decide]
        exact po
    · have hnm : nmB T n s.1 0 99999 = false := decide_eq_false (fun q => c5 q.1)
      have hva : vaT T n s.1 = -1 := by unfold vaT; rw [if_neg (by omega), if_pos hk, if_pos (by omega)]
      have hg : gVal T n s = .inl (1 + 8 * s.1 + 1) := by unfold gVal; rw [if_pos hk, hva, if_pos rfl]
      have po := hno _ hg (sS (sS (sS R1 8 (dgE T n s.1 : Nat)) 9 (1 + 8 * (s.1 : Nat) + 1)) 10 (nvF T s.1 (dgE T n s.1 - s.1))) (frP_t fr1 (frP_t (frP_S (by omega)) (frP_t (frP_S (by omega)) (frP_S (by omega))))) (by rw [mS_So (by decide), mS_S]; omega)
      rw [hnm]
      simp (disch := omega) only [b162_28, b162_31, b162_32, b162_33, b162_36, b162_39, b162_40, b162_40o, b162_40z, b162_40c, ↓gm_0, ↓gm_1, ↓gm_2, ↓gm_3, ↓gm_4, ↓gm_5, ↓gm_6, ↓gm_7, ↓gm_8, ↓gm_9, ↓gm_10, ↓gm_11, ↓gm_12, ↓gm_13, ↓gm_14, ↓gm_15, ↓gm_16, ↓gm_17, ↓gm_18, ↓gm_19, ↓gm_20, ↓gm_21, ↓gm_22, ↓gm_23, ↓gm_24, ↓gm_25, ↓gm_26, ↓gm_27, ↓gm_28, ↓gm_29, ↓gm_30, ↓gm_31, ↓gm_32, ↓gm_33, ↓gm_34, ↓gm_35, ↓gm_36, ↓gm_37, ↓gm_38, ↓gm_39, ↓gm_40, ↓gm_41, ↓gm_42, ↓gm_43, ↓gm_44, ↓gm_45, ↓gm_46, ↓pm_1, ↓pm_2, ↓pm_8, ↓pm_9, ↓pm_10, ↓pm_11, ↓pm_12, ↓pm_13, ↓pm_14, ↓pm_16, ↓pm_18, ↓pm_21, ↓pm_22, ↓pm_23, ↓pm_24, ↓pm_25, ↓pm_26, ↓pm_28, ↓pm_31, ↓pm_35, ↓pm_36, ↓pm_37, ↓pm_38, ↓pm_40, ↓pm_43, ↓am_0, ↓wm_0, ↓am_3, ↓wm_3, ↓am_4, ↓wm_4, ↓am_5, ↓wm_5, ↓am_6, ↓wm_6, ↓am_7, ↓wm_7, ↓am_15, ↓wm_15, ↓am_17, ↓wm_17, ↓am_19, ↓wm_19, ↓am_20, ↓wm_20, ↓am_27, ↓wm_27, ↓am_29, ↓wm_29, ↓am_30, ↓wm_30, ↓am_32, ↓wm_32, ↓am_33, ↓wm_33, ↓am_34, ↓wm_34, ↓am_39, ↓wm_39, ↓am_41, ↓wm_41, ↓am_42, ↓wm_42, ↓am_44, ↓wm_44, ↓am_45, ↓wm_45, ↓am_46, ↓wm_46, ↓wn_0, ↓wn_46, or_false, false_or, rc_M, List.getElem?_cons_zero, List.getElem?_cons_succ, List.length_cons, List.length_nil, List.set_cons_zero, List.set_cons_succ, true_and, and_true, Option.toList_some, Option.toList_none, List.cons_append, List.nil_append, ↓reduceIte, not_false_eq_true, not_true_eq_false, Nat.reduceAdd, xj0_01, xj1_01, xb_B, xb_True, xb_False, ↓xj_in, xj_nat, Int.toNat_natCast, xj_lt_t, xj_lt_f, xj_le_t, xj_le_f, xj_eq_t, xj_eq_f, xj_lt, xj_le, xj_eq, xj_add, xj_sub, xj_mul, show ¬ xj 1 = xj 0 from by decide, Bool.false_eq_true, xb_F, if_false]
      exact po
theorem seeF_rng {T : Nat → Int} {n p : Nat} (hb : p < n → 0 ≤ T p ∧ T p ≤ 255) : -1 ≤ seeF T n p ∧ seeF T n p ≤ 255 := by
  unfold seeF
  split
  · rename_i h; have := hb h; omega
  · omega
theorem u_term (hD : 5 ≤ D) (hp : rP R T n t s) (hr : s.2.2.length < s.1) (hok : ∀ s', gTerm T n s = .inr s' → ∀ R', frP t R R' → rP R' T n t s' → K (some (.int (xj 1))) (xm f b R', w)) (hno : ∀ e : Nat, gTerm T n s = .inl e → ∀ R', frP t R R' → mS R' 9 = (e : Nat) → K (some (.int (xj 0))) (xm f b R', w)) : xk_Cl D 163 [.ref b] (xm f b R, w) K := by
  rw [e163 (by omega)]
  have hn := hp.1.2.1
  have loop : ∀ (fu : Nat) (s1 : Ps) (R1 : Md) (l1 : Value), n + 1 ≤ s1.1 + fu → frP t R R1 → rP R1 T n t s1 → s1.2.2.length < s1.1 → tmF T n fu s1 = gTerm T n s → xk_B (D - 1) 163 9 [.ref b, l1] [] (xm f b R1, w) K := by
    intro fu
    induction fu with
    | zero =>
      intro s1 R1 l1 hf fr hp1 hr1 he
      have := (rP_at hp1).1
      omega
    | succ fu ih =>
      intro s1 R1 l1 hf fr hp1 hr1 he
      have ha := rP_at hp1
      have hb := fun (h : s1.1 < n) => rP_b hp1 h
      have sr := seeF_rng hb
      have hp2 : rP (sS R1 8 (s1.1 : Nat)) T n t s1 := rP_8 hp1 ha.1 (at_sk hn ha)
      have h82 : mS (sS R1 8 (s1.1 : Nat)) 8 = (s1.1 : Nat) := mS_S
      have fr2 : frP t R (sS R1 8 (s1.1 : Nat)) := frP_t fr (frP_S (by omega))
      have see2 := fun K => m_see2 (D := D - 1) (f := f) (b := b) (w := w) (K := K) (by omega) hp2.1 h82 ha
      unfold tmF at he
      rw [b163_9]
      rcases opM_see (T := T) (n := n) (p := s1.1) hb with ⟨h1, h2, h3, h4⟩ | ⟨h1, h2⟩
      · have hop : opM T n s1.1 ≠ 0 := by omega
        rw [if_neg hop] at he
        obtain ⟨t0, t1, t2⟩ := hp2.1.2.2 s1.1 h2
        have ttb : tb (T s1.1) = T s1.1 := by unfold tb; rw [if_pos (by omega)]
        rw [ttb, h4] at t0
        have hp3 : rP (sS R1 8 (s1.1 + 1 : Nat)) T n t (nxT T n s1.1, s1.2) := rP_8 hp1 (by omega) (by unfold nxT; rw [h3])
        have fr3 : frP t R (sS R1 8 (s1.1 + 1 : Nat)) := frP_t fr (frP_S (by omega))
        obtain ⟨n1, n2, n3⟩ := nx_rng (T := T) hn h2
        have tail : xk_B (D - 1) 163 85 [.ref b, .int (xj (mkS (opM T n s1.1) : Nat))] [] (xm f b (sS R1 8 (s1.1 + 1 : Nat)), w) K := by
          simp (disch := omega) only [b163_85]
          rw [b163_86, rc_M, true_and]
          refine u_value (by omega) hp3 (by show s1.2.2.length < nxT T n s1.1; omega) (fun s4 hg R4 f4 p4 => ?_) (fun e hg R4 f4 m4 => ?_)
          · have hg : gVal T n (nxT T n s1.1, s1.2) = .inr s4 := hg
            rw [hg] at he
            obtain ⟨g1, g2, g3, g4⟩ := gVal_rm hn hg
            have g1 : nxT T n s1.1 < s4.1 := g1
            have g4 : s4.2.2.length + nxT T n s1.1 ≤ s1.2.2.length + s4.1 := g4
            simp (disch := omega) only [b163_89, b163_92, b163_93, b163_94, b163_95, b163_96, b163_93o, b163_93z, b163_93c, ↓gm_0, ↓gm_1, ↓gm_2, ↓gm_3, ↓gm_4, ↓gm_5, ↓gm_6, ↓gm_7, ↓gm_8, ↓gm_9, ↓gm_10, ↓gm_11, ↓gm_12, ↓gm_13, ↓gm_14, ↓gm_15, ↓gm_16, ↓gm_17, ↓gm_18, ↓gm_19, ↓gm_20, ↓gm_21, ↓gm_22, ↓gm_23, ↓gm_24, ↓gm_25, ↓gm_26, ↓gm_27, ↓gm_28, ↓gm_29, ↓gm_30, ↓gm_31, ↓gm_32, ↓gm_33, ↓gm_34, ↓gm_35, ↓gm_36, ↓gm_37, ↓gm_38, ↓gm_39, ↓gm_40, ↓gm_41, ↓gm_42, ↓gm_43, ↓gm_44, ↓gm_45, ↓gm_46, ↓pm_1, ↓pm_2, ↓pm_8, ↓pm_9, ↓pm_10, ↓pm_11, ↓pm_12, ↓pm_13, ↓pm_14, ↓pm_16, ↓pm_18, ↓pm_21, ↓pm_22, ↓pm_23, ↓pm_24, ↓pm_25, ↓pm_26, ↓pm_28, ↓pm_31, ↓pm_35, ↓pm_36, ↓pm_37, ↓pm_38, ↓pm_40, ↓pm_43, ↓am_0, ↓wm_0, ↓am_3, ↓wm_3, ↓am_4, ↓wm_4, ↓am_5, ↓wm_5, ↓am_6, ↓wm_6, ↓am_7, ↓wm_7, ↓am_15, ↓wm_15, ↓am_17, ↓wm_17, ↓am_19, ↓wm_19, ↓am_20, ↓wm_20, ↓am_27, ↓wm_27, ↓am_29, ↓wm_29, ↓am_30, ↓wm_30, ↓am_32, ↓wm_32, ↓am_33, ↓wm_33, ↓am_34, ↓wm_34, ↓am_39, ↓wm_39, ↓am_41, ↓wm_41, ↓am_42, ↓wm_42, ↓am_44, ↓wm_44, ↓am_45, ↓wm_45, ↓am_46, ↓wm_46, ↓wn_0, ↓wn_46, or_false, false_or, rc_M, List.getElem?_cons_zero, List.getElem?_cons_succ, List.length_cons, List.length_nil, List.set_cons_zero, List.set_cons_succ, true_and, and_true, Option.toList_some, Option.toList_none, List.cons_append, List.nil_append, ↓reduceIte, not_false_eq_true, not_true_eq_false, Nat.reduceAdd, xj0_01, xj1_01, xb_B, xb_True, xb_False, ↓xj_in, xj_nat, Int.toNat_natCast, xj_lt_t, xj_lt_f, xj_le_t, xj_le_f, xj_eq_t, xj_eq_f, xj_lt, xj_le, xj_eq, xj_add, xj_sub, xj_mul, show ¬ xj 1 = xj 0 from by decide]
            rw [b163_97, rc_M, true_and]
            refine u_puts (c := opM T n s1.1) (v := 0) (by omega) p4 (by omega) (by omega) (by omega) (fun R5 f5 p5 _ => ?_)
            have nx := ih (s4.1, s4.2.1, s4.2.2 ++ [(opM T n s1.1, 0)]) R5 (.int (xj (mkS (opM T n s1.1) : Nat))) (by show n + 1 ≤ s4.1 + fu; omega) (frP_t fr3 (frP_t f4 f5)) p5 (by show (s4.2.2 ++ [(opM T n s1.1, 0)]).length < s4.1; rw [List.length_append]; show s4.2.2.length + 1 < s4.1; omega) he
            simp (disch := omega) only [b163_100, List.getElem?_cons_zero, List.getElem?_cons_succ, List.length_cons, List.length_nil, List.set_cons_zero, List.set_cons_succ, true_and, and_true, Option.toList_some, Option.toList_none, List.cons_append, List.nil_append, ↓reduceIte, not_false_eq_true, not_true_eq_false, Nat.reduceAdd, xj0_01, xj1_01, xb_B, xb_True, xb_False]
            exact nx
          · have hg : gVal T n (nxT T n s1.1, s1.2) = .inl e := hg
            rw [hg] at he
            have po := hno e he.symm R4 (frP_t fr3 f4) m4
            simp (disch := omega) only [b163_89, b163_92, b163_93, b163_93o, b163_93z, b163_93c, ↓gm_0, ↓gm_1, ↓gm_2, ↓gm_3, ↓gm_4, ↓gm_5, ↓gm_6, ↓gm_7, ↓gm_8, ↓gm_9, ↓gm_10, ↓gm_11, ↓gm_12, ↓gm_13, ↓gm_14, ↓gm_15, ↓gm_16, ↓gm_17, ↓gm_18, ↓gm_19, ↓gm_20, ↓gm_21, ↓gm_22, ↓gm_23, ↓gm_24, ↓gm_25, ↓gm_26, ↓gm_27, ↓gm_28, ↓gm_29, ↓gm_30, ↓gm_31, ↓gm_32, ↓gm_33, ↓gm_34, ↓gm_35, ↓gm_36, ↓gm_37, ↓gm_38, ↓gm_39, ↓gm_40, ↓gm_41, ↓gm_42, ↓gm_43, ↓gm_44, ↓gm_45, ↓gm_46, ↓pm_1, ↓pm_2, ↓pm_8, ↓pm_9, ↓pm_10, ↓pm_11, ↓pm_12, ↓pm_13, ↓pm_14, ↓pm_16, ↓pm_18, ↓pm_21, ↓pm_22, ↓pm_23, ↓pm_24, ↓pm_25, ↓pm_26, ↓pm_28, ↓pm_31, ↓pm_35, ↓pm_36, ↓pm_37, ↓pm_38, ↓pm_40, ↓pm_43, ↓am_0, ↓wm_0, ↓am_3, ↓wm_3, ↓am_4, ↓wm_4, ↓am_5, ↓wm_5, ↓am_6, ↓wm_6, ↓am_7, ↓wm_7, ↓am_15, ↓wm_15, ↓am_17, ↓wm_17, ↓am_19, ↓wm_19, ↓am_20, ↓wm_20, ↓am_27, ↓wm_27, ↓am_29, ↓wm_29, ↓am_30, ↓wm_30, ↓am_32, ↓wm_32, ↓am_33, ↓wm_33, ↓am_34, ↓wm_34, ↓am_39, ↓wm_39, ↓am_41, ↓wm_41, ↓am_42, ↓wm_42, ↓am_44, ↓wm_44, ↓am_45, ↓wm_45, ↓am_46, ↓wm_46, ↓wn_0, ↓wn_46, or_false, false_or, rc_M, List.getElem?_cons_zero, List.getElem?_cons_succ, List.length_cons, List.length_nil, List.set_cons_zero, List.set_cons_succ, true_and, and_true, Option.toList_some, Option.toList_none, List.cons_append, List.nil_append, ↓reduceIte, not_false_eq_true, not_true_eq_false, Nat.reduceAdd, xj0_01, xj1_01, xb_B, xb_True, xb_False, ↓xj_in, xj_nat, Int.toNat_natCast, xj_lt_t, xj_lt_f, xj_le_t, xj_le_f, xj_eq_t, xj_eq_f, xj_lt, xj_le, xj_eq, xj_add, xj_sub, xj_mul, show ¬ xj 1 = xj 0 from by decide]
            exact po
        rcases h1 with ⟨c1, c2⟩ | ⟨c1, c2⟩ | ⟨c1, c2⟩
        · rw [c2, show ((mkS 4 : Nat) : Int) = 4 from rfl] at tail
          rw [c1] at t0
          simp (disch := omega) only [b163_10, b163_13, b163_15, b163_18, b163_19, b163_22, b163_24, b163_27, b163_28, b163_31, b163_33, b163_36, b163_37, b163_40, b163_41, b163_44, b163_45, b163_47, b163_50, b163_51, b163_54, b163_55, b163_58, b163_59, b163_62, b163_63, b163_65, b163_68, b163_69, b163_72, b163_74, b163_75, b163_76, b163_77, b163_80, b163_81, b163_82, ↓gm_0, ↓gm_1, ↓gm_2, ↓gm_3, ↓gm_4, ↓gm_5, ↓gm_6, ↓gm_7, ↓gm_8, ↓gm_9, ↓gm_10, ↓gm_11, ↓gm_12, ↓gm_13, ↓gm_14, ↓gm_15, ↓gm_16, ↓gm_17, ↓gm_18, ↓gm_19, ↓gm_20, ↓gm_21, ↓gm_22, ↓gm_23, ↓gm_24, ↓gm_25, ↓gm_26, ↓gm_27, ↓gm_28, ↓gm_29, ↓gm_30, ↓gm_31, ↓gm_32, ↓gm_33, ↓gm_34, ↓gm_35, ↓gm_36, ↓gm_37, ↓gm_38, ↓gm_39, ↓gm_40, ↓gm_41, ↓gm_42, ↓gm_43, ↓gm_44, ↓gm_45, ↓gm_46, ↓pm_1, ↓pm_2, ↓pm_8, ↓pm_9, ↓pm_10, ↓pm_11, ↓pm_12, ↓pm_13, ↓pm_14, ↓pm_16, ↓pm_18, ↓pm_21, ↓pm_22, ↓pm_23, ↓pm_24, ↓pm_25, ↓pm_26, ↓pm_28, ↓pm_31, ↓pm_35, ↓pm_36, ↓pm_37, ↓pm_38, ↓pm_40, ↓pm_43, ↓am_0, ↓wm_0, ↓am_3, ↓wm_3, ↓am_4, ↓wm_4, ↓am_5, ↓wm_5, ↓am_6, ↓wm_6, ↓am_7, ↓wm_7, ↓am_15, ↓wm_15, ↓am_17, ↓wm_17, ↓am_19, ↓wm_19, ↓am_20, ↓wm_20, ↓am_27, ↓wm_27, ↓am_29, ↓wm_29, ↓am_30, ↓wm_30, ↓am_32, ↓wm_32, ↓am_33, ↓wm_33, ↓am_34, ↓wm_34, ↓am_39, ↓wm_39, ↓am_41, ↓wm_41, ↓am_42, ↓wm_42, ↓am_44, ↓wm_44, ↓am_45, ↓wm_45, ↓am_46, ↓wm_46, ↓wn_0, ↓wn_46, or_false, false_or, rc_M, List.getElem?_cons_zero, List.getElem?_cons_succ, List.length_cons, List.length_nil, List.set_cons_zero, List.set_cons_succ, true_and, and_true, Option.toList_some, Option.toList_none, List.cons_append, List.nil_append, ↓reduceIte, not_false_eq_true, not_true_eq_false, Nat.reduceAdd, xj0_01, xj1_01, xb_B, xb_True, xb_False, ↓xj_in, xj_nat, Int.toNat_natCast, xj_lt_t, xj_lt_f, xj_le_t, xj_le_f, xj_eq_t, xj_eq_f, xj_lt, xj_le, xj_eq, xj_add, xj_sub, xj_mul, show ¬ xj 1 = xj 0 from by decide, tn_add, tn_mul, tn_sub, Int.toNat_natCast, Int.reduceToNat, mS_S, mS_So, mS_A, mS_J, mA_A, mA_Ao, mA_S, mA_J, mJ_J, mJ_Jo, mJ_S, mJ_A, sS_S, sA_A, sS_A, sS_J, sJ_A, m_seeP _ hp1, see2, c1, h82, t0]
          exact tail
        · rw [c2, show ((mkS 5 : Nat) : Int) = 5 from rfl] at tail
          rw [c1] at t0
          simp (disch := omega) only [b163_10, b163_13, b163_15, b163_18, b163_19, b163_22, b163_24, b163_27, b163_28, b163_31, b163_33, b163_36, b163_37, b163_40, b163_41, b163_44, b163_45, b163_47, b163_50, b163_51, b163_54, b163_55, b163_58, b163_59, b163_62, b163_63, b163_65, b163_68, b163_69, b163_72, b163_74, b163_75, b163_76, b163_77, b163_80, b163_81, b163_82, ↓gm_0, ↓gm_1, ↓gm_2, ↓gm_3, ↓gm_4, ↓gm_5, ↓gm_6, ↓gm_7, ↓gm_8, ↓gm_9, ↓gm_10, ↓gm_11, ↓gm_12, ↓gm_13, ↓gm_14, ↓gm_15, ↓gm_16, ↓gm_17, ↓gm_18, ↓gm_19, ↓gm_20, ↓gm_21, ↓gm_22, ↓gm_23, ↓gm_24, ↓gm_25, ↓gm_26, ↓gm_27, ↓gm_28, ↓gm_29, ↓gm_30, ↓gm_31, ↓gm_32, ↓gm_33, ↓gm_34, ↓gm_35, ↓gm_36, ↓gm_37, ↓gm_38, ↓gm_39, ↓gm_40, ↓gm_41, ↓gm_42, ↓gm_43, ↓gm_44, ↓gm_45, ↓gm_46, ↓pm_1, ↓pm_2, ↓pm_8, ↓pm_9, ↓pm_10, ↓pm_11, ↓pm_12, ↓pm_13, ↓pm_14, ↓pm_16, ↓pm_18, ↓pm_21, ↓pm_22, ↓pm_23, ↓pm_24, ↓pm_25, ↓pm_26, ↓pm_28, ↓pm_31, ↓pm_35, ↓pm_36, ↓pm_37, ↓pm_38, ↓pm_40, ↓pm_43, ↓am_0, ↓wm_0, ↓am_3, ↓wm_3, ↓am_4, ↓wm_4, ↓am_5, ↓wm_5, ↓am_6, ↓wm_6, ↓am_7, ↓wm_7, ↓am_15, ↓wm_15, ↓am_17, ↓wm_17, ↓am_19, ↓wm_19, ↓am_20, ↓wm_20, ↓am_27, ↓wm_27, ↓am_29, ↓wm_29, ↓am_30, ↓wm_30, ↓am_32, ↓wm_32, ↓am_33, ↓wm_33, ↓am_34, ↓wm_34, ↓am_39, ↓wm_39, ↓am_41, ↓wm_41, ↓am_42, ↓wm_42, ↓am_44, ↓wm_44, ↓am_45, ↓wm_45, ↓am_46, ↓wm_46, ↓wn_0, ↓wn_46, or_false, false_or, rc_M, List.getElem?_cons_zero, List.getElem?_cons_succ, List.length_cons, List.length_nil, List.set_cons_zero, List.set_cons_succ, true_and, and_true, Option.toList_some, Option.toList_none, List.cons_append, List.nil_append, ↓reduceIte, not_false_eq_true, not_true_eq_false, Nat.reduceAdd, xj0_01, xj1_01, xb_B, xb_True, xb_False, ↓xj_in, xj_nat, Int.toNat_natCast, xj_lt_t, xj_lt_f, xj_le_t, xj_le_f, xj_eq_t, xj_eq_f, xj_lt, xj_le, xj_eq, xj_add, xj_sub, xj_mul, show ¬ xj 1 = xj 0 from by decide, tn_add, tn_mul, tn_sub, Int.toNat_natCast, Int.reduceToNat, mS_S, mS_So, mS_A, mS_J, mA_A, mA_Ao, mA_S, mA_J, mJ_J, mJ_Jo, mJ_S, mJ_A, sS_S, sA_A, sS_A, sS_J, sJ_A, m_seeP _ hp1, see2, c1, h82, t0]
          exact tail
        · rw [c2, show ((mkS 6 : Nat) : Int) = 14 from rfl] at tail
          rw [c1] at t0
          simp (disch := omega) only [b163_10, b163_13, b163_15, b163_18, b163_19, b163_22, b163_24, b163_27, b163_28, b163_31, b163_33, b163_36, b163_37, b163_40, b163_41, b163_44, b163_45, b163_47, b163_50, b163_51, b163_54, b163_55, b163_58, b163_59, b163_62, b163_63, b163_65, b163_68, b163_69, b163_72, b163_74, b163_75, b163_76, b163_77, b163_80, b163_81, b163_82, ↓gm_0, ↓gm_1, ↓gm_2, ↓gm_3, ↓gm_4, ↓gm_5, ↓gm_6, ↓gm_7, ↓gm_8, ↓gm_9, ↓gm_10, ↓gm_11, ↓gm_12, ↓gm_13, ↓gm_14, ↓gm_15, ↓gm_16, ↓gm_17, ↓gm_18, ↓gm_19, ↓gm_20, ↓gm_21, ↓gm_22, ↓gm_23, ↓gm_24, ↓gm_25, ↓gm_26, ↓gm_27, ↓gm_28, ↓gm_29, ↓gm_30, ↓gm_31, ↓gm_32, ↓gm_33, ↓gm_34, ↓gm_35, ↓gm_36, ↓gm_37, ↓gm_38, ↓gm_39, ↓gm_40, ↓gm_41, ↓gm_42, ↓gm_43, ↓gm_44, ↓gm_45, ↓gm_46, ↓pm_1, ↓pm_2, ↓pm_8, ↓pm_9, ↓pm_10, ↓pm_11, ↓pm_12, ↓pm_13, ↓pm_14, ↓pm_16, ↓pm_18, ↓pm_21, ↓pm_22, ↓pm_23, ↓pm_24, ↓pm_25, ↓pm_26, ↓pm_28, ↓pm_31, ↓pm_35, ↓pm_36, ↓pm_37, ↓pm_38, ↓pm_40, ↓pm_43, ↓am_0, ↓wm_0, ↓am_3, ↓wm_3, ↓am_4, ↓wm_4, ↓am_5, ↓wm_5, ↓am_6, ↓wm_6, ↓am_7, ↓wm_7, ↓am_15, ↓wm_15, ↓am_17, ↓wm_17, ↓am_19, ↓wm_19, ↓am_20, ↓wm_20, ↓am_27, ↓wm_27, ↓am_29, ↓wm_29, ↓am_30, ↓wm_30, ↓am_32, ↓wm_32, ↓am_33, ↓wm_33, ↓am_34, ↓wm_34, ↓am_39, ↓wm_39, ↓am_41, ↓wm_41, ↓am_42, ↓wm_42, ↓am_44, ↓wm_44, ↓am_45, ↓wm_45, ↓am_46, ↓wm_46, ↓wn_0, ↓wn_46, or_false, false_or, rc_M, List.getElem?_cons_zero, List.getElem?_cons_succ, List.length_cons, List.length_nil, List.set_cons_zero, List.set_cons_succ, true_and, and_true, Option.toList_some, Option.toList_none, List.cons_append, List.nil_append, ↓reduceIte, not_false_eq_true, not_true_eq_false, Nat.reduceAdd, xj0_01, xj1_01, xb_B, xb_True, xb_False, ↓xj_in, xj_nat, Int.toNat_natCast, xj_lt_t, xj_lt_f, xj_le_t, xj_le_f, xj_eq_t, xj_eq_f, xj_lt, xj_le, xj_eq, xj_add, xj_sub, xj_mul, show ¬ xj 1 = xj 0 from by decide, tn_add, tn_mul, tn_sub, Int.toNat_natCast, Int.reduceToNat, mS_S, mS_So, mS_A, mS_J, mA_A, mA_Ao, mA_S, mA_J, mJ_J, mJ_Jo, mJ_S, mJ_A, sS_S, sA_A, sS_A, sS_J, sJ_A, m_seeP _ hp1, see2, c1, h82, t0]
          exact tail
      · rw [if_pos h2] at he
        have po := hok s1 he.symm (sS R1 8 (s1.1 : Nat)) fr2 hp2
        simp (disch := omega) only [b163_10, b163_13, b163_15, b163_18, b163_19, b163_22, b163_24, b163_27, b163_28, b163_31, b163_33, b163_103, b163_104, b163_104o, b163_104z, b163_104c, ↓gm_0, ↓gm_1, ↓gm_2, ↓gm_3, ↓gm_4, ↓gm_5, ↓gm_6, ↓gm_7, ↓gm_8, ↓gm_9, ↓gm_10, ↓gm_11, ↓gm_12, ↓gm_13, ↓gm_14, ↓gm_15, ↓gm_16, ↓gm_17, ↓gm_18, ↓gm_19, ↓gm_20, ↓gm_21, ↓gm_22, ↓gm_23, ↓gm_24, ↓gm_25, ↓gm_26, ↓gm_27, ↓gm_28, ↓gm_29, ↓gm_30, ↓gm_31, ↓gm_32, ↓gm_33, ↓gm_34, ↓gm_35, ↓gm_36, ↓gm_37, ↓gm_38, ↓gm_39, ↓gm_40, ↓gm_41, ↓gm_42, ↓gm_43, ↓gm_44, ↓gm_45, ↓gm_46, ↓pm_1, ↓pm_2, ↓pm_8, ↓pm_9, ↓pm_10, ↓pm_11, ↓pm_12, ↓pm_13, ↓pm_14, ↓pm_16, ↓pm_18, ↓pm_21, ↓pm_22, ↓pm_23, ↓pm_24, ↓pm_25, ↓pm_26, ↓pm_28, ↓pm_31, ↓pm_35, ↓pm_36, ↓pm_37, ↓pm_38, ↓pm_40, ↓pm_43, ↓am_0, ↓wm_0, ↓am_3, ↓wm_3, ↓am_4, ↓wm_4, ↓am_5, ↓wm_5, ↓am_6, ↓wm_6, ↓am_7, ↓wm_7, ↓am_15, ↓wm_15, ↓am_17, ↓wm_17, ↓am_19, ↓wm_19, ↓am_20, ↓wm_20, ↓am_27, ↓wm_27, ↓am_29, ↓wm_29, ↓am_30, ↓wm_30, ↓am_32, ↓wm_32, ↓am_33, ↓wm_33, ↓am_34, ↓wm_34, ↓am_39, ↓wm_39, ↓am_41, ↓wm_41, ↓am_42, ↓wm_42, ↓am_44, ↓wm_44, ↓am_45, ↓wm_45, ↓am_46, ↓wm_46, ↓wn_0, ↓wn_46, or_false, false_or, rc_M, List.getElem?_cons_zero, List.getElem?_cons_succ, List.length_cons, List.length_nil, List.set_cons_zero, List.set_cons_succ, true_and, and_true, Option.toList_some, Option.toList_none, List.cons_append, List.nil_append, ↓reduceIte, not_false_eq_true, not_true_eq_false, Nat.reduceAdd, xj0_01, xj1_01, xb_B, xb_True, xb_False, ↓xj_in, xj_nat, Int.toNat_natCast, xj_lt_t, xj_lt_f, xj_le_t, xj_le_f, xj_eq_t, xj_eq_f, xj_lt, xj_le, xj_eq, xj_add, xj_sub, xj_mul, show ¬ xj 1 = xj 0 from by decide, m_seeP _ hp1, see2]
        exact po
  simp (disch := omega) only [b163_0]
  rw [b163_1, rc_M, true_and]
  refine u_value (by omega) hp hr (fun s1 hg R1 f1 p1 => ?_) (fun e hg R1 f1 m1 => ?_)
  · obtain ⟨g1, g2, g3, g4⟩ := gVal_rm hn hg
    have lp := loop 401 s1 R1 xk_dd (by omega) f1 p1 (by omega) (by unfold gTerm; rw [hg]; rfl)
    simp (disch := omega) only [b163_4, ↓gm_0, ↓gm_1, ↓gm_2, ↓gm_3, ↓gm_4, ↓gm_5, ↓gm_6, ↓gm_7, ↓gm_8, ↓gm_9, ↓gm_10, ↓gm_11, ↓gm_12, ↓gm_13, ↓gm_14, ↓gm_15, ↓gm_16, ↓gm_17, ↓gm_18, ↓gm_19, ↓gm_20, ↓gm_21, ↓gm_22, ↓gm_23, ↓gm_24, ↓gm_25, ↓gm_26, ↓gm_27, ↓gm_28, ↓gm_29, ↓gm_30, ↓gm_31, ↓gm_32, ↓gm_33, ↓gm_34, ↓gm_35, ↓gm_36, ↓gm_37, ↓gm_38, ↓gm_39, ↓gm_40, ↓gm_41, ↓gm_42, ↓gm_43, ↓gm_44, ↓gm_45, ↓gm_46, ↓pm_1, ↓pm_2, ↓pm_8, ↓pm_9, ↓pm_10, ↓pm_11, ↓pm_12, ↓pm_13, ↓pm_14, ↓pm_16, ↓pm_18, ↓pm_21, ↓pm_22, ↓pm_23, ↓pm_24, ↓pm_25, ↓pm_26, ↓pm_28, ↓pm_31, ↓pm_35, ↓pm_36, ↓pm_37, ↓pm_38, ↓pm_40, ↓pm_43, ↓am_0, ↓wm_0, ↓am_3, ↓wm_3, ↓am_4, ↓wm_4, ↓am_5, ↓wm_5, ↓am_6, ↓wm_6, ↓am_7, ↓wm_7, ↓am_15, ↓wm_15, ↓am_17, ↓wm_17, ↓am_19, ↓wm_19, ↓am_20, ↓wm_20, ↓am_27, ↓wm_27, ↓am_29, ↓wm_29, ↓am_30, ↓wm_30, ↓am_32, ↓wm_32, ↓am_33, ↓wm_33, ↓am_34, ↓wm_34, ↓am_39, ↓wm_39, ↓am_41, ↓wm_41, ↓am_42, ↓wm_42, ↓am_44, ↓wm_44, ↓am_45, ↓wm_45, ↓am_46, ↓wm_46, ↓wn_0, ↓wn_46, or_false, false_or, rc_M, List.getElem?_cons_zero, List.getElem?_cons_succ, List.length_cons, List.length_nil, List.set_cons_zero, List.set_cons_succ, true_and, and_true, Option.toList_some, Option.toList_none, List.cons_append, List.nil_append, ↓reduceIte, not_false_eq_true, not_true_eq_false, Nat.reduceAdd, xj0_01, xj1_01, xb_B, xb_True, xb_False, ↓xj_in, xj_nat, Int.toNat_natCast, xj_lt_t, xj_lt_f, xj_le_t, xj_le_f, xj_eq_t, xj_eq_f, xj_lt, xj_le, xj_eq, xj_add, xj_sub, xj_mul, show ¬ xj 1 = xj 0 from by decide]
    exact lp
  · have po := hno e (by unfold gTerm; rw [hg]; rfl) R1 f1 m1
    simp (disch := omega) only [b163_4, b163_7, b163_8, b163_8o, b163_8z, b163_8c, ↓gm_0, ↓gm_1, ↓gm_2, ↓gm_3, ↓gm_4, ↓gm_5, ↓gm_6, ↓gm_7, ↓gm_8, ↓gm_9, ↓gm_10, ↓gm_11, ↓gm_12, ↓gm_13, ↓gm_14, ↓gm_15, ↓gm_16, ↓gm_17, ↓gm_18, ↓gm_19, ↓gm_20, ↓gm_21, ↓gm_22, ↓gm_23, ↓gm_24, ↓gm_25, ↓gm_26, ↓gm_27, ↓gm_28, ↓gm_29, ↓gm_30, ↓gm_31, ↓gm_32, ↓gm_33, ↓gm_34, ↓gm_35, ↓gm_36, ↓gm_37, ↓gm_38, ↓gm_39, ↓gm_40, ↓gm_41, ↓gm_42, ↓gm_43, ↓gm_44, ↓gm_45, ↓gm_46, ↓pm_1, ↓pm_2, ↓pm_8, ↓pm_9, ↓pm_10, ↓pm_11, ↓pm_12, ↓pm_13, ↓pm_14, ↓pm_16, ↓pm_18, ↓pm_21, ↓pm_22, ↓pm_23, ↓pm_24, ↓pm_25, ↓pm_26, ↓pm_28, ↓pm_31, ↓pm_35, ↓pm_36, ↓pm_37, ↓pm_38, ↓pm_40, ↓pm_43, ↓am_0, ↓wm_0, ↓am_3, ↓wm_3, ↓am_4, ↓wm_4, ↓am_5, ↓wm_5, ↓am_6, ↓wm_6, ↓am_7, ↓wm_7, ↓am_15, ↓wm_15, ↓am_17, ↓wm_17, ↓am_19, ↓wm_19, ↓am_20, ↓wm_20, ↓am_27, ↓wm_27, ↓am_29, ↓wm_29, ↓am_30, ↓wm_30, ↓am_32, ↓wm_32, ↓am_33, ↓wm_33, ↓am_34, ↓wm_34, ↓am_39, ↓wm_39, ↓am_41, ↓wm_41, ↓am_42, ↓wm_42, ↓am_44, ↓wm_44, ↓am_45, ↓wm_45, ↓am_46, ↓wm_46, ↓wn_0, ↓wn_46, or_false, false_or, rc_M, List.getElem?_cons_zero, List.getElem?_cons_succ, List.length_cons, List.length_nil, List.set_cons_zero, List.set_cons_succ, true_and, and_true, Option.toList_some, Option.toList_none, List.cons_append, List.nil_append, ↓reduceIte, not_false_eq_true, not_true_eq_false, Nat.reduceAdd, xj0_01, xj1_01, xb_B, xb_True, xb_False, ↓xj_in, xj_nat, Int.toNat_natCast, xj_lt_t, xj_lt_f, xj_le_t, xj_le_f, xj_eq_t, xj_eq_f, xj_lt, xj_le, xj_eq, xj_add, xj_sub, xj_mul, show ¬ xj 1 = xj 0 from by decide]
    exact po
theorem u_sum (hD : 6 ≤ D) (hp : rP R T n t s) (hr : s.2.2.length < s.1) (hok : ∀ s', gSum T n s = .inr s' → ∀ R', frP t R R' → rP R' T n t s' → K (some (.int (xj 1))) (xm f b R', w)) (hno : ∀ e : Nat, gSum T n s = .inl e → ∀ R', frP t R R' → mS R' 9 = (e : Nat) → K (some (.int (xj 0))) (xm f b R', w)) : xk_Cl D 164 [.ref b] (xm f b R, w) K := by
  rw [e164 (by omega)]
  have hn := hp.1.2.1
  have loop : ∀ (fu : Nat) (s1 : Ps) (R1 : Md) (l1 : Value), n + 1 ≤ s1.1 + fu → frP t R R1 → rP R1 T n t s1 → s1.2.2.length < s1.1 → suF T n fu s1 = gSum T n s → xk_B (D - 1) 164 9 [.ref b, l1] [] (xm f b R1, w) K := by
    intro fu
    induction fu with
    | zero =>
      intro s1 R1 l1 hf fr hp1 hr1 he
      have := (rP_at hp1).1
      omega
    | succ fu ih =>
      intro s1 R1 l1 hf fr hp1 hr1 he
      have ha := rP_at hp1
      have hb := fun (h : s1.1 < n) => rP_b hp1 h
      have sr := seeF_rng hb
      have hp2 : rP (sS R1 8 (s1.1 : Nat)) T n t s1 := rP_8 hp1 ha.1 (at_sk hn ha)
      have h82 : mS (sS R1 8 (s1.1 : Nat)) 8 = (s1.1 : Nat) := mS_S
      have fr2 : frP t R (sS R1 8 (s1.1 : Nat)) := frP_t fr (frP_S (by omega))
      have see2 := fun K => m_see2 (D := D - 1) (f := f) (b := b) (w := w) (K := K) (by omega) hp2.1 h82 ha
      unfold suF at he
      rw [b164_9]
      rcases opS_see (T := T) (n := n) (p := s1.1) hb with ⟨h1, h2, h3, h4⟩ | ⟨h1, h2⟩
      · have hop : opS T n s1.1 ≠ 0 := by omega
        rw [if_neg hop] at he
        obtain ⟨t0, t1, t2⟩ := hp2.1.2.2 s1.1 h2
        have ttb : tb (T s1.1) = T s1.1 := by unfold tb; rw [if_pos (by omega)]
        rw [ttb, h4] at t0
        have hp3 : rP (sS R1 8 (s1.1 + 1 : Nat)) T n t (nxT T n s1.1, s1.2) := rP_8 hp1 (by omega) (by unfold nxT; rw [h3])
        have fr3 : frP t R (sS R1 8 (s1.1 + 1 : Nat)) := frP_t fr (frP_S (by omega))
        obtain ⟨n1, n2, n3⟩ := nx_rng (T := T) hn h2
        have tail : xk_B (D - 1) 164 57 [.ref b, .int (xj (mkS (opS T n s1.1) : Nat))] [] (xm f b (sS R1 8 (s1.1 + 1 : Nat)), w) K := by
          simp (disch := omega) only [b164_57]
          rw [b164_58, rc_M, true_and]
          refine u_term (by omega) hp3 (by show s1.2.2.length < nxT T n s1.1; omega) (fun s4 hg R4 f4 p4 => ?_) (fun e hg R4 f4 m4 => ?_)
          · have hg : gTerm T n (nxT T n s1.1, s1.2) = .inr s4 := hg
            rw [hg] at he
            obtain ⟨⟨_, g2, g3, g4⟩, g1⟩ := gTerm_rm hn hg
            have g1 : nxT T n s1.1 < s4.1 := g1
            have g4 : s4.2.2.length + nxT T n s1.1 ≤ s1.2.2.length + s4.1 := g4
            simp (disch := omega) only [b164_61, b164_64, b164_65, b164_66, b164_67, b164_68, b164_65o, b164_65z, b164_65c, ↓gm_0, ↓gm_1, ↓gm_2, ↓gm_3, ↓gm_4, ↓gm_5, ↓gm_6, ↓gm_7, ↓gm_8, ↓gm_9, ↓gm_10, ↓gm_11, ↓gm_12, ↓gm_13, ↓gm_14, ↓gm_15, ↓gm_16, ↓gm_17, ↓gm_18, ↓gm_19, ↓gm_20, ↓gm_21, ↓gm_22, ↓gm_23, ↓gm_24, ↓gm_25, ↓gm_26, ↓gm_27, ↓gm_28, ↓gm_29, ↓gm_30, ↓gm_31, ↓gm_32, ↓gm_33, ↓gm_34, ↓gm_35, ↓gm_36, ↓gm_37, ↓gm_38, ↓gm_39, ↓gm_40, ↓gm_41, ↓gm_42, ↓gm_43, ↓gm_44, ↓gm_45, ↓gm_46, ↓pm_1, ↓pm_2, ↓pm_8, ↓pm_9, ↓pm_10, ↓pm_11, ↓pm_12, ↓pm_13, ↓pm_14, ↓pm_16, ↓pm_18, ↓pm_21, ↓pm_22, ↓pm_23, ↓pm_24, ↓pm_25, ↓pm_26, ↓pm_28, ↓pm_31, ↓pm_35, ↓pm_36, ↓pm_37, ↓pm_38, ↓pm_40, ↓pm_43, ↓am_0, ↓wm_0, ↓am_3, ↓wm_3, ↓am_4, ↓wm_4, ↓am_5, ↓wm_5, ↓am_6, ↓wm_6, ↓am_7, ↓wm_7, ↓am_15, ↓wm_15, ↓am_17, ↓wm_17, ↓am_19, ↓wm_19, ↓am_20, ↓wm_20, ↓am_27, ↓wm_27, ↓am_29, ↓wm_29, ↓am_30, ↓wm_30, ↓am_32, ↓wm_32, ↓am_33, ↓wm_33, ↓am_34, ↓wm_34, ↓am_39, ↓wm_39, ↓am_41, ↓wm_41, ↓am_42, ↓wm_42, ↓am_44, ↓wm_44, ↓am_45, ↓wm_45, ↓am_46, ↓wm_46, ↓wn_0, ↓wn_46, or_false, false_or, rc_M, List.getElem?_cons_zero, List.getElem?_cons_succ, List.length_cons, List.length_nil, List.set_cons_zero, List.set_cons_succ, true_and, and_true, Option.toList_some, Option.toList_none, List.cons_append, List.nil_append, ↓reduceIte, not_false_eq_true, not_true_eq_false, Nat.reduceAdd, xj0_01, xj1_01, xb_B, xb_True, xb_False, ↓xj_in, xj_nat, Int.toNat_natCast, xj_lt_t, xj_lt_f, xj_le_t, xj_le_f, xj_eq_t, xj_eq_f, xj_lt, xj_le, xj_eq, xj_add, xj_sub, xj_mul, show ¬ xj 1 = xj 0 from by decide]
            rw [b164_69, rc_M, true_and]
            refine u_puts (c := opS T n s1.1) (v := 0) (by omega) p4 (by omega) (by omega) (by omega) (fun R5 f5 p5 _ => ?_)
            have nx := ih (s4.1, s4.2.1, s4.2.2 ++ [(opS T n s1.1, 0)]) R5 (.int (xj (mkS (opS T n s1.1) : Nat))) (by show n + 1 ≤ s4.1 + fu; omega) (frP_t fr3 (frP_t f4 f5)) p5 (by show (s4.2.2 ++ [(opS T n s1.1, 0)]).length < s4.1; rw [List.length_append]; show s4.2.2.length + 1 < s4.1; omega) he
            simp (disch := omega) only [b164_72, List.getElem?_cons_zero, List.getElem?_cons_succ, List.length_cons, List.length_nil, List.set_cons_zero, List.set_cons_succ, true_and, and_true, Option.toList_some, Option.toList_none, List.cons_append, List.nil_append, ↓reduceIte, not_false_eq_true, not_true_eq_false, Nat.reduceAdd, xj0_01, xj1_01, xb_B, xb_True, xb_False]
            exact nx
          · have hg : gTerm T n (nxT T n s1.1, s1.2) = .inl e := hg
            rw [hg] at he
            have po := hno e he.symm R4 (frP_t fr3 f4) m4
            simp (disch := omega) only [b164_61, b164_64, b164_65, b164_65o, b164_65z, b164_65c, ↓gm_0, ↓gm_1, ↓gm_2, ↓gm_3, ↓gm_4, ↓gm_5, ↓gm_6, ↓gm_7, ↓gm_8, ↓gm_9, ↓gm_10, ↓gm_11, ↓gm_12, ↓gm_13, ↓gm_14, ↓gm_15, ↓gm_16, ↓gm_17, ↓gm_18, ↓gm_19, ↓gm_20, ↓gm_21, ↓gm_22, ↓gm_23, ↓gm_24, ↓gm_25, ↓gm_26, ↓gm_27, ↓gm_28, ↓gm_29, ↓gm_30, ↓gm_31, ↓gm_32, ↓gm_33, ↓gm_34, ↓gm_35, ↓gm_36, ↓gm_37, ↓gm_38, ↓gm_39, ↓gm_40, ↓gm_41, ↓gm_42, ↓gm_43, ↓gm_44, ↓gm_45, ↓gm_46, ↓pm_1, ↓pm_2, ↓pm_8, ↓pm_9, ↓pm_10, ↓pm_11, ↓pm_12, ↓pm_13, ↓pm_14, ↓pm_16, ↓pm_18, ↓pm_21, ↓pm_22, ↓pm_23, ↓pm_24, ↓pm_25, ↓pm_26, ↓pm_28, ↓pm_31, ↓pm_35, ↓pm_36, ↓pm_37, ↓pm_38, ↓pm_40, ↓pm_43, ↓am_0, ↓wm_0, ↓am_3, ↓wm_3, ↓am_4, ↓wm_4, ↓am_5, ↓wm_5, ↓am_6, ↓wm_6, ↓am_7, ↓wm_7, ↓am_15, ↓wm_15, ↓am_17, ↓wm_17, ↓am_19, ↓wm_19, ↓am_20, ↓wm_20, ↓am_27, ↓wm_27, ↓am_29, ↓wm_29, ↓am_30, ↓wm_30, ↓am_32, ↓wm_32, ↓am_33, ↓wm_33, ↓am_34, ↓wm_34, ↓am_39, ↓wm_39, ↓am_41, ↓wm_41, ↓am_42, ↓wm_42, ↓am_44, ↓wm_44, ↓am_45, ↓wm_45, ↓am_46, ↓wm_46, ↓wn_0, ↓wn_46, or_false, false_or, rc_M, List.getElem?_cons_zero, List.getElem?_cons_succ, List.length_cons, List.length_nil, List.set_cons_zero, List.set_cons_succ, true_and, and_true, Option.toList_some, Option.toList_none, List.cons_append, List.nil_append, ↓reduceIte, not_false_eq_true, not_true_eq_false, Nat.reduceAdd, xj0_01, xj1_01, xb_B, xb_True, xb_False, ↓xj_in, xj_nat, Int.toNat_natCast, xj_lt_t, xj_lt_f, xj_le_t, xj_le_f, xj_eq_t, xj_eq_f, xj_lt, xj_le, xj_eq, xj_add, xj_sub, xj_mul, show ¬ xj 1 = xj 0 from by decide]
            exact po
        rcases h1 with ⟨c1, c2⟩ | ⟨c1, c2⟩
        · rw [c2, show ((mkS 2 : Nat) : Int) = 2 from rfl] at tail
          rw [c1] at t0
          simp (disch := omega) only [b164_10, b164_13, b164_15, b164_18, b164_19, b164_22, b164_24, b164_27, b164_28, b164_31, b164_32, b164_35, b164_36, b164_38, b164_41, b164_42, b164_45, b164_46, b164_47, b164_48, b164_49, b164_52, b164_53, b164_54, ↓gm_0, ↓gm_1, ↓gm_2, ↓gm_3, ↓gm_4, ↓gm_5, ↓gm_6, ↓gm_7, ↓gm_8, ↓gm_9, ↓gm_10, ↓gm_11, ↓gm_12, ↓gm_13, ↓gm_14, ↓gm_15, ↓gm_16, ↓gm_17, ↓gm_18, ↓gm_19, ↓gm_20, ↓gm_21, ↓gm_22, ↓gm_23, ↓gm_24, ↓gm_25, ↓gm_26, ↓gm_27, ↓gm_28, ↓gm_29, ↓gm_30, ↓gm_31, ↓gm_32, ↓gm_33, ↓gm_34, ↓gm_35, ↓gm_36, ↓gm_37, ↓gm_38, ↓gm_39, ↓gm_40, ↓gm_41, ↓gm_42, ↓gm_43, ↓gm_44, ↓gm_45, ↓gm_46, ↓pm_1, ↓pm_2, ↓pm_8, ↓pm_9, ↓pm_10, ↓pm_11, ↓pm_12, ↓pm_13, ↓pm_14, ↓pm_16, ↓pm_18, ↓pm_21, ↓pm_22, ↓pm_23, ↓pm_24, ↓pm_25, ↓pm_26, ↓pm_28, ↓pm_31, ↓pm_35, ↓pm_36, ↓pm_37, ↓pm_38, ↓pm_40, ↓pm_43, ↓am_0, ↓wm_0, ↓am_3, ↓wm_3, ↓am_4, ↓wm_4, ↓am_5, ↓wm_5, ↓am_6, ↓wm_6, ↓am_7, ↓wm_7, ↓am_15, ↓wm_15, ↓am_17, ↓wm_17, ↓am_19, ↓wm_19, ↓am_20, ↓wm_20, ↓am_27, ↓wm_27, ↓am_29, ↓wm_29, ↓am_30, ↓wm_30, ↓am_32, ↓wm_32, ↓am_33, ↓wm_33, ↓am_34, ↓wm_34, ↓am_39, ↓wm_39, ↓am_41, ↓wm_41, ↓am_42, ↓wm_42, ↓am_44, ↓wm_44, ↓am_45, ↓wm_45, ↓am_46, ↓wm_46, ↓wn_0, ↓wn_46, or_false, false_or, rc_M, List.getElem?_cons_zero, List.getElem?_cons_succ, List.length_cons, List.length_nil, List.set_cons_zero, List.set_cons_succ, true_and, and_true, Option.toList_some, Option.toList_none, List.cons_append, List.nil_append, ↓reduceIte, not_false_eq_true, not_true_eq_false, Nat.reduceAdd, xj0_01, xj1_01, xb_B, xb_True, xb_False, ↓xj_in, xj_nat, Int.toNat_natCast, xj_lt_t, xj_lt_f, xj_le_t, xj_le_f, xj_eq_t, xj_eq_f, xj_lt, xj_le, xj_eq, xj_add, xj_sub, xj_mul, show ¬ xj 1 = xj 0 from by decide, tn_add, tn_mul, tn_sub, Int.toNat_natCast, Int.reduceToNat, mS_S, mS_So, mS_A, mS_J, mA_A, mA_Ao, mA_S, mA_J, mJ_J, mJ_Jo, mJ_S, mJ_A, sS_S, sA_A, sS_A, sS_J, sJ_A, m_seeP _ hp1, see2, c1, h82, t0]
          exact tail
        · rw [c2, show ((mkS 3 : Nat) : Int) = 3 from rfl] at tail
          rw [c1] at t0
          simp (disch := omega) only [b164_10, b164_13, b164_15, b164_18, b164_19, b164_22, b164_24, b164_27, b164_28, b164_31, b164_32, b164_35, b164_36, b164_38, b164_41, b164_42, b164_45, b164_46, b164_47, b164_48, b164_49, b164_52, b164_53, b164_54, ↓gm_0, ↓gm_1, ↓gm_2, ↓gm_3, ↓gm_4, ↓gm_5, ↓gm_6, ↓gm_7, ↓gm_8, ↓gm_9, ↓gm_10, ↓gm_11, ↓gm_12, ↓gm_13, ↓gm_14, ↓gm_15, ↓gm_16, ↓gm_17, ↓gm_18, ↓gm_19, ↓gm_20, ↓gm_21, ↓gm_22, ↓gm_23, ↓gm_24, ↓gm_25, ↓gm_26, ↓gm_27, ↓gm_28, ↓gm_29, ↓gm_30, ↓gm_31, ↓gm_32, ↓gm_33, ↓gm_34, ↓gm_35, ↓gm_36, ↓gm_37, ↓gm_38, ↓gm_39, ↓gm_40, ↓gm_41, ↓gm_42, ↓gm_43, ↓gm_44, ↓gm_45, ↓gm_46, ↓pm_1, ↓pm_2, ↓pm_8, ↓pm_9, ↓pm_10, ↓pm_11, ↓pm_12, ↓pm_13, ↓pm_14, ↓pm_16, ↓pm_18, ↓pm_21, ↓pm_22, ↓pm_23, ↓pm_24, ↓pm_25, ↓pm_26, ↓pm_28, ↓pm_31, ↓pm_35, ↓pm_36, ↓pm_37, ↓pm_38, ↓pm_40, ↓pm_43, ↓am_0, ↓wm_0, ↓am_3, ↓wm_3, ↓am_4, ↓wm_4, ↓am_5, ↓wm_5, ↓am_6, ↓wm_6, ↓am_7, ↓wm_7, ↓am_15, ↓wm_15, ↓am_17, ↓wm_17, ↓am_19, ↓wm_19, ↓am_20, ↓wm_20, ↓am_27, ↓wm_27, ↓am_29, ↓wm_29, ↓am_30, ↓wm_30, ↓am_32, ↓wm_32, ↓am_33, ↓wm_33, ↓am_34, ↓wm_34, ↓am_39, ↓wm_39, ↓am_41, ↓wm_41, ↓am_42, ↓wm_42, ↓am_44, ↓wm_44, ↓am_45, ↓wm_45, ↓am_46, ↓wm_46, ↓wn_0, ↓wn_46, or_false, false_or, rc_M, List.getElem?_cons_zero, List.getElem?_cons_succ, List.length_cons, List.length_nil, List.set_cons_zero, List.set_cons_succ, true_and, and_true, Option.toList_some, Option.toList_none, List.cons_append, List.nil_append, ↓reduceIte, not_false_eq_true, not_true_eq_false, Nat.reduceAdd, xj0_01, xj1_01, xb_B, xb_True, xb_False, ↓xj_in, xj_nat, Int.toNat_natCast, xj_lt_t, xj_lt_f, xj_le_t, xj_le_f, xj_eq_t, xj_eq_f, xj_lt, xj_le, xj_eq, xj_add, xj_sub, xj_mul, show ¬ xj 1 = xj 0 from by decide, tn_add, tn_mul, tn_sub, Int.toNat_natCast, Int.reduceToNat, mS_S, mS_So, mS_A, mS_J, mA_A, mA_Ao, mA_S, mA_J, mJ_J, mJ_Jo, mJ_S, mJ_A, sS_S, sA_A, sS_A, sS_J, sJ_A, m_seeP _ hp1, see2, c1, h82, t0]
          exact tail
      · rw [if_pos h2] at he
        have po := hok s1 he.symm (sS R1 8 (s1.1 : Nat)) fr2 hp2
        simp (disch := omega) only [b164_10, b164_13, b164_15, b164_18, b164_19, b164_22, b164_24, b164_75, b164_76, b164_76o, b164_76z, b164_76c, ↓gm_0, ↓gm_1, ↓gm_2, ↓gm_3, ↓gm_4, ↓gm_5, ↓gm_6, ↓gm_7, ↓gm_8, ↓gm_9, ↓gm_10, ↓gm_11, ↓gm_12, ↓gm_13, ↓gm_14, ↓gm_15, ↓gm_16, ↓gm_17, ↓gm_18, ↓gm_19, ↓gm_20, ↓gm_21, ↓gm_22, ↓gm_23, ↓gm_24, ↓gm_25, ↓gm_26, ↓gm_27, ↓gm_28, ↓gm_29, ↓gm_30, ↓gm_31, ↓gm_32, ↓gm_33, ↓gm_34, ↓gm_35, ↓gm_36, ↓gm_37, ↓gm_38, ↓gm_39, ↓gm_40, ↓gm_41, ↓gm_42, ↓gm_43, ↓gm_44, ↓gm_45, ↓gm_46, ↓pm_1, ↓pm_2, ↓pm_8, ↓pm_9, ↓pm_10, ↓pm_11, ↓pm_12, ↓pm_13, ↓pm_14, ↓pm_16, ↓pm_18, ↓pm_21, ↓pm_22, ↓pm_23, ↓pm_24, ↓pm_25, ↓pm_26, ↓pm_28, ↓pm_31, ↓pm_35, ↓pm_36, ↓pm_37, ↓pm_38, ↓pm_40, ↓pm_43, ↓am_0, ↓wm_0, ↓am_3, ↓wm_3, ↓am_4, ↓wm_4, ↓am_5, ↓wm_5, ↓am_6, ↓wm_6, ↓am_7, ↓wm_7, ↓am_15, ↓wm_15, ↓am_17, ↓wm_17, ↓am_19, ↓wm_19, ↓am_20, ↓wm_20, ↓am_27, ↓wm_27, ↓am_29, ↓wm_29, ↓am_30, ↓wm_30, ↓am_32, ↓wm_32, ↓am_33, ↓wm_33, ↓am_34, ↓wm_34, ↓am_39, ↓wm_39, ↓am_41, ↓wm_41, ↓am_42, ↓wm_42, ↓am_44, ↓wm_44, ↓am_45, ↓wm_45, ↓am_46, ↓wm_46, ↓wn_0, ↓wn_46, or_false, false_or, rc_M, List.getElem?_cons_zero, List.getElem?_cons_succ, List.length_cons, List.length_nil, List.set_cons_zero, List.set_cons_succ, true_and, and_true, Option.toList_some, Option.toList_none, List.cons_append, List.nil_append, ↓reduceIte, not_false_eq_true, not_true_eq_false, Nat.reduceAdd, xj0_01, xj1_01, xb_B, xb_True, xb_False, ↓xj_in, xj_nat, Int.toNat_natCast, xj_lt_t, xj_lt_f, xj_le_t, xj_le_f, xj_eq_t, xj_eq_f, xj_lt, xj_le, xj_eq, xj_add, xj_sub, xj_mul, show ¬ xj 1 = xj 0 from by decide, m_seeP _ hp1, see2]
        exact po
  simp (disch := omega) only [b164_0]
  rw [b164_1, rc_M, true_and]
  refine u_term (by omega) hp hr (fun s1 hg R1 f1 p1 => ?_) (fun e hg R1 f1 m1 => ?_)
  · obtain ⟨⟨_, g2, g3, g4⟩, g1⟩ := gTerm_rm hn hg
    have lp := loop 401 s1 R1 xk_dd (by omega) f1 p1 (by omega) (by unfold gSum; rw [hg]; rfl)
    simp (disch := omega) only [b164_4, ↓gm_0, ↓gm_1, ↓gm_2, ↓gm_3, ↓gm_4, ↓gm_5, ↓gm_6, ↓gm_7, ↓gm_8, ↓gm_9, ↓gm_10, ↓gm_11, ↓gm_12, ↓gm_13, ↓gm_14, ↓gm_15, ↓gm_16, ↓gm_17, ↓gm_18, ↓gm_19, ↓gm_20, ↓gm_21, ↓gm_22, ↓gm_23, ↓gm_24, ↓gm_25, ↓gm_26, ↓gm_27, ↓gm_28, ↓gm_29, ↓gm_30, ↓gm_31, ↓gm_32, ↓gm_33, ↓gm_34, ↓gm_35, ↓gm_36, ↓gm_37, ↓gm_38, ↓gm_39, ↓gm_40, ↓gm_41, ↓gm_42, ↓gm_43, ↓gm_44, ↓gm_45, ↓gm_46, ↓pm_1, ↓pm_2, ↓pm_8, ↓pm_9, ↓pm_10, ↓pm_11, ↓pm_12, ↓pm_13, ↓pm_14, ↓pm_16, ↓pm_18, ↓pm_21, ↓pm_22, ↓pm_23, ↓pm_24, ↓pm_25, ↓pm_26, ↓pm_28, ↓pm_31, ↓pm_35, ↓pm_36, ↓pm_37, ↓pm_38, ↓pm_40, ↓pm_43, ↓am_0, ↓wm_0, ↓am_3, ↓wm_3, ↓am_4, ↓wm_4, ↓am_5, ↓wm_5, ↓am_6, ↓wm_6, ↓am_7, ↓wm_7, ↓am_15, ↓wm_15, ↓am_17, ↓wm_17, ↓am_19, ↓wm_19, ↓am_20, ↓wm_20, ↓am_27, ↓wm_27, ↓am_29, ↓wm_29, ↓am_30, ↓wm_30, ↓am_32, ↓wm_32, ↓am_33, ↓wm_33, ↓am_34, ↓wm_34, ↓am_39, ↓wm_39, ↓am_41, ↓wm_41, ↓am_42, ↓wm_42, ↓am_44, ↓wm_44, ↓am_45, ↓wm_45, ↓am_46, ↓wm_46, ↓wn_0, ↓wn_46, or_false, false_or, rc_M, List.getElem?_cons_zero, List.getElem?_cons_succ, List.length_cons, List.length_nil, List.set_cons_zero, List.set_cons_succ, true_and, and_true, Option.toList_some, Option.toList_none, List.cons_append, List.nil_append, ↓reduceIte, not_false_eq_true, not_true_eq_false, Nat.reduceAdd, xj0_01, xj1_01, xb_B, xb_True, xb_False, ↓xj_in, xj_nat, Int.toNat_natCast, xj_lt_t, xj_lt_f, xj_le_t, xj_le_f, xj_eq_t, xj_eq_f, xj_lt, xj_le, xj_eq, xj_add, xj_sub, xj_mul, show ¬ xj 1 = xj 0 from by decide]
    exact lp
  · have po := hno e (by unfold gSum; rw [hg]; rfl) R1 f1 m1
    simp (disch := omega) only [b164_4, b164_7, b164_8, b164_8o, b164_8z, b164_8c, ↓gm_0, ↓gm_1, ↓gm_2, ↓gm_3, ↓gm_4, ↓gm_5, ↓gm_6, ↓gm_7, ↓gm_8, ↓gm_9, ↓gm_10, ↓gm_11, ↓gm_12, ↓gm_13, ↓gm_14, ↓gm_15, ↓gm_16, ↓gm_17, ↓gm_18, ↓gm_19, ↓gm_20, ↓gm_21, ↓gm_22, ↓gm_23, ↓gm_24, ↓gm_25, ↓gm_26, ↓gm_27, ↓gm_28, ↓gm_29, ↓gm_30, ↓gm_31, ↓gm_32, ↓gm_33, ↓gm_34, ↓gm_35, ↓gm_36, ↓gm_37, ↓gm_38, ↓gm_39, ↓gm_40, ↓gm_41, ↓gm_42, ↓gm_43, ↓gm_44, ↓gm_45, ↓gm_46, ↓pm_1, ↓pm_2, ↓pm_8, ↓pm_9, ↓pm_10, ↓pm_11, ↓pm_12, ↓pm_13, ↓pm_14, ↓pm_16, ↓pm_18, ↓pm_21, ↓pm_22, ↓pm_23, ↓pm_24, ↓pm_25, ↓pm_26, ↓pm_28, ↓pm_31, ↓pm_35, ↓pm_36, ↓pm_37, ↓pm_38, ↓pm_40, ↓pm_43, ↓am_0, ↓wm_0, ↓am_3, ↓wm_3, ↓am_4, ↓wm_4, ↓am_5, ↓wm_5, ↓am_6, ↓wm_6, ↓am_7, ↓wm_7, ↓am_15, ↓wm_15, ↓am_17, ↓wm_17, ↓am_19, ↓wm_19, ↓am_20, ↓wm_20, ↓am_27, ↓wm_27, ↓am_29, ↓wm_29, ↓am_30, ↓wm_30, ↓am_32, ↓wm_32, ↓am_33, ↓wm_33, ↓am_34, ↓wm_34, ↓am_39, ↓wm_39, ↓am_41, ↓wm_41, ↓am_42, ↓wm_42, ↓am_44, ↓wm_44, ↓am_45, ↓wm_45, ↓am_46, ↓wm_46, ↓wn_0, ↓wn_46, or_false, false_or, rc_M, List.getElem?_cons_zero, List.getElem?_cons_succ, List.length_cons, List.length_nil, List.set_cons_zero, List.set_cons_succ, true_and, and_true, Option.toList_some, Option.toList_none, List.cons_append, List.nil_append, ↓reduceIte, not_false_eq_true, not_true_eq_false, Nat.reduceAdd, xj0_01, xj1_01, xb_B, xb_True, xb_False, ↓xj_in, xj_nat, Int.toNat_natCast, xj_lt_t, xj_lt_f, xj_le_t, xj_le_f, xj_eq_t, xj_eq_f, xj_lt, xj_le, xj_eq, xj_add, xj_sub, xj_mul, show ¬ xj 1 = xj 0 from by decide]
    exact po
end XS75
