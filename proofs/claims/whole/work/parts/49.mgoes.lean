/-! the model looks through rows -/
def frM (R R' : Md) : Prop := (∀ j, (j < 23 ∨ (26 < j ∧ j < 35) ∨ 38 < j) → mS R' j = mS R j) ∧ (∀ j, (j < 20 ∨ (20 < j ∧ j < 32) ∨ 34 < j) → mA R' j = mA R j) ∧ (∀ i, (i < 10 ∨ 32 ≤ i) → mA R' 20 i = mA R 20 i) ∧ ∀ j, mJ R' j = mJ R j
def frV (R R' : Md) : Prop := (∀ j, (j < 35 ∨ 38 < j) → mS R' j = mS R j) ∧ (∀ j, j ≠ 34 → mA R' j = mA R j) ∧ ∀ j, mJ R' j = mJ R j
theorem frM_t {R R' R'' : Md} (h : frM R R') (h' : frM R' R'') : frM R R'' :=
  ⟨fun j q => (h'.1 j q).trans (h.1 j q), fun j q => (h'.2.1 j q).trans (h.2.1 j q), fun j q => (h'.2.2.1 j q).trans (h.2.2.1 j q), fun j => (h'.2.2.2 j).trans (h.2.2.2 j)⟩
theorem frV_M {R R' : Md} (h : frV R R') : frM R R' :=
  ⟨fun j q => h.1 j (by omega), fun j q => h.2.1 j (by omega), fun i q => by rw [h.2.1 20 (by decide)], h.2.2⟩
theorem frM_reck {R : Md} {O : Of} {d : Dy} {p : Nat} : frM R (reckR R O d p) := by
  refine ⟨fun j q => ?_, fun j q => ?_, fun i q => ?_, fun j => ?_⟩
  · exact rk_S (by omega)
  · rfl
  · rfl
  · rfl
theorem frM_can {R : Md} {O : Of} {d : Dy} {p : Nat} : frM R (canR R O d p) := by
  unfold canR
  split
  · exact ⟨fun _ _ => rfl, fun _ _ => rfl, fun _ _ => rfl, fun _ => rfl⟩
  · exact frM_reck
theorem frM_20 {R : Md} {h : Nat → Int} (e : ∀ i, (i < 10 ∨ 32 ≤ i) → h i = mA R 20 i) : frM R (sA R 20 h) :=
  ⟨fun _ _ => rfl, fun j q => mA_Ao (by omega), fun i q => by rw [mA_A]; exact e i q, fun _ => rfl⟩
theorem frM_A {R : Md} {h : Nat → Int} {j : Nat} (e : 31 < j ∧ j < 35) : frM R (sA R j h) :=
  ⟨fun _ _ => rfl, fun i q => mA_Ao (by omega), fun i q => by rw [mA_Ao (by omega)], fun _ => rfl⟩
theorem frM_sign {R : Md} {O : Of} {d : Dy} {p q : Nat} (hp : p < 6) : frM R (signR R O d p q) := by
  refine frM_20 (fun i h => ?_)
  unfold signG
  rw [up_n (by omega), up_n (by omega), up_n (by omega), up_n (by omega), up_n (by omega), up_n (by omega)]
theorem rK_lay2 {R : Md} {O : Of} {d : Dy} (hw : xw_Off O) (ho : rO (mA R 20) O) {g : Nat → Int} {off : Nat} (hb : rB g off O d) : rK (sA R 20 (cpI (mA R 20) g 10 off 22)) O d := by
  refine ⟨hw, hb.1, ?_, ?_⟩
  · rw [mA_A]
    refine rO_ext hw (fun i hi => ?_) ho
    unfold cpI
    rw [if_neg (by omega)]
  · rw [mA_A]
    refine rD_ext hw (fun i h1 h2 => ?_) hb.2
    unfold cpI
    rw [if_pos (by omega)]
theorem sg_S {R : Md} {O : Of} {d : Dy} {p q j : Nat} : mS (signR R O d p q) j = mS R j := rfl
theorem can_S {R : Md} {O : Of} {d : Dy} {p j : Nat} (h : j < 23 ∨ 26 < j) : mS (canR R O d p) j = mS R j := by
  unfold canR
  split
  · rfl
  · exact rk_S h
theorem can_A {R : Md} {O : Of} {d : Dy} {p j : Nat} : mA (canR R O d p) j = mA R j := by
  unfold canR
  split <;> rfl
def goP {A : Type} (acc : Md → A → Prop) (ok : Dy → Nat → Bool) (V : Nat → Dy → (Nat → Int) → A → A) (D b : Nat) (f : Nat → xk_C) (w : Nat × Nat × Nat) (K : Option Value → xk_S → Prop) (O : Of) (q s : Nat) (c l : Int) (n : Nat) : Prop :=
  ∀ (k : Nat) (d : Dy) (row : Nat → Int) (a1 : A), k + n = 6 → k ≤ sgnN O d → ∀ (m j : Nat) (R : Md) (l5 : Value), j + m = of_np O → rO (mA R 20) O → mS R 22 = (q : Nat) → rB (mA R 33) (22 * k) O d → (∀ i, i < k → mA R 32 i = row i) → mA R 32 k = (j : Int) - 1 → acc R (itF (gnF ok (fun d p => writeD O d p q) V (of_np O) n k d row) j a1) →
      (∀ R' l5, frM R R' → (∀ i, i < 22 * (k + 1) → mA R' 33 i = mA R 33 i) → (∀ i, i < k → mA R' 32 i = mA R 32 i) → acc R' (itF (gnF ok (fun d p => writeD O d p q) V (of_np O) n k d row) (of_np O) a1) → xk_B (D - 1) 227 44 [.ref b, .int (xj s), .int (xj c), .int (xj l), .int (xj ((k : Int) + -1)), l5] [] (xm f b R', w) K) →
      xk_B (D - 1) 227 44 [.ref b, .int (xj s), .int (xj c), .int (xj l), .int (xj k), l5] [] (xm f b R, w) K
section XS49
variable {D b k p q s N : Nat} {f : Nat → xk_C} {w : Nat × Nat × Nat} {K : Option Value → xk_S → Prop} {O : Of} {d : Dy} {R : Md} {c m n x y z : Int}
theorem u_goIn {A : Type} {acc : Md → A → Prop} {ok : Dy → Nat → Bool} {V : Nat → Dy → (Nat → Int) → A → A} {l : Int} (hD : 6 ≤ D) (hw : xw_Off O) (hs : s < 2147483648) (hq : q < 2147483648) (hl : l = 0 ∨ l = 1)
    (hok : ∀ d p, ok d p = (s.testBit p && canF O d p && (decide (l = 1) || !voidB O d p q)))
    (hext : ∀ R R' a, (∀ j, 35 ≤ j → j ≤ 38 → mS R' j = mS R j) → mA R' 34 = mA R 34 → acc R a → acc R' a)
    (hv : ∀ (R : Md) (k p : Nat) (d : Dy) (row : Nat → Int) (a : A), k < 6 → rK R O d → (∀ i, i < k + 1 → mA R 32 i = row i) → acc R a → (∀ R', frV R R' → acc R' (V (k + 1) d row a) → xk_B (D - 1) 227 157 [.ref b, .int (xj s), .int (xj c), .int (xj l), .int (xj k), .int (xj p)] [] (xm f b R', w) K) → xk_B (D - 1) 227 132 [.ref b, .int (xj s), .int (xj c), .int (xj l), .int (xj k), .int (xj p)] [] (xm f b R, w) K)
    (n : Nat) (hch : ∀ n', n = n' + 1 → goP acc ok V D b f w K O q s c l n') : goP acc ok V D b f w K O q s c l n := by
  have hn := hw.2.2.2.1
  intro k d row a1 hkn hkd m
  induction m with
  | zero =>
    intro j R l5 hj ho h22 hB hrow hrk hacc post
    have hj : j = of_np O := by omega
    subst hj
    have o5 : mA R 20 5 = of_np O := ho.2.2.2.2.2.1
    have c5 : cpI (mA R 20) (mA R 33) 10 (22 * k) 22 5 = mA R 20 5 := by unfold cpI; rw [if_neg (by omega)]
    have p1 := post (sA (sA R 20 (cpI (mA R 20) (mA R 33) 10 (22 * k) 22)) 32 (upI (mA R 32) k (of_np O))) (.int (xj (of_np O))) (frM_t (frM_20 (fun i h => by unfold cpI; rw [if_neg (by omega)])) (frM_A (by omega))) (fun i _ => by simp (disch := omega) only [mS_S, mS_So, mS_A, mS_J, mA_A, mA_Ao, mA_S, mA_J, mJ_J, mJ_Jo, mJ_S, mJ_A, sS_S, sA_A, sS_A, sS_J, sJ_A]) (fun i hi => by simp (disch := omega) only [mS_S, mS_So, mS_A, mS_J, mA_A, mA_Ao, mA_S, mA_J, mJ_J, mJ_Jo, mJ_S, mJ_A, sS_S, sA_A, sS_A, sS_J, sJ_A, up_n]) (hext R _ _ (fun _ _ _ => rfl) (by simp (disch := omega) only [mS_S, mS_So, mS_A, mS_J, mA_A, mA_Ao, mA_S, mA_J, mJ_J, mJ_Jo, mJ_S, mJ_A, sS_S, sA_A, sS_A, sS_J, sJ_A]) hacc)
    have e1 : (of_np O : Int) - 1 + 1 = of_np O := by omega
    rw [b227_44]
    simp (disch := omega) only [b227_46, b227_49, b227_50, b227_52, b227_55, b227_56, b227_59, b227_61, b227_62, b227_63, b227_64, b227_65, b227_66, b227_67, b227_70, b227_72, b227_73, b227_75, b227_77, b227_78, b227_81, b227_82, b227_83, b227_86, b227_89, ↓gm_0, ↓gm_1, ↓gm_2, ↓gm_3, ↓gm_4, ↓gm_5, ↓gm_6, ↓gm_7, ↓gm_8, ↓gm_9, ↓gm_10, ↓gm_11, ↓gm_12, ↓gm_13, ↓gm_14, ↓gm_15, ↓gm_16, ↓gm_17, ↓gm_18, ↓gm_19, ↓gm_20, ↓gm_21, ↓gm_22, ↓gm_23, ↓gm_24, ↓gm_25, ↓gm_26, ↓gm_27, ↓gm_28, ↓gm_29, ↓gm_30, ↓gm_31, ↓gm_32, ↓gm_33, ↓gm_34, ↓gm_35, ↓gm_36, ↓gm_37, ↓gm_38, ↓gm_39, ↓gm_40, ↓gm_41, ↓gm_42, ↓gm_43, ↓gm_44, ↓gm_45, ↓gm_46, ↓pm_1, ↓pm_2, ↓pm_8, ↓pm_9, ↓pm_10, ↓pm_11, ↓pm_12, ↓pm_13, ↓pm_14, ↓pm_16, ↓pm_18, ↓pm_21, ↓pm_22, ↓pm_23, ↓pm_24, ↓pm_25, ↓pm_26, ↓pm_28, ↓pm_31, ↓pm_35, ↓pm_36, ↓pm_37, ↓pm_38, ↓pm_40, ↓pm_43, ↓am_0, ↓wm_0, ↓am_3, ↓wm_3, ↓am_4, ↓wm_4, ↓am_5, ↓wm_5, ↓am_6, ↓wm_6, ↓am_7, ↓wm_7, ↓am_15, ↓wm_15, ↓am_17, ↓wm_17, ↓am_19, ↓wm_19, ↓am_20, ↓wm_20, ↓am_27, ↓wm_27, ↓am_29, ↓wm_29, ↓am_30, ↓wm_30, ↓am_32, ↓wm_32, ↓am_33, ↓wm_33, ↓am_34, ↓wm_34, ↓am_39, ↓wm_39, ↓am_41, ↓wm_41, ↓am_42, ↓wm_42, ↓am_44, ↓wm_44, ↓am_45, ↓wm_45, ↓am_46, ↓wm_46, ↓wn_0, ↓wn_46, or_false, false_or, rc_M, List.getElem?_cons_zero, List.getElem?_cons_succ, List.length_cons, List.length_nil, List.set_cons_zero, List.set_cons_succ, true_and, and_true, Option.toList_some, Option.toList_none, List.cons_append, List.nil_append, ↓reduceIte, not_false_eq_true, not_true_eq_false, Nat.reduceAdd, xj0_01, xj1_01, xb_B, xb_True, xb_False, ↓xj_in, xj_nat, Int.toNat_natCast, xj_lt_t, xj_lt_f, xj_le_t, xj_le_f, xj_eq_t, xj_eq_f, xj_lt, xj_le, xj_eq, xj_add, xj_sub, xj_mul, show ¬ xj 1 = xj 0 from by decide, tn_add, tn_mul, tn_sub, Int.toNat_natCast, Int.reduceToNat, mS_S, mS_So, mS_A, mS_J, mA_A, mA_Ao, mA_S, mA_J, mJ_J, mJ_Jo, mJ_S, mJ_A, sS_S, sA_A, sS_A, sS_J, sJ_A, m_laysPlace, hrk, e1, up_e, c5, o5]
    exact p1
  | succ m ihm =>
    intro j R l5 hj ho h22 hB hrow hrk hacc post
    have hjn : j < of_np O := by omega
    have o5 : mA R 20 5 = of_np O := ho.2.2.2.2.2.1
    have c5 : cpI (mA R 20) (mA R 33) 10 (22 * k) 22 5 = mA R 20 5 := by unfold cpI; rw [if_neg (by omega)]
    have e1 : (j : Int) - 1 + 1 = j := by omega
    have hR1 : frM R (sA (sA R 20 (cpI (mA R 20) (mA R 33) 10 (22 * k) 22)) 32 (upI (mA R 32) k j)) := frM_t (frM_20 (fun i h => by unfold cpI; rw [if_neg (by omega)])) (frM_A (by omega))
    have hr1 : rK (sA (sA R 20 (cpI (mA R 20) (mA R 33) 10 (22 * k) 22)) 32 (upI (mA R 32) k j)) O d := rK_of (by simp (disch := omega) only [mS_S, mS_So, mS_A, mS_J, mA_A, mA_Ao, mA_S, mA_J, mJ_J, mJ_Jo, mJ_S, mJ_A, sS_S, sA_A, sS_A, sS_J, sJ_A]) (rK_lay2 hw ho hB)
    have h1_33 : mA (sA (sA R 20 (cpI (mA R 20) (mA R 33) 10 (22 * k) 22)) 32 (upI (mA R 32) k j)) 33 = mA R 33 := by simp (disch := omega) only [mS_S, mS_So, mS_A, mS_J, mA_A, mA_Ao, mA_S, mA_J, mJ_J, mJ_Jo, mJ_S, mJ_A, sS_S, sA_A, sS_A, sS_J, sJ_A]
    have h1_32 : mA (sA (sA R 20 (cpI (mA R 20) (mA R 33) 10 (22 * k) 22)) 32 (upI (mA R 32) k j)) 32 = upI (mA R 32) k j := mA_A
    have h1_22 : mS (sA (sA R 20 (cpI (mA R 20) (mA R 33) 10 (22 * k) 22)) 32 (upI (mA R 32) k j)) 22 = (q : Nat) := h22
    have acc1 : acc (sA (sA R 20 (cpI (mA R 20) (mA R 33) 10 (22 * k) 22)) 32 (upI (mA R 32) k j)) (itF (gnF ok (fun d p => writeD O d p q) V (of_np O) n k d row) j a1) := hext R _ _ (fun _ _ _ => rfl) (by simp (disch := omega) only [mS_S, mS_So, mS_A, mS_J, mA_A, mA_Ao, mA_S, mA_J, mJ_J, mJ_Jo, mJ_S, mJ_A, sS_S, sA_A, sS_A, sS_J, sJ_A]) hacc
    rw [b227_44]
    simp (disch := omega) only [b227_46, b227_49, b227_50, b227_52, b227_55, b227_56, b227_59, b227_61, b227_62, b227_63, b227_64, b227_65, b227_66, b227_67, b227_70, b227_72, b227_73, b227_75, b227_77, b227_78, b227_81, b227_82, b227_83, ↓gm_0, ↓gm_1, ↓gm_2, ↓gm_3, ↓gm_4, ↓gm_5, ↓gm_6, ↓gm_7, ↓gm_8, ↓gm_9, ↓gm_10, ↓gm_11, ↓gm_12, ↓gm_13, ↓gm_14, ↓gm_15, ↓gm_16, ↓gm_17, ↓gm_18, ↓gm_19, ↓gm_20, ↓gm_21, ↓gm_22, ↓gm_23, ↓gm_24, ↓gm_25, ↓gm_26, ↓gm_27, ↓gm_28, ↓gm_29, ↓gm_30, ↓gm_31, ↓gm_32, ↓gm_33, ↓gm_34, ↓gm_35, ↓gm_36, ↓gm_37, ↓gm_38, ↓gm_39, ↓gm_40, ↓gm_41, ↓gm_42, ↓gm_43, ↓gm_44, ↓gm_45, ↓gm_46, ↓pm_1, ↓pm_2, ↓pm_8, ↓pm_9, ↓pm_10, ↓pm_11, ↓pm_12, ↓pm_13, ↓pm_14, ↓pm_16, ↓pm_18, ↓pm_21, ↓pm_22, ↓pm_23, ↓pm_24, ↓pm_25, ↓pm_26, ↓pm_28, ↓pm_31, ↓pm_35, ↓pm_36, ↓pm_37, ↓pm_38, ↓pm_40, ↓pm_43, ↓am_0, ↓wm_0, ↓am_3, ↓wm_3, ↓am_4, ↓wm_4, ↓am_5, ↓wm_5, ↓am_6, ↓wm_6, ↓am_7, ↓wm_7, ↓am_15, ↓wm_15, ↓am_17, ↓wm_17, ↓am_19, ↓wm_19, ↓am_20, ↓wm_20, ↓am_27, ↓wm_27, ↓am_29, ↓wm_29, ↓am_30, ↓wm_30, ↓am_32, ↓wm_32, ↓am_33, ↓wm_33, ↓am_34, ↓wm_34, ↓am_39, ↓wm_39, ↓am_41, ↓wm_41, ↓am_42, ↓wm_42, ↓am_44, ↓wm_44, ↓am_45, ↓wm_45, ↓am_46, ↓wm_46, ↓wn_0, ↓wn_46, or_false, false_or, rc_M, List.getElem?_cons_zero, List.getElem?_cons_succ, List.length_cons, List.length_nil, List.set_cons_zero, List.set_cons_succ, true_and, and_true, Option.toList_some, Option.toList_none, List.cons_append, List.nil_append, ↓reduceIte, not_false_eq_true, not_true_eq_false, Nat.reduceAdd, xj0_01, xj1_01, xb_B, xb_True, xb_False, ↓xj_in, xj_nat, Int.toNat_natCast, xj_lt_t, xj_lt_f, xj_le_t, xj_le_f, xj_eq_t, xj_eq_f, xj_lt, xj_le, xj_eq, xj_add, xj_sub, xj_mul, show ¬ xj 1 = xj 0 from by decide, tn_add, tn_mul, tn_sub, Int.toNat_natCast, Int.reduceToNat, mS_S, mS_So, mS_A, mS_J, mA_A, mA_Ao, mA_S, mA_J, mJ_J, mJ_Jo, mJ_S, mJ_A, sS_S, sA_A, sS_A, sS_J, sJ_A, m_laysPlace, hrk, e1, up_e, c5, o5]
    generalize sA (sA R 20 (cpI (mA R 20) (mA R 33) 10 (22 * k) 22)) 32 (upI (mA R 32) k j) = R1 at hR1 hr1 h1_33 h1_32 h1_22 acc1
    -- on with the next paper
    have next : ∀ (R2 : Md) (l5 : Value), frM R1 R2 → (∀ i, i < 22 * (k + 1) → mA R2 33 i = mA R1 33 i) → (∀ i, i < k + 1 → mA R2 32 i = mA R1 32 i) → acc R2 (itF (gnF ok (fun d p => writeD O d p q) V (of_np O) n k d row) (j + 1) a1) → xk_B (D - 1) 227 44 [.ref b, .int (xj s), .int (xj c), .int (xj l), .int (xj k), l5] [] (xm f b R2, w) K := by
      intro R2 l5 f2 h33 h32 a2
      refine ihm (j + 1) R2 _ (by omega) (rO_ext hw (fun i hi => f2.2.2.1 i (by omega)) hr1.2.2.1) ((f2.1 22 (by omega)).trans h1_22) (rB_ext hw (fun i hi => ?_) hB) (fun i hi => ?_) ?_ a2 (fun R' l5 g1 g2 g3 g4 => ?_)
      · rw [h33 _ (by omega), h1_33]
      · rw [h32 i (by omega), h1_32, up_n (by omega)]; exact hrow i hi
      · rw [h32 k (by omega), h1_32, up_e]; omega
      · refine post R' l5 (frM_t hR1 (frM_t f2 g1)) (fun i hi => ?_) (fun i hi => ?_) g4
        · rw [g2 i hi, h33 i (by omega), h1_33]
        · rw [g3 i hi, h32 i (by omega), h1_32, up_n (by omega)]
    have skip : ok d j = false → itF (gnF ok (fun d p => writeD O d p q) V (of_np O) n k d row) (j + 1) a1 = itF (gnF ok (fun d p => writeD O d p q) V (of_np O) n k d row) j a1 := by
      intro h
      show gnF ok (fun d p => writeD O d p q) V (of_np O) n k d row _ j = _
      unfold gnF
      rw [h]
      rfl
    cases hb1 : s.testBit j
    · have hno : ok d j = false := by rw [hok, hb1]; rfl
      have nx := next R1 (.int (xj j)) ⟨fun _ _ => rfl, fun _ _ => rfl, fun _ _ => rfl, fun _ => rfl⟩ (fun _ _ => rfl) (fun _ _ => rfl) (by rw [skip hno]; exact acc1)
      simp (disch := omega) only [b227_92, b227_93, b227_95, b227_98, ↓gm_0, ↓gm_1, ↓gm_2, ↓gm_3, ↓gm_4, ↓gm_5, ↓gm_6, ↓gm_7, ↓gm_8, ↓gm_9, ↓gm_10, ↓gm_11, ↓gm_12, ↓gm_13, ↓gm_14, ↓gm_15, ↓gm_16, ↓gm_17, ↓gm_18, ↓gm_19, ↓gm_20, ↓gm_21, ↓gm_22, ↓gm_23, ↓gm_24, ↓gm_25, ↓gm_26, ↓gm_27, ↓gm_28, ↓gm_29, ↓gm_30, ↓gm_31, ↓gm_32, ↓gm_33, ↓gm_34, ↓gm_35, ↓gm_36, ↓gm_37, ↓gm_38, ↓gm_39, ↓gm_40, ↓gm_41, ↓gm_42, ↓gm_43, ↓gm_44, ↓gm_45, ↓gm_46, ↓pm_1, ↓pm_2, ↓pm_8, ↓pm_9, ↓pm_10, ↓pm_11, ↓pm_12, ↓pm_13, ↓pm_14, ↓pm_16, ↓pm_18, ↓pm_21, ↓pm_22, ↓pm_23, ↓pm_24, ↓pm_25, ↓pm_26, ↓pm_28, ↓pm_31, ↓pm_35, ↓pm_36, ↓pm_37, ↓pm_38, ↓pm_40, ↓pm_43, ↓am_0, ↓wm_0, ↓am_3, ↓wm_3, ↓am_4, ↓wm_4, ↓am_5, ↓wm_5, ↓am_6, ↓wm_6, ↓am_7, ↓wm_7, ↓am_15, ↓wm_15, ↓am_17, ↓wm_17, ↓am_19, ↓wm_19, ↓am_20, ↓wm_20, ↓am_27, ↓wm_27, ↓am_29, ↓wm_29, ↓am_30, ↓wm_30, ↓am_32, ↓wm_32, ↓am_33, ↓wm_33, ↓am_34, ↓wm_34, ↓am_39, ↓wm_39, ↓am_41, ↓wm_41, ↓am_42, ↓wm_42, ↓am_44, ↓wm_44, ↓am_45, ↓wm_45, ↓am_46, ↓wm_46, ↓wn_0, ↓wn_46, or_false, false_or, rc_M, List.getElem?_cons_zero, List.getElem?_cons_succ, List.length_cons, List.length_nil, List.set_cons_zero, List.set_cons_succ, true_and, and_true, Option.toList_some, Option.toList_none, List.cons_append, List.nil_append, ↓reduceIte, not_false_eq_true, not_true_eq_false, Nat.reduceAdd, xj0_01, xj1_01, xb_B, xb_True, xb_False, ↓xj_in, xj_nat, Int.toNat_natCast, xj_lt_t, xj_lt_f, xj_le_t, xj_le_f, xj_eq_t, xj_eq_f, xj_lt, xj_le, xj_eq, xj_add, xj_sub, xj_mul, show ¬ xj 1 = xj 0 from by decide, s_isOf _ hs, hb1, Bool.false_eq_true, xb_F]
      exact nx
    · have f12 : frM R1 (canR R1 O d j) := frM_can
      have h2_33 : mA (canR R1 O d j) 33 = mA R1 33 := can_A
      have h2_32 : mA (canR R1 O d j) 32 = mA R1 32 := can_A
      have acc2 : acc (canR R1 O d j) (itF (gnF ok (fun d p => writeD O d p q) V (of_np O) n k d row) j a1) := hext R1 _ _ (fun i _ _ => can_S (by omega)) can_A acc1
      cases hb2 : canF O d j
      · have hno : ok d j = false := by rw [hok, hb1, hb2]; rfl
        have nx := next (canR R1 O d j) (.int (xj j)) f12 (fun _ _ => by rw [h2_33]) (fun _ _ => by rw [h2_32]) (by rw [skip hno]; exact acc2)
        simp (disch := omega) only [b227_92, b227_93, b227_95, b227_98, b227_101, b227_102, b227_104, b227_107, ↓gm_0, ↓gm_1, ↓gm_2, ↓gm_3, ↓gm_4, ↓gm_5, ↓gm_6, ↓gm_7, ↓gm_8, ↓gm_9, ↓gm_10, ↓gm_11, ↓gm_12, ↓gm_13, ↓gm_14, ↓gm_15, ↓gm_16, ↓gm_17, ↓gm_18, ↓gm_19, ↓gm_20, ↓gm_21, ↓gm_22, ↓gm_23, ↓gm_24, ↓gm_25, ↓gm_26, ↓gm_27, ↓gm_28, ↓gm_29, ↓gm_30, ↓gm_31, ↓gm_32, ↓gm_33, ↓gm_34, ↓gm_35, ↓gm_36, ↓gm_37, ↓gm_38, ↓gm_39, ↓gm_40, ↓gm_41, ↓gm_42, ↓gm_43, ↓gm_44, ↓gm_45, ↓gm_46, ↓pm_1, ↓pm_2, ↓pm_8, ↓pm_9, ↓pm_10, ↓pm_11, ↓pm_12, ↓pm_13, ↓pm_14, ↓pm_16, ↓pm_18, ↓pm_21, ↓pm_22, ↓pm_23, ↓pm_24, ↓pm_25, ↓pm_26, ↓pm_28, ↓pm_31, ↓pm_35, ↓pm_36, ↓pm_37, ↓pm_38, ↓pm_40, ↓pm_43, ↓am_0, ↓wm_0, ↓am_3, ↓wm_3, ↓am_4, ↓wm_4, ↓am_5, ↓wm_5, ↓am_6, ↓wm_6, ↓am_7, ↓wm_7, ↓am_15, ↓wm_15, ↓am_17, ↓wm_17, ↓am_19, ↓wm_19, ↓am_20, ↓wm_20, ↓am_27, ↓wm_27, ↓am_29, ↓wm_29, ↓am_30, ↓wm_30, ↓am_32, ↓wm_32, ↓am_33, ↓wm_33, ↓am_34, ↓wm_34, ↓am_39, ↓wm_39, ↓am_41, ↓wm_41, ↓am_42, ↓wm_42, ↓am_44, ↓wm_44, ↓am_45, ↓wm_45, ↓am_46, ↓wm_46, ↓wn_0, ↓wn_46, or_false, false_or, rc_M, List.getElem?_cons_zero, List.getElem?_cons_succ, List.length_cons, List.length_nil, List.set_cons_zero, List.set_cons_succ, true_and, and_true, Option.toList_some, Option.toList_none, List.cons_append, List.nil_append, ↓reduceIte, not_false_eq_true, not_true_eq_false, Nat.reduceAdd, xj0_01, xj1_01, xb_B, xb_True, xb_False, ↓xj_in, xj_nat, Int.toNat_natCast, xj_lt_t, xj_lt_f, xj_le_t, xj_le_f, xj_eq_t, xj_eq_f, xj_lt, xj_le, xj_eq, xj_add, xj_sub, xj_mul, show ¬ xj 1 = xj 0 from by decide, s_isOf _ hs, hb1, xb_T, m_canSign _ hr1 hjn, hb2, Bool.false_eq_true, xb_F]
        exact nx
      · have hg0 := rG_reck (R := R1) (O := O) (d := d) (p := j) h1_22 hq
        rw [can_reck hjn hb2] at f12 h2_33 h2_32 acc2
        have hr2 : rK (reckR R1 O d j) O d := rK_reck hr1
        have sign : ok d j = true → xk_B (D - 1) 227 126 [.ref b, .int (xj s), .int (xj c), .int (xj l), .int (xj k), .int (xj j)] [] (xm f b (reckR R1 O d j), w) K := by
          intro hyes
          have hr3 := rK_sign (q := q) hr2 hjn hb2
          have hsg := sgn_up (q := q) hjn hb2
          have hn6 : sgnN O (writeD O d j q) ≤ of_np O := cnt_le _ _
          obtain ⟨n', rfl⟩ : ∃ n', n = n' + 1 := ⟨n - 1, by omega⟩
          have f23 : frM (reckR R1 O d j) (signR (reckR R1 O d j) O d j q) := frM_sign (by omega)
          have h3_33 : mA (signR (reckR R1 O d j) O d j q) 33 = mA (reckR R1 O d j) 33 := mA_Ao (by decide)
          have h3_32 : mA (signR (reckR R1 O d j) O d j q) 32 = mA (reckR R1 O d j) 32 := mA_Ao (by decide)
          have acc3 : acc (signR (reckR R1 O d j) O d j q) (itF (gnF ok (fun d p => writeD O d p q) V (of_np O) (n' + 1) k d row) j a1) := hext (reckR R1 O d j) _ _ (fun i _ _ => rfl) (mA_Ao (by decide)) acc2
          have f13 := frM_t f12 f23
          simp (disch := omega) only [b227_126, b227_127, b227_129, ↓gm_0, ↓gm_1, ↓gm_2, ↓gm_3, ↓gm_4, ↓gm_5, ↓gm_6, ↓gm_7, ↓gm_8, ↓gm_9, ↓gm_10, ↓gm_11, ↓gm_12, ↓gm_13, ↓gm_14, ↓gm_15, ↓gm_16, ↓gm_17, ↓gm_18, ↓gm_19, ↓gm_20, ↓gm_21, ↓gm_22, ↓gm_23, ↓gm_24, ↓gm_25, ↓gm_26, ↓gm_27, ↓gm_28, ↓gm_29, ↓gm_30, ↓gm_31, ↓gm_32, ↓gm_33, ↓gm_34, ↓gm_35, ↓gm_36, ↓gm_37, ↓gm_38, ↓gm_39, ↓gm_40, ↓gm_41, ↓gm_42, ↓gm_43, ↓gm_44, ↓gm_45, ↓gm_46, ↓pm_1, ↓pm_2, ↓pm_8, ↓pm_9, ↓pm_10, ↓pm_11, ↓pm_12, ↓pm_13, ↓pm_14, ↓pm_16, ↓pm_18, ↓pm_21, ↓pm_22, ↓pm_23, ↓pm_24, ↓pm_25, ↓pm_26, ↓pm_28, ↓pm_31, ↓pm_35, ↓pm_36, ↓pm_37, ↓pm_38, ↓pm_40, ↓pm_43, ↓am_0, ↓wm_0, ↓am_3, ↓wm_3, ↓am_4, ↓wm_4, ↓am_5, ↓wm_5, ↓am_6, ↓wm_6, ↓am_7, ↓wm_7, ↓am_15, ↓wm_15, ↓am_17, ↓wm_17, ↓am_19, ↓wm_19, ↓am_20, ↓wm_20, ↓am_27, ↓wm_27, ↓am_29, ↓wm_29, ↓am_30, ↓wm_30, ↓am_32, ↓wm_32, ↓am_33, ↓wm_33, ↓am_34, ↓wm_34, ↓am_39, ↓wm_39, ↓am_41, ↓wm_41, ↓am_42, ↓wm_42, ↓am_44, ↓wm_44, ↓am_45, ↓wm_45, ↓am_46, ↓wm_46, ↓wn_0, ↓wn_46, or_false, false_or, rc_M, List.getElem?_cons_zero, List.getElem?_cons_succ, List.length_cons, List.length_nil, List.set_cons_zero, List.set_cons_succ, true_and, and_true, Option.toList_some, Option.toList_none, List.cons_append, List.nil_append, ↓reduceIte, not_false_eq_true, not_true_eq_false, Nat.reduceAdd, xj0_01, xj1_01, xb_B, xb_True, xb_False, ↓xj_in, xj_nat, Int.toNat_natCast, xj_lt_t, xj_lt_f, xj_le_t, xj_le_f, xj_eq_t, xj_eq_f, xj_lt, xj_le, xj_eq, xj_add, xj_sub, xj_mul, show ¬ xj 1 = xj 0 from by decide, m_signs _ hr2 hjn hg0]
          rw [← h2_33] at h1_33
          rw [← h2_32] at h1_32
          rw [← h3_33] at h1_33
          rw [← h3_32] at h1_32
          have h3_22 : mS (signR (reckR R1 O d j) O d j q) 22 = (q : Nat) := (f13.1 22 (by omega)).trans h1_22
          have h13_33 : mA (signR (reckR R1 O d j) O d j q) 33 = mA R1 33 := by rw [h3_33, h2_33]
          have h13_32 : mA (signR (reckR R1 O d j) O d j q) 32 = mA R1 32 := by rw [h3_32, h2_32]
          generalize signR (reckR R1 O d j) O d j q = R3 at f23 f13 hr3 acc3 h1_33 h1_32 h3_22 h13_33 h13_32 ⊢
          refine hv R3 k j (writeD O d j q) (upI row k j) _ (by omega) hr3 (fun i hi => ?_) acc3 (fun R4 v4 acc4 => ?_)
          · rw [h1_32]
            by_cases e : i = k
            · subst e; rw [up_e, up_e]
            · rw [up_n e, up_n e]; exact hrow i (by omega)
          have hr4 : rK R4 O (writeD O d j q) := rK_of (v4.2.1 20 (by decide)) hr3
          have f14 := frM_t f13 (frV_M v4)
          have ch := hch n' rfl (k + 1) (writeD O d j q) (upI row k j) (V (k + 1) (writeD O d j q) (upI row k j) (itF (gnF ok (fun d p => writeD O d p q) V (of_np O) (n' + 1) k d row) j a1)) (by omega) (by omega) (of_np O) 0 (sA (sA R4 32 (upI (mA R4 32) (k + 1) (-1))) 33 (cpI (mA R4 33) (mA R4 20) (22 * (k + 1)) 10 22)) (.int (xj j)) (by omega) (by rw [mA_Ao (by decide), mA_Ao (by decide)]; exact hr4.2.2.1) ((f14.1 22 (by omega)).trans h1_22) (by rw [mA_A]; exact rB_of hr4 _ _) (fun i hi => ?_) (by rw [mA_Ao (by decide), mA_A, up_e]; rfl) (hext R4 _ _ (fun _ _ _ => rfl) (by simp (disch := omega) only [mS_S, mS_So, mS_A, mS_J, mA_A, mA_Ao, mA_S, mA_J, mJ_J, mJ_Jo, mJ_S, mJ_A, sS_S, sA_A, sS_A, sS_J, sJ_A]) acc4) (fun R6 l5' g1 g2 g3 g4 => ?_)
          · have kp : ∀ (R : Md) (K : Option Value → xk_S → Prop), xk_Cl (D - 1) 222 [.ref b, .int (xj ((k : Int) + 1))] (xm f b R, w) K ↔ K none (xm f b (sA R 33 (cpI (mA R 33) (mA R 20) (22 * (k + 1)) 10 22)), w) := fun R K => m_keepsPlace (k := k + 1) (by omega) (by omega)
            simp (disch := omega) only [b227_157, b227_160, b227_161, b227_164, b227_166, b227_167, b227_168, b227_169, b227_171, b227_174, ↓gm_0, ↓gm_1, ↓gm_2, ↓gm_3, ↓gm_4, ↓gm_5, ↓gm_6, ↓gm_7, ↓gm_8, ↓gm_9, ↓gm_10, ↓gm_11, ↓gm_12, ↓gm_13, ↓gm_14, ↓gm_15, ↓gm_16, ↓gm_17, ↓gm_18, ↓gm_19, ↓gm_20, ↓gm_21, ↓gm_22, ↓gm_23, ↓gm_24, ↓gm_25, ↓gm_26, ↓gm_27, ↓gm_28, ↓gm_29, ↓gm_30, ↓gm_31, ↓gm_32, ↓gm_33, ↓gm_34, ↓gm_35, ↓gm_36, ↓gm_37, ↓gm_38, ↓gm_39, ↓gm_40, ↓gm_41, ↓gm_42, ↓gm_43, ↓gm_44, ↓gm_45, ↓gm_46, ↓pm_1, ↓pm_2, ↓pm_8, ↓pm_9, ↓pm_10, ↓pm_11, ↓pm_12, ↓pm_13, ↓pm_14, ↓pm_16, ↓pm_18, ↓pm_21, ↓pm_22, ↓pm_23, ↓pm_24, ↓pm_25, ↓pm_26, ↓pm_28, ↓pm_31, ↓pm_35, ↓pm_36, ↓pm_37, ↓pm_38, ↓pm_40, ↓pm_43, ↓am_0, ↓wm_0, ↓am_3, ↓wm_3, ↓am_4, ↓wm_4, ↓am_5, ↓wm_5, ↓am_6, ↓wm_6, ↓am_7, ↓wm_7, ↓am_15, ↓wm_15, ↓am_17, ↓wm_17, ↓am_19, ↓wm_19, ↓am_20, ↓wm_20, ↓am_27, ↓wm_27, ↓am_29, ↓wm_29, ↓am_30, ↓wm_30, ↓am_32, ↓wm_32, ↓am_33, ↓wm_33, ↓am_34, ↓wm_34, ↓am_39, ↓wm_39, ↓am_41, ↓wm_41, ↓am_42, ↓wm_42, ↓am_44, ↓wm_44, ↓am_45, ↓wm_45, ↓am_46, ↓wm_46, ↓wn_0, ↓wn_46, or_false, false_or, rc_M, List.getElem?_cons_zero, List.getElem?_cons_succ, List.length_cons, List.length_nil, List.set_cons_zero, List.set_cons_succ, true_and, and_true, Option.toList_some, Option.toList_none, List.cons_append, List.nil_append, ↓reduceIte, not_false_eq_true, not_true_eq_false, Nat.reduceAdd, xj0_01, xj1_01, xb_B, xb_True, xb_False, ↓xj_in, xj_nat, Int.toNat_natCast, xj_lt_t, xj_lt_f, xj_le_t, xj_le_f, xj_eq_t, xj_eq_f, xj_lt, xj_le, xj_eq, xj_add, xj_sub, xj_mul, show ¬ xj 1 = xj 0 from by decide, tn_add, tn_mul, tn_sub, Int.toNat_natCast, Int.reduceToNat, mS_S, mS_So, mS_A, mS_J, mA_A, mA_Ao, mA_S, mA_J, mJ_J, mJ_Jo, mJ_S, mJ_A, sS_S, sA_A, sS_A, sS_J, sJ_A, kp]
            exact ch
          · rw [mA_Ao (by decide), mA_A, up_n (by omega), v4.2.1 32 (by decide), h1_32]
            by_cases e : i = k
            · subst e; rw [up_e, up_e]
            · rw [up_n e, up_n e]; exact hrow i (by omega)
          · have e9 : (((k + 1 : Nat) : Int) + -1) = (k : Nat) := by omega
            rw [e9]
            refine next R6 l5' (frM_t f14 (frM_t (frM_t (frM_A (by omega)) (frM_A (by omega))) g1)) (fun i hi => ?_) (fun i hi => ?_) ?_
            · rw [g2 i (by omega), mA_A, ← h13_33, ← v4.2.1 33 (by decide)]
              unfold cpI
              rw [if_neg (by omega)]
            · rw [g3 i hi, mA_Ao (by decide), mA_A, up_n (by omega), v4.2.1 32 (by decide), h13_32]
            · rw [← dfs_eq] at g4
              have e8 : itF (gnF ok (fun d p => writeD O d p q) V (of_np O) (n' + 1) k d row) (j + 1) a1 = dfsG ok (fun d p => writeD O d p q) V (of_np O) n' (k + 1) (writeD O d j q) (upI row k j) (itF (gnF ok (fun d p => writeD O d p q) V (of_np O) (n' + 1) k d row) j a1) := by
                show gnF ok (fun d p => writeD O d p q) V (of_np O) (n' + 1) k d row _ j = _
                unfold gnF
                rw [hyes]
                rfl
              rw [e8]
              exact g4
        obtain ⟨g1, g2, g3, g4, g5, g6⟩ := hg0
        rcases hl with rfl | rfl
        · cases hb3 : voidB O d j q
          · have sg := sign (by rw [hok, hb1, hb2, hb3]; rfl)
            simp (disch := omega) only [b227_92, b227_93, b227_95, b227_98, b227_101, b227_102, b227_104, b227_107, b227_110, b227_111, b227_114, b227_115, b227_117, b227_120, b227_123, ↓gm_0, ↓gm_1, ↓gm_2, ↓gm_3, ↓gm_4, ↓gm_5, ↓gm_6, ↓gm_7, ↓gm_8, ↓gm_9, ↓gm_10, ↓gm_11, ↓gm_12, ↓gm_13, ↓gm_14, ↓gm_15, ↓gm_16, ↓gm_17, ↓gm_18, ↓gm_19, ↓gm_20, ↓gm_21, ↓gm_22, ↓gm_23, ↓gm_24, ↓gm_25, ↓gm_26, ↓gm_27, ↓gm_28, ↓gm_29, ↓gm_30, ↓gm_31, ↓gm_32, ↓gm_33, ↓gm_34, ↓gm_35, ↓gm_36, ↓gm_37, ↓gm_38, ↓gm_39, ↓gm_40, ↓gm_41, ↓gm_42, ↓gm_43, ↓gm_44, ↓gm_45, ↓gm_46, ↓pm_1, ↓pm_2, ↓pm_8, ↓pm_9, ↓pm_10, ↓pm_11, ↓pm_12, ↓pm_13, ↓pm_14, ↓pm_16, ↓pm_18, ↓pm_21, ↓pm_22, ↓pm_23, ↓pm_24, ↓pm_25, ↓pm_26, ↓pm_28, ↓pm_31, ↓pm_35, ↓pm_36, ↓pm_37, ↓pm_38, ↓pm_40, ↓pm_43, ↓am_0, ↓wm_0, ↓am_3, ↓wm_3, ↓am_4, ↓wm_4, ↓am_5, ↓wm_5, ↓am_6, ↓wm_6, ↓am_7, ↓wm_7, ↓am_15, ↓wm_15, ↓am_17, ↓wm_17, ↓am_19, ↓wm_19, ↓am_20, ↓wm_20, ↓am_27, ↓wm_27, ↓am_29, ↓wm_29, ↓am_30, ↓wm_30, ↓am_32, ↓wm_32, ↓am_33, ↓wm_33, ↓am_34, ↓wm_34, ↓am_39, ↓wm_39, ↓am_41, ↓wm_41, ↓am_42, ↓wm_42, ↓am_44, ↓wm_44, ↓am_45, ↓wm_45, ↓am_46, ↓wm_46, ↓wn_0, ↓wn_46, or_false, false_or, rc_M, List.getElem?_cons_zero, List.getElem?_cons_succ, List.length_cons, List.length_nil, List.set_cons_zero, List.set_cons_succ, true_and, and_true, Option.toList_some, Option.toList_none, List.cons_append, List.nil_append, ↓reduceIte, not_false_eq_true, not_true_eq_false, Nat.reduceAdd, xj0_01, xj1_01, xb_B, xb_True, xb_False, ↓xj_in, xj_nat, Int.toNat_natCast, xj_lt_t, xj_lt_f, xj_le_t, xj_le_f, xj_eq_t, xj_eq_f, xj_lt, xj_le, xj_eq, xj_add, xj_sub, xj_mul, show ¬ xj 1 = xj 0 from by decide, s_isOf _ hs, hb1, xb_T, m_canSign _ hr1 hjn, hb2, can_reck hjn hb2, m_isVoid _ hr2 hjn g1 g2 g6, hb3, Bool.false_eq_true, xb_F]
            exact sg
          · have hno : ok d j = false := by rw [hok, hb1, hb2, hb3]; rfl
            have nx := next (reckR R1 O d j) (.int (xj j)) f12 (fun _ _ => by rw [h2_33]) (fun _ _ => by rw [h2_32]) (by rw [skip hno]; exact acc2)
            simp (disch := omega) only [b227_92, b227_93, b227_95, b227_98, b227_101, b227_102, b227_104, b227_107, b227_110, b227_111, b227_114, b227_115, b227_117, b227_120, b227_123, ↓gm_0, ↓gm_1, ↓gm_2, ↓gm_3, ↓gm_4, ↓gm_5, ↓gm_6, ↓gm_7, ↓gm_8, ↓gm_9, ↓gm_10, ↓gm_11, ↓gm_12, ↓gm_13, ↓gm_14, ↓gm_15, ↓gm_16, ↓gm_17, ↓gm_18, ↓gm_19, ↓gm_20, ↓gm_21, ↓gm_22, ↓gm_23, ↓gm_24, ↓gm_25, ↓gm_26, ↓gm_27, ↓gm_28, ↓gm_29, ↓gm_30, ↓gm_31, ↓gm_32, ↓gm_33, ↓gm_34, ↓gm_35, ↓gm_36, ↓gm_37, ↓gm_38, ↓gm_39, ↓gm_40, ↓gm_41, ↓gm_42, ↓gm_43, ↓gm_44, ↓gm_45, ↓gm_46, ↓pm_1, ↓pm_2, ↓pm_8, ↓pm_9, ↓pm_10, ↓pm_11, ↓pm_12, ↓pm_13, ↓pm_14, ↓pm_16, ↓pm_18, ↓pm_21, ↓pm_22, ↓pm_23, ↓pm_24, ↓pm_25, ↓pm_26, ↓pm_28, ↓pm_31, ↓pm_35, ↓pm_36, ↓pm_37, ↓pm_38, ↓pm_40, ↓pm_43, ↓am_0, ↓wm_0, ↓am_3, ↓wm_3, ↓am_4, ↓wm_4, ↓am_5, ↓wm_5, ↓am_6, ↓wm_6, ↓am_7, ↓wm_7, ↓am_15, ↓wm_15, ↓am_17, ↓wm_17, ↓am_19, ↓wm_19, ↓am_20, ↓wm_20, ↓am_27, ↓wm_27, ↓am_29, ↓wm_29, ↓am_30, ↓wm_30, ↓am_32, ↓wm_32, ↓am_33, ↓wm_33, ↓am_34, ↓wm_34, ↓am_39, ↓wm_39, ↓am_41, ↓wm_41, ↓am_42, ↓wm_42, ↓am_44, ↓wm_44, ↓am_45, ↓wm_45, ↓am_46, ↓wm_46, ↓wn_0, ↓wn_46, or_false, false_or, rc_M, List.getElem?_cons_zero, List.getElem?_cons_succ, List.length_cons, List.length_nil, List.set_cons_zero, List.set_cons_succ, true_and, and_true, Option.toList_some, Option.toList_none, List.cons_append, List.nil_append, ↓reduceIte, not_false_eq_true, not_true_eq_false, Nat.reduceAdd, xj0_01, xj1_01, xb_B, xb_True, xb_False, ↓xj_in, xj_nat, Int.toNat_natCast, xj_lt_t, xj_lt_f, xj_le_t, xj_le_f, xj_eq_t, xj_eq_f, xj_lt, xj_le, xj_eq, xj_add, xj_sub, xj_mul, show ¬ xj 1 = xj 0 from by decide, s_isOf _ hs, hb1, xb_T, m_canSign _ hr1 hjn, hb2, can_reck hjn hb2, m_isVoid _ hr2 hjn g1 g2 g6, hb3]
            exact nx
        · have sg := sign (by rw [hok, hb1, hb2]; rfl)
          simp (disch := omega) only [b227_92, b227_93, b227_95, b227_98, b227_101, b227_102, b227_104, b227_107, b227_110, b227_111, b227_114, b227_115, b227_117, b227_120, b227_123, ↓gm_0, ↓gm_1, ↓gm_2, ↓gm_3, ↓gm_4, ↓gm_5, ↓gm_6, ↓gm_7, ↓gm_8, ↓gm_9, ↓gm_10, ↓gm_11, ↓gm_12, ↓gm_13, ↓gm_14, ↓gm_15, ↓gm_16, ↓gm_17, ↓gm_18, ↓gm_19, ↓gm_20, ↓gm_21, ↓gm_22, ↓gm_23, ↓gm_24, ↓gm_25, ↓gm_26, ↓gm_27, ↓gm_28, ↓gm_29, ↓gm_30, ↓gm_31, ↓gm_32, ↓gm_33, ↓gm_34, ↓gm_35, ↓gm_36, ↓gm_37, ↓gm_38, ↓gm_39, ↓gm_40, ↓gm_41, ↓gm_42, ↓gm_43, ↓gm_44, ↓gm_45, ↓gm_46, ↓pm_1, ↓pm_2, ↓pm_8, ↓pm_9, ↓pm_10, ↓pm_11, ↓pm_12, ↓pm_13, ↓pm_14, ↓pm_16, ↓pm_18, ↓pm_21, ↓pm_22, ↓pm_23, ↓pm_24, ↓pm_25, ↓pm_26, ↓pm_28, ↓pm_31, ↓pm_35, ↓pm_36, ↓pm_37, ↓pm_38, ↓pm_40, ↓pm_43, ↓am_0, ↓wm_0, ↓am_3, ↓wm_3, ↓am_4, ↓wm_4, ↓am_5, ↓wm_5, ↓am_6, ↓wm_6, ↓am_7, ↓wm_7, ↓am_15, ↓wm_15, ↓am_17, ↓wm_17, ↓am_19, ↓wm_19, ↓am_20, ↓wm_20, ↓am_27, ↓wm_27, ↓am_29, ↓wm_29, ↓am_30, ↓wm_30, ↓am_32, ↓wm_32, ↓am_33, ↓wm_33, ↓am_34, ↓wm_34, ↓am_39, ↓wm_39, ↓am_41, ↓wm_41, ↓am_42, ↓wm_42, ↓am_44, ↓wm_44, ↓am_45, ↓wm_45, ↓am_46, ↓wm_46, ↓wn_0, ↓wn_46, or_false, false_or, rc_M, List.getElem?_cons_zero, List.getElem?_cons_succ, List.length_cons, List.length_nil, List.set_cons_zero, List.set_cons_succ, true_and, and_true, Option.toList_some, Option.toList_none, List.cons_append, List.nil_append, ↓reduceIte, not_false_eq_true, not_true_eq_false, Nat.reduceAdd, xj0_01, xj1_01, xb_B, xb_True, xb_False, ↓xj_in, xj_nat, Int.toNat_natCast, xj_lt_t, xj_lt_f, xj_le_t, xj_le_f, xj_eq_t, xj_eq_f, xj_lt, xj_le, xj_eq, xj_add, xj_sub, xj_mul, show ¬ xj 1 = xj 0 from by decide, s_isOf _ hs, hb1, xb_T, m_canSign _ hr1 hjn, hb2, can_reck hjn hb2]
          exact sg
theorem u_goLoop {A : Type} {acc : Md → A → Prop} {ok : Dy → Nat → Bool} {V : Nat → Dy → (Nat → Int) → A → A} {l : Int} (hD : 6 ≤ D) (hw : xw_Off O) (hs : s < 2147483648) (hq : q < 2147483648) (hl : l = 0 ∨ l = 1)
    (hok : ∀ d p, ok d p = (s.testBit p && canF O d p && (decide (l = 1) || !voidB O d p q)))
    (hext : ∀ R R' a, (∀ j, 35 ≤ j → j ≤ 38 → mS R' j = mS R j) → mA R' 34 = mA R 34 → acc R a → acc R' a)
    (hv : ∀ (R : Md) (k p : Nat) (d : Dy) (row : Nat → Int) (a : A), k < 6 → rK R O d → (∀ i, i < k + 1 → mA R 32 i = row i) → acc R a → (∀ R', frV R R' → acc R' (V (k + 1) d row a) → xk_B (D - 1) 227 157 [.ref b, .int (xj s), .int (xj c), .int (xj l), .int (xj k), .int (xj p)] [] (xm f b R', w) K) → xk_B (D - 1) 227 132 [.ref b, .int (xj s), .int (xj c), .int (xj l), .int (xj k), .int (xj p)] [] (xm f b R, w) K) (n : Nat) : goP acc ok V D b f w K O q s c l n := by
  induction n with
  | zero => exact u_goIn hD hw hs hq hl hok hext hv 0 (fun n' h => by omega)
  | succ n ih => exact u_goIn hD hw hs hq hl hok hext hv (n + 1) (fun n' h => by cases h; exact ih)
end XS49
