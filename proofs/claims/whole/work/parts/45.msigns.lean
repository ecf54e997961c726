/-! the model signs: the end of it -/
def rbP (O : Of) (d : Dy) (p q o : Nat) : Bool := (of_re O p &&& q).testBit o && (!d.2.2.2.2.1.testBit o || d.2.2.2.2.2.1.testBit o)
theorem rb_iff {O : Of} {d : Dy} {p q : Nat} (hw : xw_Off O) (hp : p < of_np O) : (¬ ((of_re O p &&& q) &&& (goodF d ^^^ 2147483647)) = 0) ↔ 0 ≤ lstI (rbP O d p q) (of_np O) := by
  have hs := hw.2.2.2.2.2.2 p hp
  have hn := hw.2.2.2.1
  have hb : ∀ o, o < 31 → ((of_re O p &&& q) &&& (goodF d ^^^ 2147483647)).testBit o = rbP O d p q o := fun o ho => by
    rw [xt_andnot ho]
    unfold goodF rbP
    rw [xt_andnot ho]
    cases d.2.2.2.2.1.testBit o <;> cases d.2.2.2.2.2.1.testBit o <;> simp
  rcases lst_cases (rbP O d p q) (of_np O) with ⟨k, h1, h2, h3, h4⟩ | ⟨h1, h2⟩
  · rw [h4]
    refine ⟨fun _ => by omega, fun _ q => ?_⟩
    have := hb k (by omega)
    rw [q, h2, Nat.zero_testBit] at this
    cases this
  · rw [h2]
    refine ⟨fun h => absurd (Nat.eq_of_testBit_eq (fun i => ?_)) h, fun h => by omega⟩
    rw [Nat.zero_testBit]
    by_cases c : i < of_np O
    · rw [hb i (by omega), h1 i c]
    · rw [Nat.testBit_and, Nat.testBit_and, Nat.testBit_lt_two_pow (x := of_re O p) (Nat.lt_of_lt_of_le hs.2.2.2.2.2.2.2.2 (Nat.pow_le_pow_right (by decide) (by omega)))]
      rfl
theorem noRF_eq {O : Of} {d : Dy} {p q : Nat} (hw : xw_Off O) (hp : p < of_np O) : noRF O d p q = (!d.2.2.2.2.2.2.1.testBit p && decide (0 ≤ lstI (rbP O d p q) (of_np O))) := by
  unfold noRF
  have := rb_iff (d := d) (q := q) hw hp
  cases h : d.2.2.2.2.2.2.1.testBit p
  · by_cases c : 0 ≤ lstI (rbP O d p q) (of_np O)
    · rw [decide_eq_true c, decide_eq_true ⟨rfl, this.mpr c⟩]; rfl
    · rw [decide_eq_false c, decide_eq_false (fun q => c (this.mp q.2))]; rfl
  · rw [decide_eq_false (fun q => by cases q.1)]; rfl
def voidB (O : Of) (d : Dy) (p q : Nat) : Bool := decide (nibF O d p < 0) || noRF O d p q
def signG (O : Of) (d : Dy) (p q : Nat) (g : Nat → Int) : Nat → Int := upI (upI (upI (upI (upI (upI g 10 (endF O d p)) 11 (of_ow O p)) 12 (inkF O d p)) 13 (if nibF O d p < 0 then 0 else nibF O d p)) (14 + 3 * p) (endF O d p)) (14 + 3 * p + 1) (if voidB O d p q then 1 else 0)
def signR (R : Md) (O : Of) (d : Dy) (p q : Nat) : Md := sA R 20 (signG O d p q (mA R 20))
/-- what reckonsSigning leaves -/
def rG (R : Md) (O : Of) (d : Dy) (p q : Nat) : Prop := mS R 22 = (q : Nat) ∧ q < 2147483648 ∧ mS R 23 = beginF O d p ∧ mS R 24 = inkF O d p ∧ mS R 25 = (if nibF O d p < 0 then 0 else nibF O d p) ∧ mS R 26 = (if nibF O d p < 0 then 1 else 0)
theorem rG_reck {R : Md} {O : Of} {d : Dy} {p q : Nat} (h : mS R 22 = (q : Nat)) (hq : q < 2147483648) : rG (reckR R O d p) O d p q := by
  unfold reckR
  refine ⟨?_, hq, ?_, ?_, ?_, ?_⟩ <;> simp (disch := omega) only [mS_S, mS_So, mS_A, mS_J, mA_A, mA_Ao, mA_S, mA_J, mJ_J, mJ_Jo, mJ_S, mJ_A, sS_S, sA_A, sS_A, sS_J, sJ_A, h]
section XS45
variable {D b k p q s : Nat} {f : Nat → xk_C} {w : Nat × Nat × Nat} {K : Option Value → xk_S → Prop} {O : Of} {d : Dy} {R : Md} {c m n x y z : Int}
theorem m_restsBadly (hD : 3 ≤ D) (hr : rK R O d) (hp : p < of_np O) (h22 : mS R 22 = (q : Nat)) (hq : q < 2147483648) : xk_Cl D 203 [.ref b, .int (xj p)] (xm f b R, w) K ↔ K (some (.int (xb (0 ≤ lstI (rbP O d p q) (of_np O))))) (xm f b R, w) := by
  rw [e203 (by omega)]
  have hr0 := hr
  obtain ⟨hw, hd, ⟨o0, o1, o2, o3, o4, o5, o6, o7, o8⟩, e0, e1, e2, e3, e4, e5⟩ := hr
  have hn := hw.2.2.2.1
  obtain ⟨q0, q1, q2, q3, q4⟩ := o8 p hp
  have hs := hw.2.2.2.2.2.2 p hp
  have hre : of_re O p < 2147483648 := hw.n31 hs.2.2.2.2.2.2.2.2
  have hra : of_re O p &&& q < 2147483648 := xn_and hre
  simp only [b203_0, b203_1]
  have step : ∀ k : Nat, k < of_np O → rbP O d p q k = false → (xk_B (D - 1) 203 2 [.ref b, .int (xj p), .int (xj k)] [] (xm f b R, w) K ↔ xk_B (D - 1) 203 2 [.ref b, .int (xj p), .int (xj ((k + 1 : Nat) : Int))] [] (xm f b R, w) K) := by
    intro k hk hz
    unfold rbP at hz
    rw [b203_2]
    obtain ⟨p0, p1, p2, p3, p4⟩ := e5 k hk
    cases h1 : (of_re O p &&& q).testBit k
    · simp (disch := omega) only [b203_0, b203_1, b203_3, b203_4, b203_7, b203_8, b203_9, b203_12, b203_13, b203_14, b203_15, b203_18, b203_19, b203_22, b203_23, b203_24, b203_27, b203_30, b203_31, b203_32, b203_35, b203_38, b203_39, b203_40, b203_41, b203_44, b203_45, b203_48, b203_49, b203_50, b203_53, b203_56, b203_57, b203_49o, b203_49z, b203_49c, b203_57o, b203_57z, b203_57c, ↓gm_0, ↓gm_1, ↓gm_2, ↓gm_3, ↓gm_4, ↓gm_5, ↓gm_6, ↓gm_7, ↓gm_8, ↓gm_9, ↓gm_10, ↓gm_11, ↓gm_12, ↓gm_13, ↓gm_14, ↓gm_15, ↓gm_16, ↓gm_17, ↓gm_18, ↓gm_19, ↓gm_20, ↓gm_21, ↓gm_22, ↓gm_23, ↓gm_24, ↓gm_25, ↓gm_26, ↓gm_27, ↓gm_28, ↓gm_29, ↓gm_30, ↓gm_31, ↓gm_32, ↓gm_33, ↓gm_34, ↓gm_35, ↓gm_36, ↓gm_37, ↓gm_38, ↓gm_39, ↓gm_40, ↓gm_41, ↓gm_42, ↓gm_43, ↓gm_44, ↓gm_45, ↓gm_46, ↓pm_1, ↓pm_2, ↓pm_8, ↓pm_9, ↓pm_10, ↓pm_11, ↓pm_12, ↓pm_13, ↓pm_14, ↓pm_16, ↓pm_18, ↓pm_21, ↓pm_22, ↓pm_23, ↓pm_24, ↓pm_25, ↓pm_26, ↓pm_28, ↓pm_31, ↓pm_35, ↓pm_36, ↓pm_37, ↓pm_38, ↓pm_40, ↓pm_43, ↓am_0, ↓wm_0, ↓am_3, ↓wm_3, ↓am_4, ↓wm_4, ↓am_5, ↓wm_5, ↓am_6, ↓wm_6, ↓am_7, ↓wm_7, ↓am_15, ↓wm_15, ↓am_17, ↓wm_17, ↓am_19, ↓wm_19, ↓am_20, ↓wm_20, ↓am_27, ↓wm_27, ↓am_29, ↓wm_29, ↓am_30, ↓wm_30, ↓am_32, ↓wm_32, ↓am_33, ↓wm_33, ↓am_34, ↓wm_34, ↓am_39, ↓wm_39, ↓am_41, ↓wm_41, ↓am_42, ↓wm_42, ↓am_44, ↓wm_44, ↓am_45, ↓wm_45, ↓am_46, ↓wm_46, ↓wn_0, ↓wn_46, or_false, false_or, rc_M, List.getElem?_cons_zero, List.getElem?_cons_succ, List.length_cons, List.length_nil, List.set_cons_zero, List.set_cons_succ, true_and, and_true, Option.toList_some, Option.toList_none, List.cons_append, List.nil_append, ↓reduceIte, not_false_eq_true, not_true_eq_false, Nat.reduceAdd, xj0_01, xj1_01, xb_B, xb_True, xb_False, ↓xj_in, xj_nat, Int.toNat_natCast, xj_lt_t, xj_lt_f, xj_le_t, xj_le_f, xj_eq_t, xj_eq_f, xj_lt, xj_le, xj_eq, xj_add, xj_sub, xj_mul, show ¬ xj 1 = xj 0 from by decide, tn_add, tn_mul, tn_sub, Int.toNat_natCast, Int.reduceToNat, o5, m_fixedOf, q4, h22, xj_and hre hq, s_isOf _ hra, h1, Bool.false_eq_true, xb_F]
      rfl
    · rw [h1] at hz
      have h2 : d.2.2.2.2.1.testBit k = true := by
        cases h2 : d.2.2.2.2.1.testBit k
        · rw [h2] at hz; cases hz
        · rfl
      have h3 : d.2.2.2.2.2.1.testBit k = false := by
        cases h3 : d.2.2.2.2.2.1.testBit k
        · rfl
        · rw [h2, h3] at hz; cases hz
      rw [h3] at p1
      simp (disch := omega) only [b203_0, b203_1, b203_3, b203_4, b203_7, b203_8, b203_9, b203_12, b203_13, b203_14, b203_15, b203_18, b203_19, b203_22, b203_23, b203_24, b203_27, b203_30, b203_31, b203_32, b203_35, b203_38, b203_39, b203_40, b203_41, b203_44, b203_45, b203_48, b203_49, b203_50, b203_53, b203_56, b203_57, b203_49o, b203_49z, b203_49c, b203_57o, b203_57z, b203_57c, ↓gm_0, ↓gm_1, ↓gm_2, ↓gm_3, ↓gm_4, ↓gm_5, ↓gm_6, ↓gm_7, ↓gm_8, ↓gm_9, ↓gm_10, ↓gm_11, ↓gm_12, ↓gm_13, ↓gm_14, ↓gm_15, ↓gm_16, ↓gm_17, ↓gm_18, ↓gm_19, ↓gm_20, ↓gm_21, ↓gm_22, ↓gm_23, ↓gm_24, ↓gm_25, ↓gm_26, ↓gm_27, ↓gm_28, ↓gm_29, ↓gm_30, ↓gm_31, ↓gm_32, ↓gm_33, ↓gm_34, ↓gm_35, ↓gm_36, ↓gm_37, ↓gm_38, ↓gm_39, ↓gm_40, ↓gm_41, ↓gm_42, ↓gm_43, ↓gm_44, ↓gm_45, ↓gm_46, ↓pm_1, ↓pm_2, ↓pm_8, ↓pm_9, ↓pm_10, ↓pm_11, ↓pm_12, ↓pm_13, ↓pm_14, ↓pm_16, ↓pm_18, ↓pm_21, ↓pm_22, ↓pm_23, ↓pm_24, ↓pm_25, ↓pm_26, ↓pm_28, ↓pm_31, ↓pm_35, ↓pm_36, ↓pm_37, ↓pm_38, ↓pm_40, ↓pm_43, ↓am_0, ↓wm_0, ↓am_3, ↓wm_3, ↓am_4, ↓wm_4, ↓am_5, ↓wm_5, ↓am_6, ↓wm_6, ↓am_7, ↓wm_7, ↓am_15, ↓wm_15, ↓am_17, ↓wm_17, ↓am_19, ↓wm_19, ↓am_20, ↓wm_20, ↓am_27, ↓wm_27, ↓am_29, ↓wm_29, ↓am_30, ↓wm_30, ↓am_32, ↓wm_32, ↓am_33, ↓wm_33, ↓am_34, ↓wm_34, ↓am_39, ↓wm_39, ↓am_41, ↓wm_41, ↓am_42, ↓wm_42, ↓am_44, ↓wm_44, ↓am_45, ↓wm_45, ↓am_46, ↓wm_46, ↓wn_0, ↓wn_46, or_false, false_or, rc_M, List.getElem?_cons_zero, List.getElem?_cons_succ, List.length_cons, List.length_nil, List.set_cons_zero, List.set_cons_succ, true_and, and_true, Option.toList_some, Option.toList_none, List.cons_append, List.nil_append, ↓reduceIte, not_false_eq_true, not_true_eq_false, Nat.reduceAdd, xj0_01, xj1_01, xb_B, xb_True, xb_False, ↓xj_in, xj_nat, Int.toNat_natCast, xj_lt_t, xj_lt_f, xj_le_t, xj_le_f, xj_eq_t, xj_eq_f, xj_lt, xj_le, xj_eq, xj_add, xj_sub, xj_mul, show ¬ xj 1 = xj 0 from by decide, tn_add, tn_mul, tn_sub, Int.toNat_natCast, Int.reduceToNat, o5, m_fixedOf, q4, h22, xj_and hre hq, s_isOf _ hra, h1, h2, h3, xb_T, m_isSigned _ hr0, m_paperOf, p1, Bool.false_eq_true]
      rfl
  rcases lst_cases (rbP O d p q) (of_np O) with ⟨k0, h1, h2, h3, h4⟩ | ⟨h1, h2⟩
  · rw [h4, xb_t (by omega)]
    refine xk_down (J := Unit) (n := k0) (P := fun k _ => xk_B (D - 1) 203 2 [.ref b, .int (xj p), .int (xj k)] [] (xm f b R, w) K) (fun j => ?_) (fun k hk ih j => ?_) 0 (Nat.zero_le _) ()
    · unfold rbP at h2
      obtain ⟨p0, p1, p2, p3, p4⟩ := e5 k0 h1
      have h5 : (of_re O p &&& q).testBit k0 = true := by
        cases h5 : (of_re O p &&& q).testBit k0
        · rw [h5] at h2; cases h2
        · rfl
      rw [h5] at h2
      cases h6 : d.2.2.2.2.1.testBit k0
      · simp (disch := omega) only [b203_0, b203_1, b203_2, b203_3, b203_4, b203_7, b203_8, b203_9, b203_12, b203_13, b203_14, b203_15, b203_18, b203_19, b203_22, b203_23, b203_24, b203_27, b203_30, b203_31, b203_32, b203_35, b203_38, b203_39, b203_40, b203_41, b203_44, b203_45, b203_48, b203_49, b203_50, b203_53, b203_56, b203_57, b203_49o, b203_49z, b203_49c, b203_57o, b203_57z, b203_57c, ↓gm_0, ↓gm_1, ↓gm_2, ↓gm_3, ↓gm_4, ↓gm_5, ↓gm_6, ↓gm_7, ↓gm_8, ↓gm_9, ↓gm_10, ↓gm_11, ↓gm_12, ↓gm_13, ↓gm_14, ↓gm_15, ↓gm_16, ↓gm_17, ↓gm_18, ↓gm_19, ↓gm_20, ↓gm_21, ↓gm_22, ↓gm_23, ↓gm_24, ↓gm_25, ↓gm_26, ↓gm_27, ↓gm_28, ↓gm_29, ↓gm_30, ↓gm_31, ↓gm_32, ↓gm_33, ↓gm_34, ↓gm_35, ↓gm_36, ↓gm_37, ↓gm_38, ↓gm_39, ↓gm_40, ↓gm_41, ↓gm_42, ↓gm_43, ↓gm_44, ↓gm_45, ↓gm_46, ↓pm_1, ↓pm_2, ↓pm_8, ↓pm_9, ↓pm_10, ↓pm_11, ↓pm_12, ↓pm_13, ↓pm_14, ↓pm_16, ↓pm_18, ↓pm_21, ↓pm_22, ↓pm_23, ↓pm_24, ↓pm_25, ↓pm_26, ↓pm_28, ↓pm_31, ↓pm_35, ↓pm_36, ↓pm_37, ↓pm_38, ↓pm_40, ↓pm_43, ↓am_0, ↓wm_0, ↓am_3, ↓wm_3, ↓am_4, ↓wm_4, ↓am_5, ↓wm_5, ↓am_6, ↓wm_6, ↓am_7, ↓wm_7, ↓am_15, ↓wm_15, ↓am_17, ↓wm_17, ↓am_19, ↓wm_19, ↓am_20, ↓wm_20, ↓am_27, ↓wm_27, ↓am_29, ↓wm_29, ↓am_30, ↓wm_30, ↓am_32, ↓wm_32, ↓am_33, ↓wm_33, ↓am_34, ↓wm_34, ↓am_39, ↓wm_39, ↓am_41, ↓wm_41, ↓am_42, ↓wm_42, ↓am_44, ↓wm_44, ↓am_45, ↓wm_45, ↓am_46, ↓wm_46, ↓wn_0, ↓wn_46, or_false, false_or, rc_M, List.getElem?_cons_zero, List.getElem?_cons_succ, List.length_cons, List.length_nil, List.set_cons_zero, List.set_cons_succ, true_and, and_true, Option.toList_some, Option.toList_none, List.cons_append, List.nil_append, ↓reduceIte, not_false_eq_true, not_true_eq_false, Nat.reduceAdd, xj0_01, xj1_01, xb_B, xb_True, xb_False, ↓xj_in, xj_nat, Int.toNat_natCast, xj_lt_t, xj_lt_f, xj_le_t, xj_le_f, xj_eq_t, xj_eq_f, xj_lt, xj_le, xj_eq, xj_add, xj_sub, xj_mul, show ¬ xj 1 = xj 0 from by decide, tn_add, tn_mul, tn_sub, Int.toNat_natCast, Int.reduceToNat, o5, m_fixedOf, q4, h22, xj_and hre hq, s_isOf _ hra, h5, h6, xb_T, xb_F, m_isSigned _ hr0, m_paperOf, p1, Bool.false_eq_true]
      · have h7 : d.2.2.2.2.2.1.testBit k0 = true := by rw [h6] at h2; simpa using h2
        rw [h7] at p1
        simp (disch := omega) only [b203_0, b203_1, b203_2, b203_3, b203_4, b203_7, b203_8, b203_9, b203_12, b203_13, b203_14, b203_15, b203_18, b203_19, b203_22, b203_23, b203_24, b203_27, b203_30, b203_31, b203_32, b203_35, b203_38, b203_39, b203_40, b203_41, b203_44, b203_45, b203_48, b203_49, b203_50, b203_53, b203_56, b203_57, b203_49o, b203_49z, b203_49c, b203_57o, b203_57z, b203_57c, ↓gm_0, ↓gm_1, ↓gm_2, ↓gm_3, ↓gm_4, ↓gm_5, ↓gm_6, ↓gm_7, ↓gm_8, ↓gm_9, ↓gm_10, ↓gm_11, ↓gm_12, ↓gm_13, ↓gm_14, ↓gm_15, ↓gm_16, ↓gm_17, ↓gm_18, ↓gm_19, ↓gm_20, ↓gm_21, ↓gm_22, ↓gm_23, ↓gm_24, ↓gm_25, ↓gm_26, ↓gm_27, ↓gm_28, ↓gm_29, ↓gm_30, ↓gm_31, ↓gm_32, ↓gm_33, ↓gm_34, ↓gm_35, ↓gm_36, ↓gm_37, ↓gm_38, ↓gm_39, ↓gm_40, ↓gm_41, ↓gm_42, ↓gm_43, ↓gm_44, ↓gm_45, ↓gm_46, ↓pm_1, ↓pm_2, ↓pm_8, ↓pm_9, ↓pm_10, ↓pm_11, ↓pm_12, ↓pm_13, ↓pm_14, ↓pm_16, ↓pm_18, ↓pm_21, ↓pm_22, ↓pm_23, ↓pm_24, ↓pm_25, ↓pm_26, ↓pm_28, ↓pm_31, ↓pm_35, ↓pm_36, ↓pm_37, ↓pm_38, ↓pm_40, ↓pm_43, ↓am_0, ↓wm_0, ↓am_3, ↓wm_3, ↓am_4, ↓wm_4, ↓am_5, ↓wm_5, ↓am_6, ↓wm_6, ↓am_7, ↓wm_7, ↓am_15, ↓wm_15, ↓am_17, ↓wm_17, ↓am_19, ↓wm_19, ↓am_20, ↓wm_20, ↓am_27, ↓wm_27, ↓am_29, ↓wm_29, ↓am_30, ↓wm_30, ↓am_32, ↓wm_32, ↓am_33, ↓wm_33, ↓am_34, ↓wm_34, ↓am_39, ↓wm_39, ↓am_41, ↓wm_41, ↓am_42, ↓wm_42, ↓am_44, ↓wm_44, ↓am_45, ↓wm_45, ↓am_46, ↓wm_46, ↓wn_0, ↓wn_46, or_false, false_or, rc_M, List.getElem?_cons_zero, List.getElem?_cons_succ, List.length_cons, List.length_nil, List.set_cons_zero, List.set_cons_succ, true_and, and_true, Option.toList_some, Option.toList_none, List.cons_append, List.nil_append, ↓reduceIte, not_false_eq_true, not_true_eq_false, Nat.reduceAdd, xj0_01, xj1_01, xb_B, xb_True, xb_False, ↓xj_in, xj_nat, Int.toNat_natCast, xj_lt_t, xj_lt_f, xj_le_t, xj_le_f, xj_eq_t, xj_eq_f, xj_lt, xj_le, xj_eq, xj_add, xj_sub, xj_mul, show ¬ xj 1 = xj 0 from by decide, tn_add, tn_mul, tn_sub, Int.toNat_natCast, Int.reduceToNat, o5, m_fixedOf, q4, h22, xj_and hre hq, s_isOf _ hra, h5, h6, h7, xb_T, m_isSigned _ hr0, m_paperOf, p1, Bool.false_eq_true]
    · exact (step k (by omega) (h3 k hk)).trans (ih ())
  · rw [h2, xb_f (by omega)]
    refine xk_down (J := Unit) (n := of_np O) (P := fun k _ => xk_B (D - 1) 203 2 [.ref b, .int (xj p), .int (xj k)] [] (xm f b R, w) K) (fun j => ?_) (fun k hk ih j => ?_) 0 (Nat.zero_le _) ()
    · simp (disch := omega) only [b203_0, b203_1, b203_2, b203_3, b203_4, b203_7, b203_8, b203_9, b203_12, b203_13, b203_14, b203_15, b203_18, b203_19, b203_22, b203_23, b203_24, b203_27, b203_30, b203_31, b203_32, b203_35, b203_38, b203_39, b203_40, b203_41, b203_44, b203_45, b203_48, b203_49, b203_50, b203_53, b203_56, b203_57, b203_49o, b203_49z, b203_49c, b203_57o, b203_57z, b203_57c, ↓gm_0, ↓gm_1, ↓gm_2, ↓gm_3, ↓gm_4, ↓gm_5, ↓gm_6, ↓gm_7, ↓gm_8, ↓gm_9, ↓gm_10, ↓gm_11, ↓gm_12, ↓gm_13, ↓gm_14, ↓gm_15, ↓gm_16, ↓gm_17, ↓gm_18, ↓gm_19, ↓gm_20, ↓gm_21, ↓gm_22, ↓gm_23, ↓gm_24, ↓gm_25, ↓gm_26, ↓gm_27, ↓gm_28, ↓gm_29, ↓gm_30, ↓gm_31, ↓gm_32, ↓gm_33, ↓gm_34, ↓gm_35, ↓gm_36, ↓gm_37, ↓gm_38, ↓gm_39, ↓gm_40, ↓gm_41, ↓gm_42, ↓gm_43, ↓gm_44, ↓gm_45, ↓gm_46, ↓pm_1, ↓pm_2, ↓pm_8, ↓pm_9, ↓pm_10, ↓pm_11, ↓pm_12, ↓pm_13, ↓pm_14, ↓pm_16, ↓pm_18, ↓pm_21, ↓pm_22, ↓pm_23, ↓pm_24, ↓pm_25, ↓pm_26, ↓pm_28, ↓pm_31, ↓pm_35, ↓pm_36, ↓pm_37, ↓pm_38, ↓pm_40, ↓pm_43, ↓am_0, ↓wm_0, ↓am_3, ↓wm_3, ↓am_4, ↓wm_4, ↓am_5, ↓wm_5, ↓am_6, ↓wm_6, ↓am_7, ↓wm_7, ↓am_15, ↓wm_15, ↓am_17, ↓wm_17, ↓am_19, ↓wm_19, ↓am_20, ↓wm_20, ↓am_27, ↓wm_27, ↓am_29, ↓wm_29, ↓am_30, ↓wm_30, ↓am_32, ↓wm_32, ↓am_33, ↓wm_33, ↓am_34, ↓wm_34, ↓am_39, ↓wm_39, ↓am_41, ↓wm_41, ↓am_42, ↓wm_42, ↓am_44, ↓wm_44, ↓am_45, ↓wm_45, ↓am_46, ↓wm_46, ↓wn_0, ↓wn_46, or_false, false_or, rc_M, List.getElem?_cons_zero, List.getElem?_cons_succ, List.length_cons, List.length_nil, List.set_cons_zero, List.set_cons_succ, true_and, and_true, Option.toList_some, Option.toList_none, List.cons_append, List.nil_append, ↓reduceIte, not_false_eq_true, not_true_eq_false, Nat.reduceAdd, xj0_01, xj1_01, xb_B, xb_True, xb_False, ↓xj_in, xj_nat, Int.toNat_natCast, xj_lt_t, xj_lt_f, xj_le_t, xj_le_f, xj_eq_t, xj_eq_f, xj_lt, xj_le, xj_eq, xj_add, xj_sub, xj_mul, show ¬ xj 1 = xj 0 from by decide, tn_add, tn_mul, tn_sub, Int.toNat_natCast, Int.reduceToNat, o5]
    · exact (step k (by omega) (h1 k hk)).trans (ih ())
theorem m_isVoid (hD : 4 ≤ D) (hr : rK R O d) (hp : p < of_np O) (h22 : mS R 22 = (q : Nat)) (hq : q < 2147483648) (h26 : mS R 26 = (if nibF O d p < 0 then 1 else 0)) : xk_Cl D 204 [.ref b, .int (xj p)] (xm f b R, w) K ↔ K (some (.int (xb (voidB O d p q = true)))) (xm f b R, w) := by
  rw [e204 (by omega)]
  have hr0 := hr
  obtain ⟨hw, hd, ⟨o0, o1, o2, o3, o4, o5, o6, o7, o8⟩, e0, e1, e2, e3, e4, e5⟩ := hr
  have hn := hw.2.2.2.1
  obtain ⟨p0, p1, p2, p3, p4⟩ := e5 p hp
  unfold voidB
  rw [noRF_eq hw hp]
  by_cases c1 : nibF O d p < 0
  · rw [if_pos c1] at h26
    rw [xb_T (by rw [decide_eq_true c1]; rfl)]
    simp (disch := omega) only [b204_0, b204_1, b204_4, b204_7, b204_8, b204_9, b204_10, b204_13, b204_16, b204_17, b204_18, b204_21, b204_24, b204_25, b204_28, b204_29, b204_29o, b204_29z, b204_29c, ↓gm_0, ↓gm_1, ↓gm_2, ↓gm_3, ↓gm_4, ↓gm_5, ↓gm_6, ↓gm_7, ↓gm_8, ↓gm_9, ↓gm_10, ↓gm_11, ↓gm_12, ↓gm_13, ↓gm_14, ↓gm_15, ↓gm_16, ↓gm_17, ↓gm_18, ↓gm_19, ↓gm_20, ↓gm_21, ↓gm_22, ↓gm_23, ↓gm_24, ↓gm_25, ↓gm_26, ↓gm_27, ↓gm_28, ↓gm_29, ↓gm_30, ↓gm_31, ↓gm_32, ↓gm_33, ↓gm_34, ↓gm_35, ↓gm_36, ↓gm_37, ↓gm_38, ↓gm_39, ↓gm_40, ↓gm_41, ↓gm_42, ↓gm_43, ↓gm_44, ↓gm_45, ↓gm_46, ↓pm_1, ↓pm_2, ↓pm_8, ↓pm_9, ↓pm_10, ↓pm_11, ↓pm_12, ↓pm_13, ↓pm_14, ↓pm_16, ↓pm_18, ↓pm_21, ↓pm_22, ↓pm_23, ↓pm_24, ↓pm_25, ↓pm_26, ↓pm_28, ↓pm_31, ↓pm_35, ↓pm_36, ↓pm_37, ↓pm_38, ↓pm_40, ↓pm_43, ↓am_0, ↓wm_0, ↓am_3, ↓wm_3, ↓am_4, ↓wm_4, ↓am_5, ↓wm_5, ↓am_6, ↓wm_6, ↓am_7, ↓wm_7, ↓am_15, ↓wm_15, ↓am_17, ↓wm_17, ↓am_19, ↓wm_19, ↓am_20, ↓wm_20, ↓am_27, ↓wm_27, ↓am_29, ↓wm_29, ↓am_30, ↓wm_30, ↓am_32, ↓wm_32, ↓am_33, ↓wm_33, ↓am_34, ↓wm_34, ↓am_39, ↓wm_39, ↓am_41, ↓wm_41, ↓am_42, ↓wm_42, ↓am_44, ↓wm_44, ↓am_45, ↓wm_45, ↓am_46, ↓wm_46, ↓wn_0, ↓wn_46, or_false, false_or, rc_M, List.getElem?_cons_zero, List.getElem?_cons_succ, List.length_cons, List.length_nil, List.set_cons_zero, List.set_cons_succ, true_and, and_true, Option.toList_some, Option.toList_none, List.cons_append, List.nil_append, ↓reduceIte, not_false_eq_true, not_true_eq_false, Nat.reduceAdd, xj0_01, xj1_01, xb_B, xb_True, xb_False, ↓xj_in, xj_nat, Int.toNat_natCast, xj_lt_t, xj_lt_f, xj_le_t, xj_le_f, xj_eq_t, xj_eq_f, xj_lt, xj_le, xj_eq, xj_add, xj_sub, xj_mul, show ¬ xj 1 = xj 0 from by decide, tn_add, tn_mul, tn_sub, Int.toNat_natCast, Int.reduceToNat, h26]
  · rw [if_neg c1] at h26
    cases h1 : d.2.2.2.2.2.2.1.testBit p
    · rw [h1] at p2
      by_cases c2 : 0 ≤ lstI (rbP O d p q) (of_np O)
      · rw [xb_T (by rw [decide_eq_true c2]; simp)]
        simp (disch := omega) only [b204_0, b204_1, b204_4, b204_7, b204_8, b204_9, b204_10, b204_13, b204_16, b204_17, b204_18, b204_21, b204_24, b204_25, b204_28, b204_29, b204_29o, b204_29z, b204_29c, ↓gm_0, ↓gm_1, ↓gm_2, ↓gm_3, ↓gm_4, ↓gm_5, ↓gm_6, ↓gm_7, ↓gm_8, ↓gm_9, ↓gm_10, ↓gm_11, ↓gm_12, ↓gm_13, ↓gm_14, ↓gm_15, ↓gm_16, ↓gm_17, ↓gm_18, ↓gm_19, ↓gm_20, ↓gm_21, ↓gm_22, ↓gm_23, ↓gm_24, ↓gm_25, ↓gm_26, ↓gm_27, ↓gm_28, ↓gm_29, ↓gm_30, ↓gm_31, ↓gm_32, ↓gm_33, ↓gm_34, ↓gm_35, ↓gm_36, ↓gm_37, ↓gm_38, ↓gm_39, ↓gm_40, ↓gm_41, ↓gm_42, ↓gm_43, ↓gm_44, ↓gm_45, ↓gm_46, ↓pm_1, ↓pm_2, ↓pm_8, ↓pm_9, ↓pm_10, ↓pm_11, ↓pm_12, ↓pm_13, ↓pm_14, ↓pm_16, ↓pm_18, ↓pm_21, ↓pm_22, ↓pm_23, ↓pm_24, ↓pm_25, ↓pm_26, ↓pm_28, ↓pm_31, ↓pm_35, ↓pm_36, ↓pm_37, ↓pm_38, ↓pm_40, ↓pm_43, ↓am_0, ↓wm_0, ↓am_3, ↓wm_3, ↓am_4, ↓wm_4, ↓am_5, ↓wm_5, ↓am_6, ↓wm_6, ↓am_7, ↓wm_7, ↓am_15, ↓wm_15, ↓am_17, ↓wm_17, ↓am_19, ↓wm_19, ↓am_20, ↓wm_20, ↓am_27, ↓wm_27, ↓am_29, ↓wm_29, ↓am_30, ↓wm_30, ↓am_32, ↓wm_32, ↓am_33, ↓wm_33, ↓am_34, ↓wm_34, ↓am_39, ↓wm_39, ↓am_41, ↓wm_41, ↓am_42, ↓wm_42, ↓am_44, ↓wm_44, ↓am_45, ↓wm_45, ↓am_46, ↓wm_46, ↓wn_0, ↓wn_46, or_false, false_or, rc_M, List.getElem?_cons_zero, List.getElem?_cons_succ, List.length_cons, List.length_nil, List.set_cons_zero, List.set_cons_succ, true_and, and_true, Option.toList_some, Option.toList_none, List.cons_append, List.nil_append, ↓reduceIte, not_false_eq_true, not_true_eq_false, Nat.reduceAdd, xj0_01, xj1_01, xb_B, xb_True, xb_False, ↓xj_in, xj_nat, Int.toNat_natCast, xj_lt_t, xj_lt_f, xj_le_t, xj_le_f, xj_eq_t, xj_eq_f, xj_lt, xj_le, xj_eq, xj_add, xj_sub, xj_mul, show ¬ xj 1 = xj 0 from by decide, tn_add, tn_mul, tn_sub, Int.toNat_natCast, Int.reduceToNat, h26, m_paperOf, p2, m_restsBadly _ hr0 hp h22 hq, xb_T, Bool.false_eq_true]
      · rw [xb_F (by rw [decide_eq_false c2, decide_eq_false c1]; simp)]
        simp (disch := omega) only [b204_0, b204_1, b204_4, b204_7, b204_8, b204_9, b204_10, b204_13, b204_16, b204_17, b204_18, b204_21, b204_24, b204_25, b204_28, b204_29, b204_29o, b204_29z, b204_29c, ↓gm_0, ↓gm_1, ↓gm_2, ↓gm_3, ↓gm_4, ↓gm_5, ↓gm_6, ↓gm_7, ↓gm_8, ↓gm_9, ↓gm_10, ↓gm_11, ↓gm_12, ↓gm_13, ↓gm_14, ↓gm_15, ↓gm_16, ↓gm_17, ↓gm_18, ↓gm_19, ↓gm_20, ↓gm_21, ↓gm_22, ↓gm_23, ↓gm_24, ↓gm_25, ↓gm_26, ↓gm_27, ↓gm_28, ↓gm_29, ↓gm_30, ↓gm_31, ↓gm_32, ↓gm_33, ↓gm_34, ↓gm_35, ↓gm_36, ↓gm_37, ↓gm_38, ↓gm_39, ↓gm_40, ↓gm_41, ↓gm_42, ↓gm_43, ↓gm_44, ↓gm_45, ↓gm_46, ↓pm_1, ↓pm_2, ↓pm_8, ↓pm_9, ↓pm_10, ↓pm_11, ↓pm_12, ↓pm_13, ↓pm_14, ↓pm_16, ↓pm_18, ↓pm_21, ↓pm_22, ↓pm_23, ↓pm_24, ↓pm_25, ↓pm_26, ↓pm_28, ↓pm_31, ↓pm_35, ↓pm_36, ↓pm_37, ↓pm_38, ↓pm_40, ↓pm_43, ↓am_0, ↓wm_0, ↓am_3, ↓wm_3, ↓am_4, ↓wm_4, ↓am_5, ↓wm_5, ↓am_6, ↓wm_6, ↓am_7, ↓wm_7, ↓am_15, ↓wm_15, ↓am_17, ↓wm_17, ↓am_19, ↓wm_19, ↓am_20, ↓wm_20, ↓am_27, ↓wm_27, ↓am_29, ↓wm_29, ↓am_30, ↓wm_30, ↓am_32, ↓wm_32, ↓am_33, ↓wm_33, ↓am_34, ↓wm_34, ↓am_39, ↓wm_39, ↓am_41, ↓wm_41, ↓am_42, ↓wm_42, ↓am_44, ↓wm_44, ↓am_45, ↓wm_45, ↓am_46, ↓wm_46, ↓wn_0, ↓wn_46, or_false, false_or, rc_M, List.getElem?_cons_zero, List.getElem?_cons_succ, List.length_cons, List.length_nil, List.set_cons_zero, List.set_cons_succ, true_and, and_true, Option.toList_some, Option.toList_none, List.cons_append, List.nil_append, ↓reduceIte, not_false_eq_true, not_true_eq_false, Nat.reduceAdd, xj0_01, xj1_01, xb_B, xb_True, xb_False, ↓xj_in, xj_nat, Int.toNat_natCast, xj_lt_t, xj_lt_f, xj_le_t, xj_le_f, xj_eq_t, xj_eq_f, xj_lt, xj_le, xj_eq, xj_add, xj_sub, xj_mul, show ¬ xj 1 = xj 0 from by decide, tn_add, tn_mul, tn_sub, Int.toNat_natCast, Int.reduceToNat, h26, m_paperOf, p2, m_restsBadly _ hr0 hp h22 hq, xb_F, Bool.false_eq_true]
    · rw [h1] at p2
      rw [xb_F (by rw [decide_eq_false c1]; simp)]
      simp (disch := omega) only [b204_0, b204_1, b204_4, b204_7, b204_8, b204_9, b204_10, b204_13, b204_16, b204_17, b204_18, b204_21, b204_24, b204_25, b204_28, b204_29, b204_29o, b204_29z, b204_29c, ↓gm_0, ↓gm_1, ↓gm_2, ↓gm_3, ↓gm_4, ↓gm_5, ↓gm_6, ↓gm_7, ↓gm_8, ↓gm_9, ↓gm_10, ↓gm_11, ↓gm_12, ↓gm_13, ↓gm_14, ↓gm_15, ↓gm_16, ↓gm_17, ↓gm_18, ↓gm_19, ↓gm_20, ↓gm_21, ↓gm_22, ↓gm_23, ↓gm_24, ↓gm_25, ↓gm_26, ↓gm_27, ↓gm_28, ↓gm_29, ↓gm_30, ↓gm_31, ↓gm_32, ↓gm_33, ↓gm_34, ↓gm_35, ↓gm_36, ↓gm_37, ↓gm_38, ↓gm_39, ↓gm_40, ↓gm_41, ↓gm_42, ↓gm_43, ↓gm_44, ↓gm_45, ↓gm_46, ↓pm_1, ↓pm_2, ↓pm_8, ↓pm_9, ↓pm_10, ↓pm_11, ↓pm_12, ↓pm_13, ↓pm_14, ↓pm_16, ↓pm_18, ↓pm_21, ↓pm_22, ↓pm_23, ↓pm_24, ↓pm_25, ↓pm_26, ↓pm_28, ↓pm_31, ↓pm_35, ↓pm_36, ↓pm_37, ↓pm_38, ↓pm_40, ↓pm_43, ↓am_0, ↓wm_0, ↓am_3, ↓wm_3, ↓am_4, ↓wm_4, ↓am_5, ↓wm_5, ↓am_6, ↓wm_6, ↓am_7, ↓wm_7, ↓am_15, ↓wm_15, ↓am_17, ↓wm_17, ↓am_19, ↓wm_19, ↓am_20, ↓wm_20, ↓am_27, ↓wm_27, ↓am_29, ↓wm_29, ↓am_30, ↓wm_30, ↓am_32, ↓wm_32, ↓am_33, ↓wm_33, ↓am_34, ↓wm_34, ↓am_39, ↓wm_39, ↓am_41, ↓wm_41, ↓am_42, ↓wm_42, ↓am_44, ↓wm_44, ↓am_45, ↓wm_45, ↓am_46, ↓wm_46, ↓wn_0, ↓wn_46, or_false, false_or, rc_M, List.getElem?_cons_zero, List.getElem?_cons_succ, List.length_cons, List.length_nil, List.set_cons_zero, List.set_cons_succ, true_and, and_true, Option.toList_some, Option.toList_none, List.cons_append, List.nil_append, ↓reduceIte, not_false_eq_true, not_true_eq_false, Nat.reduceAdd, xj0_01, xj1_01, xb_B, xb_True, xb_False, ↓xj_in, xj_nat, Int.toNat_natCast, xj_lt_t, xj_lt_f, xj_le_t, xj_le_f, xj_eq_t, xj_eq_f, xj_lt, xj_le, xj_eq, xj_add, xj_sub, xj_mul, show ¬ xj 1 = xj 0 from by decide, tn_add, tn_mul, tn_sub, Int.toNat_natCast, Int.reduceToNat, h26, m_paperOf, p2]
theorem m_signs (hD : 5 ≤ D) (hr : rK R O d) (hp : p < of_np O) (hg : rG R O d p q) : xk_Cl D 205 [.ref b, .int (xj p)] (xm f b R, w) K ↔ K none (xm f b (signR R O d p q), w) := by
  rw [e205 (by omega)]
  have hr0 := hr
  obtain ⟨h22, hq, h23, h24, h25, h26⟩ := hg
  obtain ⟨hw, hd, ⟨o0, o1, o2, o3, o4, o5, o6, o7, o8⟩, e0, e1, e2, e3, e4, e5⟩ := hr
  have hn := hw.2.2.2.1
  obtain ⟨q0, q1, q2, q3, q4⟩ := o8 p hp
  unfold signR signG endF
  cases hv : voidB O d p q
  · simp (disch := omega) only [b205_0, b205_1, b205_2, b205_5, b205_6, b205_7, b205_10, b205_12, b205_13, b205_16, b205_17, b205_18, b205_19, b205_22, b205_23, b205_24, b205_25, b205_28, b205_30, b205_31, b205_32, b205_33, b205_36, b205_37, b205_38, b205_41, b205_43, b205_44, b205_47, b205_48, b205_49, b205_52, b205_54, b205_55, b205_58, b205_59, b205_60, b205_63, b205_65, b205_66, b205_67, b205_68, b205_69, b205_70, b205_73, b205_75, b205_76, b205_77, b205_78, b205_81, b205_83, b205_84, b205_85, b205_86, b205_87, b205_88, b205_89, b205_90, b205_93, b205_94, b205_97, b205_98, b205_99, ↓gm_0, ↓gm_1, ↓gm_2, ↓gm_3, ↓gm_4, ↓gm_5, ↓gm_6, ↓gm_7, ↓gm_8, ↓gm_9, ↓gm_10, ↓gm_11, ↓gm_12, ↓gm_13, ↓gm_14, ↓gm_15, ↓gm_16, ↓gm_17, ↓gm_18, ↓gm_19, ↓gm_20, ↓gm_21, ↓gm_22, ↓gm_23, ↓gm_24, ↓gm_25, ↓gm_26, ↓gm_27, ↓gm_28, ↓gm_29, ↓gm_30, ↓gm_31, ↓gm_32, ↓gm_33, ↓gm_34, ↓gm_35, ↓gm_36, ↓gm_37, ↓gm_38, ↓gm_39, ↓gm_40, ↓gm_41, ↓gm_42, ↓gm_43, ↓gm_44, ↓gm_45, ↓gm_46, ↓pm_1, ↓pm_2, ↓pm_8, ↓pm_9, ↓pm_10, ↓pm_11, ↓pm_12, ↓pm_13, ↓pm_14, ↓pm_16, ↓pm_18, ↓pm_21, ↓pm_22, ↓pm_23, ↓pm_24, ↓pm_25, ↓pm_26, ↓pm_28, ↓pm_31, ↓pm_35, ↓pm_36, ↓pm_37, ↓pm_38, ↓pm_40, ↓pm_43, ↓am_0, ↓wm_0, ↓am_3, ↓wm_3, ↓am_4, ↓wm_4, ↓am_5, ↓wm_5, ↓am_6, ↓wm_6, ↓am_7, ↓wm_7, ↓am_15, ↓wm_15, ↓am_17, ↓wm_17, ↓am_19, ↓wm_19, ↓am_20, ↓wm_20, ↓am_27, ↓wm_27, ↓am_29, ↓wm_29, ↓am_30, ↓wm_30, ↓am_32, ↓wm_32, ↓am_33, ↓wm_33, ↓am_34, ↓wm_34, ↓am_39, ↓wm_39, ↓am_41, ↓wm_41, ↓am_42, ↓wm_42, ↓am_44, ↓wm_44, ↓am_45, ↓wm_45, ↓am_46, ↓wm_46, ↓wn_0, ↓wn_46, or_false, false_or, rc_M, List.getElem?_cons_zero, List.getElem?_cons_succ, List.length_cons, List.length_nil, List.set_cons_zero, List.set_cons_succ, true_and, and_true, Option.toList_some, Option.toList_none, List.cons_append, List.nil_append, ↓reduceIte, not_false_eq_true, not_true_eq_false, Nat.reduceAdd, xj0_01, xj1_01, xb_B, xb_True, xb_False, ↓xj_in, xj_nat, Int.toNat_natCast, xj_lt_t, xj_lt_f, xj_le_t, xj_le_f, xj_eq_t, xj_eq_f, xj_lt, xj_le, xj_eq, xj_add, xj_sub, xj_mul, show ¬ xj 1 = xj 0 from by decide, tn_add, tn_mul, tn_sub, Int.toNat_natCast, Int.reduceToNat, mS_S, mS_So, mS_A, mS_J, mA_A, mA_Ao, mA_S, mA_J, mJ_J, mJ_Jo, mJ_S, mJ_A, sS_S, sA_A, sS_A, sS_J, sJ_A, up_e, up_n, m_isVoid _ hr0 hp h22 hq h26, hv, h23, h24, h25, m_fixedOf, q0, q1, Bool.false_eq_true, xb_F]
  · simp (disch := omega) only [b205_0, b205_1, b205_2, b205_5, b205_6, b205_7, b205_10, b205_12, b205_13, b205_16, b205_17, b205_18, b205_19, b205_22, b205_23, b205_24, b205_25, b205_28, b205_30, b205_31, b205_32, b205_33, b205_36, b205_37, b205_38, b205_41, b205_43, b205_44, b205_47, b205_48, b205_49, b205_52, b205_54, b205_55, b205_58, b205_59, b205_60, b205_63, b205_65, b205_66, b205_67, b205_68, b205_69, b205_70, b205_73, b205_75, b205_76, b205_77, b205_78, b205_81, b205_83, b205_84, b205_85, b205_86, b205_87, b205_88, b205_89, b205_90, b205_93, b205_94, b205_97, b205_98, b205_99, ↓gm_0, ↓gm_1, ↓gm_2, ↓gm_3, ↓gm_4, ↓gm_5, ↓gm_6, ↓gm_7, ↓gm_8, ↓gm_9, ↓gm_10, ↓gm_11, ↓gm_12, ↓gm_13, ↓gm_14, ↓gm_15, ↓gm_16, ↓gm_17, ↓gm_18, ↓gm_19, ↓gm_20, ↓gm_21, ↓gm_22, ↓gm_23, ↓gm_24, ↓gm_25, ↓gm_26, ↓gm_27, ↓gm_28, ↓gm_29, ↓gm_30, ↓gm_31, ↓gm_32, ↓gm_33, ↓gm_34, ↓gm_35, ↓gm_36, ↓gm_37, ↓gm_38, ↓gm_39, ↓gm_40, ↓gm_41, ↓gm_42, ↓gm_43, ↓gm_44, ↓gm_45, ↓gm_46, ↓pm_1, ↓pm_2, ↓pm_8, ↓pm_9, ↓pm_10, ↓pm_11, ↓pm_12, ↓pm_13, ↓pm_14, ↓pm_16, ↓pm_18, ↓pm_21, ↓pm_22, ↓pm_23, ↓pm_24, ↓pm_25, ↓pm_26, ↓pm_28, ↓pm_31, ↓pm_35, ↓pm_36, ↓pm_37, ↓pm_38, ↓pm_40, ↓pm_43, ↓am_0, ↓wm_0, ↓am_3, ↓wm_3, ↓am_4, ↓wm_4, ↓am_5, ↓wm_5, ↓am_6, ↓wm_6, ↓am_7, ↓wm_7, ↓am_15, ↓wm_15, ↓am_17, ↓wm_17, ↓am_19, ↓wm_19, ↓am_20, ↓wm_20, ↓am_27, ↓wm_27, ↓am_29, ↓wm_29, ↓am_30, ↓wm_30, ↓am_32, ↓wm_32, ↓am_33, ↓wm_33, ↓am_34, ↓wm_34, ↓am_39, ↓wm_39, ↓am_41, ↓wm_41, ↓am_42, ↓wm_42, ↓am_44, ↓wm_44, ↓am_45, ↓wm_45, ↓am_46, ↓wm_46, ↓wn_0, ↓wn_46, or_false, false_or, rc_M, List.getElem?_cons_zero, List.getElem?_cons_succ, List.length_cons, List.length_nil, List.set_cons_zero, List.set_cons_succ, true_and, and_true, Option.toList_some, Option.toList_none, List.cons_append, List.nil_append, ↓reduceIte, not_false_eq_true, not_true_eq_false, Nat.reduceAdd, xj0_01, xj1_01, xb_B, xb_True, xb_False, ↓xj_in, xj_nat, Int.toNat_natCast, xj_lt_t, xj_lt_f, xj_le_t, xj_le_f, xj_eq_t, xj_eq_f, xj_lt, xj_le, xj_eq, xj_add, xj_sub, xj_mul, show ¬ xj 1 = xj 0 from by decide, tn_add, tn_mul, tn_sub, Int.toNat_natCast, Int.reduceToNat, mS_S, mS_So, mS_A, mS_J, mA_A, mA_Ao, mA_S, mA_J, mJ_J, mJ_Jo, mJ_S, mJ_A, sS_S, sA_A, sS_A, sS_J, sJ_A, up_e, up_n, m_isVoid _ hr0 hp h22 hq h26, hv, h23, h24, h25, m_fixedOf, q0, q1, Bool.false_eq_true, xb_T]
theorem rK_sign (hr : rK R O d) (hp : p < of_np O) (hc : canF O d p = true) : rK (signR R O d p q) O (writeD O d p q) := by
  obtain ⟨hw, hd, ⟨o0, o1, o2, o3, o4, o5, o6, o7, o8⟩, e0, e1, e2, e3, e4, e5⟩ := hr
  have hn := hw.2.2.2.1
  have hs := hw.2.2.2.2.2.2 p hp
  have hb := beginF_rng hw hd hp
  have he : 0 ≤ endF O d p := by unfold endF; omega
  have lo : ∀ i, i ≠ 10 → i ≠ 11 → i ≠ 12 → i ≠ 13 → i ≠ 14 + 3 * p → i ≠ 14 + 3 * p + 1 → signG O d p q (mA R 20) i = mA R 20 i := fun i h1 h2 h3 h4 h5 h6 => by
    unfold signG
    rw [up_n h6, up_n h5, up_n h4, up_n h3, up_n h2, up_n h1]
  have eq : mA (signR R O d p q) 20 = signG O d p q (mA R 20) := mA_A
  unfold rK
  rw [eq]
  refine ⟨hw, xw_writeD hw hd hc, ⟨?_, ?_, ?_, ?_, ?_, ?_, fun c hc => ?_, fun k hk => ?_, fun i hi => ?_⟩, ?_, ?_, ?_, ?_, fun hc => ?_, fun i hi => ?_⟩
  · rw [lo _ (by omega) (by omega) (by omega) (by omega) (by omega) (by omega), o0]
  · rw [lo _ (by omega) (by omega) (by omega) (by omega) (by omega) (by omega), o1]
  · rw [lo _ (by omega) (by omega) (by omega) (by omega) (by omega) (by omega), o2]
  · rw [lo _ (by omega) (by omega) (by omega) (by omega) (by omega) (by omega), o3]
  · rw [lo _ (by omega) (by omega) (by omega) (by omega) (by omega) (by omega), o4]
  · rw [lo _ (by omega) (by omega) (by omega) (by omega) (by omega) (by omega), o5]
  · rw [lo _ (by omega) (by omega) (by omega) (by omega) (by omega) (by omega), o6 c hc]
  · have := hw.2.2.1
    rw [lo _ (by omega) (by omega) (by omega) (by omega) (by omega) (by omega), lo _ (by omega) (by omega) (by omega) (by omega) (by omega) (by omega), lo _ (by omega) (by omega) (by omega) (by omega) (by omega) (by omega)]
    exact o7 k hk
  · rw [lo _ (by omega) (by omega) (by omega) (by omega) (by omega) (by omega), lo _ (by omega) (by omega) (by omega) (by omega) (by omega) (by omega), lo _ (by omega) (by omega) (by omega) (by omega) (by omega) (by omega), lo _ (by omega) (by omega) (by omega) (by omega) (by omega) (by omega), lo _ (by omega) (by omega) (by omega) (by omega) (by omega) (by omega)]
    exact o8 i hi
  · unfold signG; rw [up_n (by omega), up_n (by omega), up_n (by omega), up_n (by omega), up_n (by omega), up_e]; rfl
  · unfold signG; rw [up_n (by omega), up_n (by omega), up_n (by omega), up_n (by omega), up_e]; rfl
  · unfold signG; rw [up_n (by omega), up_n (by omega), up_n (by omega), up_e]; rfl
  · unfold signG; rw [up_n (by omega), up_n (by omega), up_e]; rfl
  · show 0 ≤ of_ow O p ∧ of_ow O p < of_nc O
    omega
  · obtain ⟨p0, p1, p2, p3, p4⟩ := e5 i hi
    have pb : (2 ^ p).testBit i = decide (p = i) := Nat.testBit_two_pow
    have vv : (writeD O d p q).2.2.2.2.2.1.testBit i = (d.2.2.2.2.2.1.testBit i || (voidB O d p q && decide (p = i))) := by
      show (if nibF O d p < 0 ∨ noRF O d p q = true then d.2.2.2.2.2.1 ||| 2 ^ p else d.2.2.2.2.2.1).testBit i = _
      unfold voidB
      by_cases c : nibF O d p < 0 ∨ noRF O d p q = true
      · rw [if_pos c, Nat.testBit_or, pb]
        have : (decide (nibF O d p < 0) || noRF O d p q) = true := by simpa using c
        rw [this, Bool.true_and]
      · rw [if_neg c]
        have : (decide (nibF O d p < 0) || noRF O d p q) = false := by
          rw [Bool.or_eq_false_iff]
          exact ⟨decide_eq_false (fun q => c (Or.inl q)), by cases h : noRF O d p q; rfl; exact absurd (Or.inr h) c⟩
        rw [this, Bool.false_and, Bool.or_false]
    have sv : (writeD O d p q).2.2.2.2.1.testBit i = (d.2.2.2.2.1.testBit i || decide (p = i)) := by
      show (d.2.2.2.2.1 ||| 2 ^ p).testBit i = _
      rw [Nat.testBit_or, pb]
    have ev : (writeD O d p q).2.2.2.2.2.2.2 i = if i = p then endF O d p else d.2.2.2.2.2.2.2 i := rfl
    rw [vv, sv, ev]
    by_cases c : p = i
    · subst c
      have hns : d.2.2.2.2.1.testBit p = false := by
        unfold canF at hc
        have := (of_decide_eq_true hc).2.1
        rwa [Int.toNat_natCast] at this
      have hnv : d.2.2.2.2.2.1.testBit p = false := by
        cases h : d.2.2.2.2.2.1.testBit p
        · rfl
        · have := p4 h
          rw [hns] at p3
          rw [decide_eq_true this] at p3
          cases p3
      rw [if_pos rfl, hnv, hns]
      refine ⟨?_, ?_, ?_, ?_, fun _ => he⟩
      · unfold signG; rw [up_n (by omega)]; exact up_e
      · unfold signG; rw [up_e]; simp
      · rw [lo _ (by omega) (by omega) (by omega) (by omega) (by omega) (by omega)]; exact p2
      · simp [he]
    · rw [if_neg (Ne.symm c)]
      refine ⟨?_, ?_, ?_, ?_, ?_⟩
      · rw [lo _ (by omega) (by omega) (by omega) (by omega) (by omega) (by omega)]; exact p0
      · rw [lo _ (by omega) (by omega) (by omega) (by omega) (by omega) (by omega), p1]; simp [c]
      · rw [lo _ (by omega) (by omega) (by omega) (by omega) (by omega) (by omega)]; exact p2
      · rw [p3]; simp [c]
      · simpa [c] using p4
end XS45
