/-! drawn days of the model -/
theorem jx_add (a b : Int) : jx a + jx b = jx (a + b) := (Int64.ofInt_add a b).symm
theorem jx_sub (a b : Int) : jx a - jx b = jx (a - b) := (Int64.ofInt_sub a b).symm
theorem jx_mul (a b : Int) : jx a * jx b = jx (a * b) := (Int64.ofInt_mul a b).symm
theorem jx_l2i (a : Int) : (jx a).toInt32 = xj a := Int64.toInt32_ofInt
theorem jx_ne {b : Int} (h3 : 0 < b) (h4 : b ≤ 9223372036854775807) : ¬ jx b = 0 := fun q => by
  rw [show (0 : Int64) = jx 0 by decide] at q
  have := (jx_eq (by omega) h4 (by omega) (by omega)).mp q
  omega
theorem jx_div {a b : Int} (h1 : 0 ≤ a) (h2 : a ≤ 9223372036854775807) (h3 : 0 < b) (h4 : b ≤ 9223372036854775807) : jx a / jx b = jx (a / b) := by
  have hb : (jx b).toInt = b := jx_toInt (by omega) h4
  have ha : (jx a).toInt = a := jx_toInt (by omega) h2
  have hr : 0 ≤ a / b := Int.ediv_nonneg h1 (by omega)
  have hr2 : a / b ≤ a := Int.ediv_le_self b h1
  have hne : jx b ≠ -1 := fun q => by
    have : (jx b).toInt = (-1 : Int64).toInt := by rw [q]
    rw [hb, show (-1 : Int64).toInt = -1 by decide] at this
    omega
  apply Int64.toInt_inj.mp
  rw [Int64.toInt_div_of_ne_right _ _ hne, ha, hb, jx_toInt (by omega) (by omega), Int.tdiv_eq_ediv_of_nonneg h1]
def drF (x : Int) : Int := (x * 1103515245 + 12345) % 2147483648
def bpN (s : Nat) (m : Int) : Int := lstI (fun k => s.testBit k && decide ((cnt (fun i => s.testBit i) k : Int) = m)) 6
def dayF (O : Of) : Nat → Dy → Int → Dy × Int
  | 0, d, x => (d, x)
  | n + 1, d, x => if unsF O d = 0 then (d, x) else if canF O d (bpN (unsF O d) (drF x / 65536 % (bcF (unsF O d) : Nat))) = true then dayF O n (writeD O d (bpN (unsF O d) (drF x / 65536 % (bcF (unsF O d) : Nat))).toNat 63) (drF x) else (d, drF x)
def ddF (O : Of) (d : Dy) (x : Int) : Nat → Int × Int × Int
  | 0 => (x, 0, 0)
  | j + 1 => ((dayF O 6 d (ddF O d x j).1).2, (ddF O d x j).2.1 + wtF O (dayF O 6 d (ddF O d x j).1).1, (ddF O d x j).2.2 + (dayF O 6 d (ddF O d x j).1).1.1)
theorem drF_rng (x : Int) : 0 ≤ drF x ∧ drF x ≤ 2147483647 := by unfold drF; omega
/-- a bit with so many ahead of it -/
theorem bpN_ex : ∀ s, s < 64 → ∀ m, m < bcF s → ∃ k, k < 6 ∧ s.testBit k = true ∧ cnt (fun i => s.testBit i) k = m := by decide +kernel
theorem bpN_at {s m : Nat} (hs : s < 64) (hm : m < bcF s) : ∃ k : Nat, k < 6 ∧ bpN s m = k ∧ s.testBit k = true ∧ cnt (fun i => s.testBit i) k = m ∧ ∀ i, i < k → s.testBit i = true → cnt (fun i => s.testBit i) i < m := by
  obtain ⟨k0, h1, h2, h3⟩ := bpN_ex s hs m hm
  unfold bpN
  rcases lst_cases (fun k => s.testBit k && decide ((cnt (fun i => s.testBit i) k : Int) = (m : Nat))) 6 with ⟨k, c1, c2, c3, c4⟩ | ⟨c1, c2⟩
  · rw [Bool.and_eq_true] at c2
    have e := of_decide_eq_true c2.2
    refine ⟨k, c1, c4, c2.1, by omega, fun i hi hb => ?_⟩
    have h4 := c3 i hi
    rw [hb, Bool.true_and] at h4
    have h5 := of_decide_eq_false h4
    have mono : ∀ a b : Nat, a ≤ b → cnt (fun i => s.testBit i) a ≤ cnt (fun i => s.testBit i) b := by
      intro a b hab
      induction b with
      | zero => have : a = 0 := by omega
                subst this; exact Nat.le_refl _
      | succ b ih =>
        by_cases e : a = b + 1
        · subst e; exact Nat.le_refl _
        · have := ih (by omega)
          have e2 : cnt (fun i => s.testBit i) (b + 1) = if s.testBit b = true then cnt (fun i => s.testBit i) b + 1 else cnt (fun i => s.testBit i) b := rfl
          rw [e2]; split <;> omega
    have := mono i k (by omega)
    omega
  · have := c1 k0 h1
    rw [h2, h3] at this
    simp at this
theorem uns0_iff {O : Of} {d : Dy} (h : of_np O ≤ sgnN O d) : unsF O d = 0 := by
  apply Nat.eq_of_testBit_eq
  intro i
  unfold unsF
  rw [msk_bit, Nat.zero_testBit]
  by_cases c : i < of_np O
  · rw [cnt_full _ h i c]; simp
  · simp [c]
theorem bc_pos : ∀ s, s < 64 → s ≠ 0 → 0 < bcF s := by decide +kernel
section XS70
variable {D b k p q s n t : Nat} {f g : Nat → xk_C} {w : Nat × Nat × Nat} {K : Option Value → xk_S → Prop} {O : Of} {L : Lg} {d : Dy} {R : Md} {x y z : Int} {u v : Int64}
theorem m_draw (hD : 1 ≤ D) (h43 : mS R 43 = x) (h1 : 0 ≤ x) (h2 : x ≤ 2147483647) (hn : 0 < n) (hn6 : n ≤ 6) : xk_Cl D 247 [.ref b, .int (xj n)] (xm f b R, w) K ↔ K (some (.int (xj (drF x / 65536 % (n : Nat))))) (xm f b (sS R 43 (drF x)), w) := by
  rw [e247 (by omega)]
  have l1 : (1103515245 : Int64) = jx 1103515245 := by decide
  have l2 : (12345 : Int64) = jx 12345 := by decide
  have l3 : (2147483648 : Int64) = jx 2147483648 := by decide
  have l4 : (65536 : Int64) = jx 65536 := by decide
  have n1 : ¬ jx 2147483648 = 0 := by decide
  have n2 : ¬ jx 65536 = 0 := by decide
  have n3 : ¬ jx (n : Nat) = 0 := jx_ne (by omega) (by omega)
  have hr := drF_rng x
  have ed : x * 1103515245 + 12345 - (x * 1103515245 + 12345) / 2147483648 * 2147483648 = drF x := by unfold drF; omega
  have hq : 0 ≤ drF x / 65536 ∧ drF x / 65536 ≤ 32767 := by omega
  have em : drF x / 65536 - drF x / 65536 / (n : Nat) * (n : Nat) = drF x / 65536 % (n : Nat) := by
    have h := Int.emod_def (drF x / 65536) (n : Nat)
    rw [Int.mul_comm] at h
    omega
  simp (disch := omega) only [b247_0, b247_1, b247_2, b247_5, b247_8, b247_9, b247_12, ↓gm_0, ↓gm_1, ↓gm_2, ↓gm_3, ↓gm_4, ↓gm_5, ↓gm_6, ↓gm_7, ↓gm_8, ↓gm_9, ↓gm_10, ↓gm_11, ↓gm_12, ↓gm_13, ↓gm_14, ↓gm_15, ↓gm_16, ↓gm_17, ↓gm_18, ↓gm_19, ↓gm_20, ↓gm_21, ↓gm_22, ↓gm_23, ↓gm_24, ↓gm_25, ↓gm_26, ↓gm_27, ↓gm_28, ↓gm_29, ↓gm_30, ↓gm_31, ↓gm_32, ↓gm_33, ↓gm_34, ↓gm_35, ↓gm_36, ↓gm_37, ↓gm_38, ↓gm_39, ↓gm_40, ↓gm_41, ↓gm_42, ↓gm_43, ↓gm_44, ↓gm_45, ↓gm_46, ↓pm_1, ↓pm_2, ↓pm_8, ↓pm_9, ↓pm_10, ↓pm_11, ↓pm_12, ↓pm_13, ↓pm_14, ↓pm_16, ↓pm_18, ↓pm_21, ↓pm_22, ↓pm_23, ↓pm_24, ↓pm_25, ↓pm_26, ↓pm_28, ↓pm_31, ↓pm_35, ↓pm_36, ↓pm_37, ↓pm_38, ↓pm_40, ↓pm_43, ↓am_0, ↓wm_0, ↓am_3, ↓wm_3, ↓am_4, ↓wm_4, ↓am_5, ↓wm_5, ↓am_6, ↓wm_6, ↓am_7, ↓wm_7, ↓am_15, ↓wm_15, ↓am_17, ↓wm_17, ↓am_19, ↓wm_19, ↓am_20, ↓wm_20, ↓am_27, ↓wm_27, ↓am_29, ↓wm_29, ↓am_30, ↓wm_30, ↓am_32, ↓wm_32, ↓am_33, ↓wm_33, ↓am_34, ↓wm_34, ↓am_39, ↓wm_39, ↓am_41, ↓wm_41, ↓am_42, ↓wm_42, ↓am_44, ↓wm_44, ↓am_45, ↓wm_45, ↓am_46, ↓wm_46, ↓wn_0, ↓wn_46, or_false, false_or, rc_M, List.getElem?_cons_zero, List.getElem?_cons_succ, List.length_cons, List.length_nil, List.set_cons_zero, List.set_cons_succ, true_and, and_true, Option.toList_some, Option.toList_none, List.cons_append, List.nil_append, ↓reduceIte, not_false_eq_true, not_true_eq_false, Nat.reduceAdd, xj0_01, xj1_01, xb_B, xb_True, xb_False, ↓xj_in, xj_nat, Int.toNat_natCast, xj_lt_t, xj_lt_f, xj_le_t, xj_le_f, xj_eq_t, xj_eq_f, xj_lt, xj_le, xj_eq, xj_add, xj_sub, xj_mul, show ¬ xj 1 = xj 0 from by decide, h43, l1, l2, l3, jx_mul, jx_add]
  simp (disch := omega) only [b247_13, l3]
  rw [b247_16 n1, jx_div (by omega) (by omega) (by omega) (by omega), jx_mul, jx_sub, ed]
  simp (disch := omega) only [b247_17, b247_20, b247_21, b247_24, ↓gm_0, ↓gm_1, ↓gm_2, ↓gm_3, ↓gm_4, ↓gm_5, ↓gm_6, ↓gm_7, ↓gm_8, ↓gm_9, ↓gm_10, ↓gm_11, ↓gm_12, ↓gm_13, ↓gm_14, ↓gm_15, ↓gm_16, ↓gm_17, ↓gm_18, ↓gm_19, ↓gm_20, ↓gm_21, ↓gm_22, ↓gm_23, ↓gm_24, ↓gm_25, ↓gm_26, ↓gm_27, ↓gm_28, ↓gm_29, ↓gm_30, ↓gm_31, ↓gm_32, ↓gm_33, ↓gm_34, ↓gm_35, ↓gm_36, ↓gm_37, ↓gm_38, ↓gm_39, ↓gm_40, ↓gm_41, ↓gm_42, ↓gm_43, ↓gm_44, ↓gm_45, ↓gm_46, ↓pm_1, ↓pm_2, ↓pm_8, ↓pm_9, ↓pm_10, ↓pm_11, ↓pm_12, ↓pm_13, ↓pm_14, ↓pm_16, ↓pm_18, ↓pm_21, ↓pm_22, ↓pm_23, ↓pm_24, ↓pm_25, ↓pm_26, ↓pm_28, ↓pm_31, ↓pm_35, ↓pm_36, ↓pm_37, ↓pm_38, ↓pm_40, ↓pm_43, ↓am_0, ↓wm_0, ↓am_3, ↓wm_3, ↓am_4, ↓wm_4, ↓am_5, ↓wm_5, ↓am_6, ↓wm_6, ↓am_7, ↓wm_7, ↓am_15, ↓wm_15, ↓am_17, ↓wm_17, ↓am_19, ↓wm_19, ↓am_20, ↓wm_20, ↓am_27, ↓wm_27, ↓am_29, ↓wm_29, ↓am_30, ↓wm_30, ↓am_32, ↓wm_32, ↓am_33, ↓wm_33, ↓am_34, ↓wm_34, ↓am_39, ↓wm_39, ↓am_41, ↓wm_41, ↓am_42, ↓wm_42, ↓am_44, ↓wm_44, ↓am_45, ↓wm_45, ↓am_46, ↓wm_46, ↓wn_0, ↓wn_46, or_false, false_or, rc_M, List.getElem?_cons_zero, List.getElem?_cons_succ, List.length_cons, List.length_nil, List.set_cons_zero, List.set_cons_succ, true_and, and_true, Option.toList_some, Option.toList_none, List.cons_append, List.nil_append, ↓reduceIte, not_false_eq_true, not_true_eq_false, Nat.reduceAdd, xj0_01, xj1_01, xb_B, xb_True, xb_False, ↓xj_in, xj_nat, Int.toNat_natCast, xj_lt_t, xj_lt_f, xj_le_t, xj_le_f, xj_eq_t, xj_eq_f, xj_lt, xj_le, xj_eq, xj_add, xj_sub, xj_mul, show ¬ xj 1 = xj 0 from by decide, mS_S, mS_So, mS_A, mS_J, mA_A, mA_Ao, mA_S, mA_J, mJ_J, mJ_Jo, mJ_S, mJ_A, sS_S, sA_A, sS_A, sS_J, sJ_A, l4]
  rw [b247_27 n2, jx_div (by omega) (by omega) (by omega) (by omega)]
  simp (disch := omega) only [b247_28, b247_29, jx_i2l]
  rw [b247_30 n3, jx_div (by omega) (by omega) (by omega) (by omega), jx_mul, jx_sub, em]
  simp (disch := omega) only [b247_31, b247_32, jx_l2i]
theorem m_drawn_no (hD : 4 ≤ D) (hr : rK R O d) (h0 : unsF O d = 0) : xk_Cl D 248 [.ref b] (xm f b R, w) K ↔ K (some (.int (xj (-1)))) (xm f b R, w) := by
  rw [e248 (by omega)]
  have e : ((unsF O d : Nat) : Int) = 0 := by omega
  simp (disch := omega) only [b248_0, b248_1, b248_4, b248_5, b248_6, b248_9, b248_10, ↓gm_0, ↓gm_1, ↓gm_2, ↓gm_3, ↓gm_4, ↓gm_5, ↓gm_6, ↓gm_7, ↓gm_8, ↓gm_9, ↓gm_10, ↓gm_11, ↓gm_12, ↓gm_13, ↓gm_14, ↓gm_15, ↓gm_16, ↓gm_17, ↓gm_18, ↓gm_19, ↓gm_20, ↓gm_21, ↓gm_22, ↓gm_23, ↓gm_24, ↓gm_25, ↓gm_26, ↓gm_27, ↓gm_28, ↓gm_29, ↓gm_30, ↓gm_31, ↓gm_32, ↓gm_33, ↓gm_34, ↓gm_35, ↓gm_36, ↓gm_37, ↓gm_38, ↓gm_39, ↓gm_40, ↓gm_41, ↓gm_42, ↓gm_43, ↓gm_44, ↓gm_45, ↓gm_46, ↓pm_1, ↓pm_2, ↓pm_8, ↓pm_9, ↓pm_10, ↓pm_11, ↓pm_12, ↓pm_13, ↓pm_14, ↓pm_16, ↓pm_18, ↓pm_21, ↓pm_22, ↓pm_23, ↓pm_24, ↓pm_25, ↓pm_26, ↓pm_28, ↓pm_31, ↓pm_35, ↓pm_36, ↓pm_37, ↓pm_38, ↓pm_40, ↓pm_43, ↓am_0, ↓wm_0, ↓am_3, ↓wm_3, ↓am_4, ↓wm_4, ↓am_5, ↓wm_5, ↓am_6, ↓wm_6, ↓am_7, ↓wm_7, ↓am_15, ↓wm_15, ↓am_17, ↓wm_17, ↓am_19, ↓wm_19, ↓am_20, ↓wm_20, ↓am_27, ↓wm_27, ↓am_29, ↓wm_29, ↓am_30, ↓wm_30, ↓am_32, ↓wm_32, ↓am_33, ↓wm_33, ↓am_34, ↓wm_34, ↓am_39, ↓wm_39, ↓am_41, ↓wm_41, ↓am_42, ↓wm_42, ↓am_44, ↓wm_44, ↓am_45, ↓wm_45, ↓am_46, ↓wm_46, ↓wn_0, ↓wn_46, or_false, false_or, rc_M, List.getElem?_cons_zero, List.getElem?_cons_succ, List.length_cons, List.length_nil, List.set_cons_zero, List.set_cons_succ, true_and, and_true, Option.toList_some, Option.toList_none, List.cons_append, List.nil_append, ↓reduceIte, not_false_eq_true, not_true_eq_false, Nat.reduceAdd, xj0_01, xj1_01, xb_B, xb_True, xb_False, ↓xj_in, xj_nat, Int.toNat_natCast, xj_lt_t, xj_lt_f, xj_le_t, xj_le_f, xj_eq_t, xj_eq_f, xj_lt, xj_le, xj_eq, xj_add, xj_sub, xj_mul, show ¬ xj 1 = xj 0 from by decide, m_unsigned _ hr, e]
theorem m_drawn (hD : 4 ≤ D) (hr : rK R O d) (h0 : unsF O d ≠ 0) (h43 : mS R 43 = x) (h1 : 0 ≤ x) (h2 : x ≤ 2147483647) : xk_Cl D 248 [.ref b] (xm f b R, w) K ↔ K (some (.int (xj (bpN (unsF O d) (drF x / 65536 % (bcF (unsF O d) : Nat)))))) (xm f b (sS R 43 (drF x)), w) := by
  rw [e248 (by omega)]
  have hu := uns_lt (d := d) hr.1
  have hb := bc_pos _ hu h0
  have hb6 := bc_le (unsF O d)
  have hx := drF_rng x
  have hm : 0 ≤ drF x / 65536 % (bcF (unsF O d) : Nat) ∧ drF x / 65536 % (bcF (unsF O d) : Nat) < (bcF (unsF O d) : Nat) := ⟨Int.emod_nonneg _ (by omega), Int.emod_lt_of_pos _ (by omega)⟩
  simp (disch := omega) only [b248_0, b248_1, b248_4, b248_5, b248_6, b248_9, b248_10, b248_11, b248_12, b248_13, b248_16, b248_19, b248_20, b248_21, ↓gm_0, ↓gm_1, ↓gm_2, ↓gm_3, ↓gm_4, ↓gm_5, ↓gm_6, ↓gm_7, ↓gm_8, ↓gm_9, ↓gm_10, ↓gm_11, ↓gm_12, ↓gm_13, ↓gm_14, ↓gm_15, ↓gm_16, ↓gm_17, ↓gm_18, ↓gm_19, ↓gm_20, ↓gm_21, ↓gm_22, ↓gm_23, ↓gm_24, ↓gm_25, ↓gm_26, ↓gm_27, ↓gm_28, ↓gm_29, ↓gm_30, ↓gm_31, ↓gm_32, ↓gm_33, ↓gm_34, ↓gm_35, ↓gm_36, ↓gm_37, ↓gm_38, ↓gm_39, ↓gm_40, ↓gm_41, ↓gm_42, ↓gm_43, ↓gm_44, ↓gm_45, ↓gm_46, ↓pm_1, ↓pm_2, ↓pm_8, ↓pm_9, ↓pm_10, ↓pm_11, ↓pm_12, ↓pm_13, ↓pm_14, ↓pm_16, ↓pm_18, ↓pm_21, ↓pm_22, ↓pm_23, ↓pm_24, ↓pm_25, ↓pm_26, ↓pm_28, ↓pm_31, ↓pm_35, ↓pm_36, ↓pm_37, ↓pm_38, ↓pm_40, ↓pm_43, ↓am_0, ↓wm_0, ↓am_3, ↓wm_3, ↓am_4, ↓wm_4, ↓am_5, ↓wm_5, ↓am_6, ↓wm_6, ↓am_7, ↓wm_7, ↓am_15, ↓wm_15, ↓am_17, ↓wm_17, ↓am_19, ↓wm_19, ↓am_20, ↓wm_20, ↓am_27, ↓wm_27, ↓am_29, ↓wm_29, ↓am_30, ↓wm_30, ↓am_32, ↓wm_32, ↓am_33, ↓wm_33, ↓am_34, ↓wm_34, ↓am_39, ↓wm_39, ↓am_41, ↓wm_41, ↓am_42, ↓wm_42, ↓am_44, ↓wm_44, ↓am_45, ↓wm_45, ↓am_46, ↓wm_46, ↓wn_0, ↓wn_46, or_false, false_or, rc_M, List.getElem?_cons_zero, List.getElem?_cons_succ, List.length_cons, List.length_nil, List.set_cons_zero, List.set_cons_succ, true_and, and_true, Option.toList_some, Option.toList_none, List.cons_append, List.nil_append, ↓reduceIte, not_false_eq_true, not_true_eq_false, Nat.reduceAdd, xj0_01, xj1_01, xb_B, xb_True, xb_False, ↓xj_in, xj_nat, Int.toNat_natCast, xj_lt_t, xj_lt_f, xj_le_t, xj_le_f, xj_eq_t, xj_eq_f, xj_lt, xj_le, xj_eq, xj_add, xj_sub, xj_mul, show ¬ xj 1 = xj 0 from by decide, m_unsigned _ hr, m_bits, m_draw (n := bcF (unsF O d)) (h43 := h43)]
  generalize drF x / 65536 % (bcF (unsF O d) : Nat) = mm at hm
  obtain ⟨m, rfl⟩ : ∃ m : Nat, mm = m := ⟨mm.toNat, by omega⟩
  generalize unsF O d = s at *
  obtain ⟨k, c1, c2, c3, c4, c5⟩ := bpN_at hu (show m < bcF s by omega)
  rw [c2]
  have key := xk_down (J := Unit) (n := k) (P := fun r _ => xk_B (D - 1) 248 22 [.ref b, .int (xj s), .int (xj ((m : Int) - (cnt (fun i => s.testBit i) r : Nat))), .int (xj r)] [] (xm f b (sS R 43 (drF x)), w) K) (Q := K (some (.int (xj k))) (xm f b (sS R 43 (drF x)), w)) (fun j => ?_) (fun r hrr ih j => ?_) 0 (Nat.zero_le _) ()
  · have e0 : (m : Int) - (cnt (fun i => s.testBit i) 0 : Nat) = m := by show (m : Int) - 0 = m; omega
    rw [e0] at key
    exact key
  · have cl := cnt_le (fun i => s.testBit i) k
    rw [c4]
    simp (disch := omega) only [b248_22, b248_23, b248_24, b248_27, b248_30, b248_31, b248_56, b248_57, ↓gm_0, ↓gm_1, ↓gm_2, ↓gm_3, ↓gm_4, ↓gm_5, ↓gm_6, ↓gm_7, ↓gm_8, ↓gm_9, ↓gm_10, ↓gm_11, ↓gm_12, ↓gm_13, ↓gm_14, ↓gm_15, ↓gm_16, ↓gm_17, ↓gm_18, ↓gm_19, ↓gm_20, ↓gm_21, ↓gm_22, ↓gm_23, ↓gm_24, ↓gm_25, ↓gm_26, ↓gm_27, ↓gm_28, ↓gm_29, ↓gm_30, ↓gm_31, ↓gm_32, ↓gm_33, ↓gm_34, ↓gm_35, ↓gm_36, ↓gm_37, ↓gm_38, ↓gm_39, ↓gm_40, ↓gm_41, ↓gm_42, ↓gm_43, ↓gm_44, ↓gm_45, ↓gm_46, ↓pm_1, ↓pm_2, ↓pm_8, ↓pm_9, ↓pm_10, ↓pm_11, ↓pm_12, ↓pm_13, ↓pm_14, ↓pm_16, ↓pm_18, ↓pm_21, ↓pm_22, ↓pm_23, ↓pm_24, ↓pm_25, ↓pm_26, ↓pm_28, ↓pm_31, ↓pm_35, ↓pm_36, ↓pm_37, ↓pm_38, ↓pm_40, ↓pm_43, ↓am_0, ↓wm_0, ↓am_3, ↓wm_3, ↓am_4, ↓wm_4, ↓am_5, ↓wm_5, ↓am_6, ↓wm_6, ↓am_7, ↓wm_7, ↓am_15, ↓wm_15, ↓am_17, ↓wm_17, ↓am_19, ↓wm_19, ↓am_20, ↓wm_20, ↓am_27, ↓wm_27, ↓am_29, ↓wm_29, ↓am_30, ↓wm_30, ↓am_32, ↓wm_32, ↓am_33, ↓wm_33, ↓am_34, ↓wm_34, ↓am_39, ↓wm_39, ↓am_41, ↓wm_41, ↓am_42, ↓wm_42, ↓am_44, ↓wm_44, ↓am_45, ↓wm_45, ↓am_46, ↓wm_46, ↓wn_0, ↓wn_46, or_false, false_or, rc_M, List.getElem?_cons_zero, List.getElem?_cons_succ, List.length_cons, List.length_nil, List.set_cons_zero, List.set_cons_succ, true_and, and_true, Option.toList_some, Option.toList_none, List.cons_append, List.nil_append, ↓reduceIte, not_false_eq_true, not_true_eq_false, Nat.reduceAdd, xj0_01, xj1_01, xb_B, xb_True, xb_False, ↓xj_in, xj_nat, Int.toNat_natCast, xj_lt_t, xj_lt_f, xj_le_t, xj_le_f, xj_eq_t, xj_eq_f, xj_lt, xj_le, xj_eq, xj_add, xj_sub, xj_mul, show ¬ xj 1 = xj 0 from by decide, s_isOf, c3, xb_T]
  · have cl := cnt_le (fun i => s.testBit i) r
    rw [b248_22, ← ih ()]
    have e : cnt (fun i => s.testBit i) (r + 1) = if s.testBit r = true then cnt (fun i => s.testBit i) r + 1 else cnt (fun i => s.testBit i) r := rfl
    rw [e]
    cases hbit : s.testBit r
    · simp (disch := omega) only [b248_23, b248_24, b248_27, b248_30, b248_31, b248_34, b248_35, b248_36, b248_37, b248_40, b248_43, b248_44, b248_47, b248_48, b248_49, b248_50, b248_53, ↓gm_0, ↓gm_1, ↓gm_2, ↓gm_3, ↓gm_4, ↓gm_5, ↓gm_6, ↓gm_7, ↓gm_8, ↓gm_9, ↓gm_10, ↓gm_11, ↓gm_12, ↓gm_13, ↓gm_14, ↓gm_15, ↓gm_16, ↓gm_17, ↓gm_18, ↓gm_19, ↓gm_20, ↓gm_21, ↓gm_22, ↓gm_23, ↓gm_24, ↓gm_25, ↓gm_26, ↓gm_27, ↓gm_28, ↓gm_29, ↓gm_30, ↓gm_31, ↓gm_32, ↓gm_33, ↓gm_34, ↓gm_35, ↓gm_36, ↓gm_37, ↓gm_38, ↓gm_39, ↓gm_40, ↓gm_41, ↓gm_42, ↓gm_43, ↓gm_44, ↓gm_45, ↓gm_46, ↓pm_1, ↓pm_2, ↓pm_8, ↓pm_9, ↓pm_10, ↓pm_11, ↓pm_12, ↓pm_13, ↓pm_14, ↓pm_16, ↓pm_18, ↓pm_21, ↓pm_22, ↓pm_23, ↓pm_24, ↓pm_25, ↓pm_26, ↓pm_28, ↓pm_31, ↓pm_35, ↓pm_36, ↓pm_37, ↓pm_38, ↓pm_40, ↓pm_43, ↓am_0, ↓wm_0, ↓am_3, ↓wm_3, ↓am_4, ↓wm_4, ↓am_5, ↓wm_5, ↓am_6, ↓wm_6, ↓am_7, ↓wm_7, ↓am_15, ↓wm_15, ↓am_17, ↓wm_17, ↓am_19, ↓wm_19, ↓am_20, ↓wm_20, ↓am_27, ↓wm_27, ↓am_29, ↓wm_29, ↓am_30, ↓wm_30, ↓am_32, ↓wm_32, ↓am_33, ↓wm_33, ↓am_34, ↓wm_34, ↓am_39, ↓wm_39, ↓am_41, ↓wm_41, ↓am_42, ↓wm_42, ↓am_44, ↓wm_44, ↓am_45, ↓wm_45, ↓am_46, ↓wm_46, ↓wn_0, ↓wn_46, or_false, false_or, rc_M, List.getElem?_cons_zero, List.getElem?_cons_succ, List.length_cons, List.length_nil, List.set_cons_zero, List.set_cons_succ, true_and, and_true, Option.toList_some, Option.toList_none, List.cons_append, List.nil_append, ↓reduceIte, not_false_eq_true, not_true_eq_false, Nat.reduceAdd, xj0_01, xj1_01, xb_B, xb_True, xb_False, ↓xj_in, xj_nat, Int.toNat_natCast, xj_lt_t, xj_lt_f, xj_le_t, xj_le_f, xj_eq_t, xj_eq_f, xj_lt, xj_le, xj_eq, xj_add, xj_sub, xj_mul, show ¬ xj 1 = xj 0 from by decide, s_isOf, hbit, Bool.false_eq_true, xb_F, Int.sub_zero]
      rfl
    · have h5 := c5 r hrr hbit
      have e1 : (m : Int) - (cnt (fun i => s.testBit i) r : Nat) - 1 = (m : Int) - ((cnt (fun i => s.testBit i) r + 1 : Nat) : Int) := by omega
      simp (disch := omega) only [b248_23, b248_24, b248_27, b248_30, b248_31, b248_34, b248_35, b248_36, b248_37, b248_40, b248_43, b248_44, b248_47, b248_48, b248_49, b248_50, b248_53, ↓gm_0, ↓gm_1, ↓gm_2, ↓gm_3, ↓gm_4, ↓gm_5, ↓gm_6, ↓gm_7, ↓gm_8, ↓gm_9, ↓gm_10, ↓gm_11, ↓gm_12, ↓gm_13, ↓gm_14, ↓gm_15, ↓gm_16, ↓gm_17, ↓gm_18, ↓gm_19, ↓gm_20, ↓gm_21, ↓gm_22, ↓gm_23, ↓gm_24, ↓gm_25, ↓gm_26, ↓gm_27, ↓gm_28, ↓gm_29, ↓gm_30, ↓gm_31, ↓gm_32, ↓gm_33, ↓gm_34, ↓gm_35, ↓gm_36, ↓gm_37, ↓gm_38, ↓gm_39, ↓gm_40, ↓gm_41, ↓gm_42, ↓gm_43, ↓gm_44, ↓gm_45, ↓gm_46, ↓pm_1, ↓pm_2, ↓pm_8, ↓pm_9, ↓pm_10, ↓pm_11, ↓pm_12, ↓pm_13, ↓pm_14, ↓pm_16, ↓pm_18, ↓pm_21, ↓pm_22, ↓pm_23, ↓pm_24, ↓pm_25, ↓pm_26, ↓pm_28, ↓pm_31, ↓pm_35, ↓pm_36, ↓pm_37, ↓pm_38, ↓pm_40, ↓pm_43, ↓am_0, ↓wm_0, ↓am_3, ↓wm_3, ↓am_4, ↓wm_4, ↓am_5, ↓wm_5, ↓am_6, ↓wm_6, ↓am_7, ↓wm_7, ↓am_15, ↓wm_15, ↓am_17, ↓wm_17, ↓am_19, ↓wm_19, ↓am_20, ↓wm_20, ↓am_27, ↓wm_27, ↓am_29, ↓wm_29, ↓am_30, ↓wm_30, ↓am_32, ↓wm_32, ↓am_33, ↓wm_33, ↓am_34, ↓wm_34, ↓am_39, ↓wm_39, ↓am_41, ↓wm_41, ↓am_42, ↓wm_42, ↓am_44, ↓wm_44, ↓am_45, ↓wm_45, ↓am_46, ↓wm_46, ↓wn_0, ↓wn_46, or_false, false_or, rc_M, List.getElem?_cons_zero, List.getElem?_cons_succ, List.length_cons, List.length_nil, List.set_cons_zero, List.set_cons_succ, true_and, and_true, Option.toList_some, Option.toList_none, List.cons_append, List.nil_append, ↓reduceIte, not_false_eq_true, not_true_eq_false, Nat.reduceAdd, xj0_01, xj1_01, xb_B, xb_True, xb_False, ↓xj_in, xj_nat, Int.toNat_natCast, xj_lt_t, xj_lt_f, xj_le_t, xj_le_f, xj_eq_t, xj_eq_f, xj_lt, xj_le, xj_eq, xj_add, xj_sub, xj_mul, show ¬ xj 1 = xj 0 from by decide, s_isOf, hbit, xb_T, e1]
      rfl
theorem m_days_no (hD : 2 ≤ D) (hr : rK R O d) (h1 : -2147483648 ≤ x) (h2 : x ≤ 2147483647) (h3 : -2147483648 ≤ y) (h4 : y ≤ 2147483647) (hz : ¬ (of_told O = 1 ∧ (1 ≤ x ∧ x ≤ 20) ∧ 0 ≤ y ∧ y ≤ 1)) : xk_Cl D 249 [.ref b, .int (xj x), .int (xj y)] (xm f b R, w) K ↔ K (some (.int (xj (-1)))) (xm f b R, w) := by
  rw [e249 (by omega)]
  have j0 : (0 : Int64) = jx 0 := by decide
  have j1 : (1 : Int64) = jx 1 := by decide
  have j20 : (20 : Int64) = jx 20 := by decide
  by_cases c : of_told O = 1
  · by_cases c1 : 1 ≤ x ∧ x ≤ 20
    · have c2 : ¬ (0 ≤ y ∧ y ≤ 1) := fun q => hz ⟨c, c1, q⟩
      simp (disch := omega) only [b249_0, b249_1, b249_4, b249_7, b249_8, b249_9, b249_10, b249_13, b249_16, b249_19, b249_20, b249_21, b249_22, b249_23, b249_26, b249_29, b249_30, ↓gm_0, ↓gm_1, ↓gm_2, ↓gm_3, ↓gm_4, ↓gm_5, ↓gm_6, ↓gm_7, ↓gm_8, ↓gm_9, ↓gm_10, ↓gm_11, ↓gm_12, ↓gm_13, ↓gm_14, ↓gm_15, ↓gm_16, ↓gm_17, ↓gm_18, ↓gm_19, ↓gm_20, ↓gm_21, ↓gm_22, ↓gm_23, ↓gm_24, ↓gm_25, ↓gm_26, ↓gm_27, ↓gm_28, ↓gm_29, ↓gm_30, ↓gm_31, ↓gm_32, ↓gm_33, ↓gm_34, ↓gm_35, ↓gm_36, ↓gm_37, ↓gm_38, ↓gm_39, ↓gm_40, ↓gm_41, ↓gm_42, ↓gm_43, ↓gm_44, ↓gm_45, ↓gm_46, ↓pm_1, ↓pm_2, ↓pm_8, ↓pm_9, ↓pm_10, ↓pm_11, ↓pm_12, ↓pm_13, ↓pm_14, ↓pm_16, ↓pm_18, ↓pm_21, ↓pm_22, ↓pm_23, ↓pm_24, ↓pm_25, ↓pm_26, ↓pm_28, ↓pm_31, ↓pm_35, ↓pm_36, ↓pm_37, ↓pm_38, ↓pm_40, ↓pm_43, ↓am_0, ↓wm_0, ↓am_3, ↓wm_3, ↓am_4, ↓wm_4, ↓am_5, ↓wm_5, ↓am_6, ↓wm_6, ↓am_7, ↓wm_7, ↓am_15, ↓wm_15, ↓am_17, ↓wm_17, ↓am_19, ↓wm_19, ↓am_20, ↓wm_20, ↓am_27, ↓wm_27, ↓am_29, ↓wm_29, ↓am_30, ↓wm_30, ↓am_32, ↓wm_32, ↓am_33, ↓wm_33, ↓am_34, ↓wm_34, ↓am_39, ↓wm_39, ↓am_41, ↓wm_41, ↓am_42, ↓wm_42, ↓am_44, ↓wm_44, ↓am_45, ↓wm_45, ↓am_46, ↓wm_46, ↓wn_0, ↓wn_46, or_false, false_or, rc_M, List.getElem?_cons_zero, List.getElem?_cons_succ, List.length_cons, List.length_nil, List.set_cons_zero, List.set_cons_succ, true_and, and_true, Option.toList_some, Option.toList_none, List.cons_append, List.nil_append, ↓reduceIte, not_false_eq_true, not_true_eq_false, Nat.reduceAdd, xj0_01, xj1_01, xb_B, xb_True, xb_False, ↓xj_in, xj_nat, Int.toNat_natCast, xj_lt_t, xj_lt_f, xj_le_t, xj_le_f, xj_eq_t, xj_eq_f, xj_lt, xj_le, xj_eq, xj_add, xj_sub, xj_mul, show ¬ xj 1 = xj 0 from by decide, m_isOffice _ hr, c, xb_T, jx_i2l, j0, j1, j20, m_in, c1, and_self, c2, xb_F]
    · simp (disch := omega) only [b249_0, b249_1, b249_4, b249_7, b249_8, b249_9, b249_10, b249_13, b249_16, b249_19, b249_20, b249_21, b249_22, b249_23, b249_26, b249_29, b249_30, ↓gm_0, ↓gm_1, ↓gm_2, ↓gm_3, ↓gm_4, ↓gm_5, ↓gm_6, ↓gm_7, ↓gm_8, ↓gm_9, ↓gm_10, ↓gm_11, ↓gm_12, ↓gm_13, ↓gm_14, ↓gm_15, ↓gm_16, ↓gm_17, ↓gm_18, ↓gm_19, ↓gm_20, ↓gm_21, ↓gm_22, ↓gm_23, ↓gm_24, ↓gm_25, ↓gm_26, ↓gm_27, ↓gm_28, ↓gm_29, ↓gm_30, ↓gm_31, ↓gm_32, ↓gm_33, ↓gm_34, ↓gm_35, ↓gm_36, ↓gm_37, ↓gm_38, ↓gm_39, ↓gm_40, ↓gm_41, ↓gm_42, ↓gm_43, ↓gm_44, ↓gm_45, ↓gm_46, ↓pm_1, ↓pm_2, ↓pm_8, ↓pm_9, ↓pm_10, ↓pm_11, ↓pm_12, ↓pm_13, ↓pm_14, ↓pm_16, ↓pm_18, ↓pm_21, ↓pm_22, ↓pm_23, ↓pm_24, ↓pm_25, ↓pm_26, ↓pm_28, ↓pm_31, ↓pm_35, ↓pm_36, ↓pm_37, ↓pm_38, ↓pm_40, ↓pm_43, ↓am_0, ↓wm_0, ↓am_3, ↓wm_3, ↓am_4, ↓wm_4, ↓am_5, ↓wm_5, ↓am_6, ↓wm_6, ↓am_7, ↓wm_7, ↓am_15, ↓wm_15, ↓am_17, ↓wm_17, ↓am_19, ↓wm_19, ↓am_20, ↓wm_20, ↓am_27, ↓wm_27, ↓am_29, ↓wm_29, ↓am_30, ↓wm_30, ↓am_32, ↓wm_32, ↓am_33, ↓wm_33, ↓am_34, ↓wm_34, ↓am_39, ↓wm_39, ↓am_41, ↓wm_41, ↓am_42, ↓wm_42, ↓am_44, ↓wm_44, ↓am_45, ↓wm_45, ↓am_46, ↓wm_46, ↓wn_0, ↓wn_46, or_false, false_or, rc_M, List.getElem?_cons_zero, List.getElem?_cons_succ, List.length_cons, List.length_nil, List.set_cons_zero, List.set_cons_succ, true_and, and_true, Option.toList_some, Option.toList_none, List.cons_append, List.nil_append, ↓reduceIte, not_false_eq_true, not_true_eq_false, Nat.reduceAdd, xj0_01, xj1_01, xb_B, xb_True, xb_False, ↓xj_in, xj_nat, Int.toNat_natCast, xj_lt_t, xj_lt_f, xj_le_t, xj_le_f, xj_eq_t, xj_eq_f, xj_lt, xj_le, xj_eq, xj_add, xj_sub, xj_mul, show ¬ xj 1 = xj 0 from by decide, m_isOffice _ hr, c, xb_T, jx_i2l, j0, j1, j20, m_in, c1, xb_F]
  · simp (disch := omega) only [b249_0, b249_1, b249_4, b249_7, b249_8, b249_9, b249_10, b249_13, b249_16, b249_19, b249_20, b249_21, b249_22, b249_23, b249_26, b249_29, b249_30, ↓gm_0, ↓gm_1, ↓gm_2, ↓gm_3, ↓gm_4, ↓gm_5, ↓gm_6, ↓gm_7, ↓gm_8, ↓gm_9, ↓gm_10, ↓gm_11, ↓gm_12, ↓gm_13, ↓gm_14, ↓gm_15, ↓gm_16, ↓gm_17, ↓gm_18, ↓gm_19, ↓gm_20, ↓gm_21, ↓gm_22, ↓gm_23, ↓gm_24, ↓gm_25, ↓gm_26, ↓gm_27, ↓gm_28, ↓gm_29, ↓gm_30, ↓gm_31, ↓gm_32, ↓gm_33, ↓gm_34, ↓gm_35, ↓gm_36, ↓gm_37, ↓gm_38, ↓gm_39, ↓gm_40, ↓gm_41, ↓gm_42, ↓gm_43, ↓gm_44, ↓gm_45, ↓gm_46, ↓pm_1, ↓pm_2, ↓pm_8, ↓pm_9, ↓pm_10, ↓pm_11, ↓pm_12, ↓pm_13, ↓pm_14, ↓pm_16, ↓pm_18, ↓pm_21, ↓pm_22, ↓pm_23, ↓pm_24, ↓pm_25, ↓pm_26, ↓pm_28, ↓pm_31, ↓pm_35, ↓pm_36, ↓pm_37, ↓pm_38, ↓pm_40, ↓pm_43, ↓am_0, ↓wm_0, ↓am_3, ↓wm_3, ↓am_4, ↓wm_4, ↓am_5, ↓wm_5, ↓am_6, ↓wm_6, ↓am_7, ↓wm_7, ↓am_15, ↓wm_15, ↓am_17, ↓wm_17, ↓am_19, ↓wm_19, ↓am_20, ↓wm_20, ↓am_27, ↓wm_27, ↓am_29, ↓wm_29, ↓am_30, ↓wm_30, ↓am_32, ↓wm_32, ↓am_33, ↓wm_33, ↓am_34, ↓wm_34, ↓am_39, ↓wm_39, ↓am_41, ↓wm_41, ↓am_42, ↓wm_42, ↓am_44, ↓wm_44, ↓am_45, ↓wm_45, ↓am_46, ↓wm_46, ↓wn_0, ↓wn_46, or_false, false_or, rc_M, List.getElem?_cons_zero, List.getElem?_cons_succ, List.length_cons, List.length_nil, List.set_cons_zero, List.set_cons_succ, true_and, and_true, Option.toList_some, Option.toList_none, List.cons_append, List.nil_append, ↓reduceIte, not_false_eq_true, not_true_eq_false, Nat.reduceAdd, xj0_01, xj1_01, xb_B, xb_True, xb_False, ↓xj_in, xj_nat, Int.toNat_natCast, xj_lt_t, xj_lt_f, xj_le_t, xj_le_f, xj_eq_t, xj_eq_f, xj_lt, xj_le, xj_eq, xj_add, xj_sub, xj_mul, show ¬ xj 1 = xj 0 from by decide, m_isOffice _ hr, c, xb_F]
def frD (R R' : Md) : Prop := (∀ j, (j < 23 ∨ (26 < j ∧ j ≠ 43)) → mS R' j = mS R j) ∧ (∀ j, j ≠ 20 → mA R' j = mA R j) ∧ ∀ i, (i < 10 ∨ 32 ≤ i) → mA R' 20 i = mA R 20 i
theorem frD_t {R R' R'' : Md} (h : frD R R') (h' : frD R' R'') : frD R R'' := ⟨fun j q => (h'.1 j q).trans (h.1 j q), fun j q => (h'.2.1 j q).trans (h.2.1 j q), fun j q => (h'.2.2 j q).trans (h.2.2 j q)⟩
theorem frD_r (R : Md) : frD R R := ⟨fun _ _ => rfl, fun _ _ => rfl, fun _ _ => rfl⟩
theorem frD_43 {R : Md} {v : Int} : frD R (sS R 43 v) := ⟨fun j q => mS_So (by omega), fun _ _ => rfl, fun _ _ => rfl⟩
theorem frD_can {R : Md} {O : Of} {d : Dy} {p : Nat} : frD R (canR R O d p) := ⟨fun j q => can_S (by omega), fun _ _ => can_A, fun i _ => by rw [can_A]⟩
/-- one drawn day, from its first draw on -/
theorem u_day1 (hD : 6 ≤ D) (hw : xw_Off O) {l0 l1 l2 l3 l4 l5 : Value} (hl0 : l0 = .ref b) : ∀ (n k : Nat) (d : Dy) (x : Int) (R : Md), k + n = 6 → rK R O d → k ≤ sgnN O d → mS R 22 = 63 → mS R 43 = x → 0 ≤ x → x ≤ 2147483647 →
    (∀ R' l6, frD R R' → rK R' O (dayF O n d x).1 → mS R' 43 = (dayF O n d x).2 → 0 ≤ (dayF O n d x).2 → (dayF O n d x).2 ≤ 2147483647 → xk_B (D - 1) 249 93 [l0, l1, l2, l3, l4, l5, l6] [] (xm f b R', w) K) →
    ∀ (pc : Nat) (l6 : Value), (∀ (v : Int32) (g : Nat → xk_C), xk_B (D - 1) 249 pc [l0, l1, l2, l3, l4, l5, l6] [.int v] (g, w) K ↔ xk_B (D - 1) 249 64 [l0, l1, l2, l3, l4, l5, .int v] [] (g, w) K) → xk_Cl (D - 1) 248 [.ref b] (xm f b R, w) (fun v σ => xk_B (D - 1) 249 pc [l0, l1, l2, l3, l4, l5, l6] (v.toList ++ []) σ K) := by
  subst hl0
  intro n
  induction n with
  | zero =>
    intro k d x R hk hr hsg h22 h43 x1 x2 post pc l6 hpc
    have hs6 : sgnN O d ≤ of_np O := cnt_le _ _
    have hn6 := hw.2.2.2.1
    have h0 := uns0_iff (show of_np O ≤ sgnN O d by omega)
    have po := post R (.int (xj (-1))) (frD_r R) hr h43 x1 x2
    rw [m_drawn_no (by omega) hr h0]
    simp (disch := omega) only [hpc, b249_64, b249_66, List.getElem?_cons_zero, List.getElem?_cons_succ, List.length_cons, List.length_nil, List.set_cons_zero, List.set_cons_succ, true_and, and_true, Option.toList_some, Option.toList_none, List.cons_append, List.nil_append, ↓reduceIte, not_false_eq_true, not_true_eq_false, Nat.reduceAdd, xj0_01, xj1_01, xb_B, xb_True, xb_False, ↓xj_in, xj_nat, Int.toNat_natCast, xj_lt_t, xj_lt_f, xj_le_t, xj_le_f, xj_eq_t, xj_eq_f, xj_lt, xj_le, xj_eq, xj_add, xj_sub, xj_mul, show ¬ xj 1 = xj 0 from by decide]
    exact po
  | succ n ih =>
    intro k d x R hk hr hsg h22 h43 x1 x2 post pc l6 hpc
    have e : dayF O (n + 1) d x = if unsF O d = 0 then (d, x) else if canF O d (bpN (unsF O d) (drF x / 65536 % (bcF (unsF O d) : Nat))) = true then dayF O n (writeD O d (bpN (unsF O d) (drF x / 65536 % (bcF (unsF O d) : Nat))).toNat 63) (drF x) else (d, drF x) := rfl
    rw [e] at post
    by_cases h0 : unsF O d = 0
    · rw [if_pos h0] at post
      have po := post R (.int (xj (-1))) (frD_r R) hr h43 x1 x2
      rw [m_drawn_no (by omega) hr h0]
      simp (disch := omega) only [hpc, b249_64, b249_66, List.getElem?_cons_zero, List.getElem?_cons_succ, List.length_cons, List.length_nil, List.set_cons_zero, List.set_cons_succ, true_and, and_true, Option.toList_some, Option.toList_none, List.cons_append, List.nil_append, ↓reduceIte, not_false_eq_true, not_true_eq_false, Nat.reduceAdd, xj0_01, xj1_01, xb_B, xb_True, xb_False, ↓xj_in, xj_nat, Int.toNat_natCast, xj_lt_t, xj_lt_f, xj_le_t, xj_le_f, xj_eq_t, xj_eq_f, xj_lt, xj_le, xj_eq, xj_add, xj_sub, xj_mul, show ¬ xj 1 = xj 0 from by decide]
      exact po
    · rw [if_neg h0] at post
      rw [m_drawn (by omega) hr h0 h43 x1 x2]
      have hu := uns_lt (d := d) hw
      have hb := bc_pos _ hu h0
      have hxr := drF_rng x
      have hm : 0 ≤ drF x / 65536 % (bcF (unsF O d) : Nat) ∧ drF x / 65536 % (bcF (unsF O d) : Nat) < (bcF (unsF O d) : Nat) := ⟨Int.emod_nonneg _ (by omega), Int.emod_lt_of_pos _ (by omega)⟩
      generalize drF x / 65536 % (bcF (unsF O d) : Nat) = mm at hm post
      obtain ⟨m, rfl⟩ : ∃ m : Nat, mm = m := ⟨mm.toNat, by omega⟩
      obtain ⟨p, c1, c2, c3, c4, c5⟩ := bpN_at hu (show m < bcF (unsF O d) by omega)
      rw [c2] at post ⊢
      rw [Int.toNat_natCast] at post
      have hpn : p < of_np O := by
        unfold unsF at c3
        rw [msk_bit, Bool.and_eq_true] at c3
        exact of_decide_eq_true c3.1
      have hr2 : rK (sS R 43 (drF x)) O d := hr
      have hn6 := hw.2.2.2.1
      cases hc : canF O d p
      · rw [hc, if_neg (by decide)] at post
        have po := post (canR (sS R 43 (drF x)) O d p) (.int (xj p)) (frD_t frD_43 frD_can) (rK_can hr2) ((can_S (by omega)).trans mS_S) hxr.1 hxr.2
        simp (disch := omega) only [hpc, b249_64, b249_66, b249_69, b249_70, b249_72, b249_75, ↓gm_0, ↓gm_1, ↓gm_2, ↓gm_3, ↓gm_4, ↓gm_5, ↓gm_6, ↓gm_7, ↓gm_8, ↓gm_9, ↓gm_10, ↓gm_11, ↓gm_12, ↓gm_13, ↓gm_14, ↓gm_15, ↓gm_16, ↓gm_17, ↓gm_18, ↓gm_19, ↓gm_20, ↓gm_21, ↓gm_22, ↓gm_23, ↓gm_24, ↓gm_25, ↓gm_26, ↓gm_27, ↓gm_28, ↓gm_29, ↓gm_30, ↓gm_31, ↓gm_32, ↓gm_33, ↓gm_34, ↓gm_35, ↓gm_36, ↓gm_37, ↓gm_38, ↓gm_39, ↓gm_40, ↓gm_41, ↓gm_42, ↓gm_43, ↓gm_44, ↓gm_45, ↓gm_46, ↓pm_1, ↓pm_2, ↓pm_8, ↓pm_9, ↓pm_10, ↓pm_11, ↓pm_12, ↓pm_13, ↓pm_14, ↓pm_16, ↓pm_18, ↓pm_21, ↓pm_22, ↓pm_23, ↓pm_24, ↓pm_25, ↓pm_26, ↓pm_28, ↓pm_31, ↓pm_35, ↓pm_36, ↓pm_37, ↓pm_38, ↓pm_40, ↓pm_43, ↓am_0, ↓wm_0, ↓am_3, ↓wm_3, ↓am_4, ↓wm_4, ↓am_5, ↓wm_5, ↓am_6, ↓wm_6, ↓am_7, ↓wm_7, ↓am_15, ↓wm_15, ↓am_17, ↓wm_17, ↓am_19, ↓wm_19, ↓am_20, ↓wm_20, ↓am_27, ↓wm_27, ↓am_29, ↓wm_29, ↓am_30, ↓wm_30, ↓am_32, ↓wm_32, ↓am_33, ↓wm_33, ↓am_34, ↓wm_34, ↓am_39, ↓wm_39, ↓am_41, ↓wm_41, ↓am_42, ↓wm_42, ↓am_44, ↓wm_44, ↓am_45, ↓wm_45, ↓am_46, ↓wm_46, ↓wn_0, ↓wn_46, or_false, false_or, rc_M, List.getElem?_cons_zero, List.getElem?_cons_succ, List.length_cons, List.length_nil, List.set_cons_zero, List.set_cons_succ, true_and, and_true, Option.toList_some, Option.toList_none, List.cons_append, List.nil_append, ↓reduceIte, not_false_eq_true, not_true_eq_false, Nat.reduceAdd, xj0_01, xj1_01, xb_B, xb_True, xb_False, ↓xj_in, xj_nat, Int.toNat_natCast, xj_lt_t, xj_lt_f, xj_le_t, xj_le_f, xj_eq_t, xj_eq_f, xj_lt, xj_le, xj_eq, xj_add, xj_sub, xj_mul, show ¬ xj 1 = xj 0 from by decide, m_canSign _ hr2, hc, Bool.false_eq_true, xb_F]
        exact po
      · rw [hc, if_pos rfl] at post
        have h22' : mS (sS R 43 (drF x)) 22 = ((63 : Nat) : Int) := (mS_So (by decide)).trans h22
        have hk2 : rK (reckR (sS R 43 (drF x)) O d p) O d := hr2
        have hg := rG_reck (R := sS R 43 (drF x)) (O := O) (d := d) (p := p) h22' (by decide)
        have hk3 := rK_sign (q := 63) hk2 hpn hc
        have hsg2 := sgn_up (q := 63) hpn hc
        have f3 : frD R (signR (reckR (sS R 43 (drF x)) O d p) O d p 63) := by
          refine frD_t (R' := sS R 43 (drF x)) frD_43 ⟨fun j q => ?_, fun j q => ?_, fun i q => ?_⟩
          · rw [sg_S, rk_S (by omega)]
          · unfold signR; rw [mA_Ao q]; rfl
          · exact (frM_sign (R := reckR (sS R 43 (drF x)) O d p) (O := O) (d := d) (p := p) (q := 63) (by omega)).2.2.1 i q
        have nx := ih (k + 1) (writeD O d p 63) (drF x) (signR (reckR (sS R 43 (drF x)) O d p) O d p 63) (by omega) hk3 (by omega) ((f3.1 22 (by omega)).trans h22) (by rw [sg_S, rk_S (by omega), mS_S]) hxr.1 hxr.2 (fun R' l6 g1 g2 g3 g4 g5 => post R' l6 (frD_t f3 g1) g2 g3 g4 g5) 88 (.int (xj p)) (fun v g => by simp only [b249_88, b249_90])
        simp (disch := omega) only [hpc, b249_64, b249_66, b249_69, b249_70, b249_72, b249_75, b249_78, b249_79, b249_81, b249_84, ↓gm_0, ↓gm_1, ↓gm_2, ↓gm_3, ↓gm_4, ↓gm_5, ↓gm_6, ↓gm_7, ↓gm_8, ↓gm_9, ↓gm_10, ↓gm_11, ↓gm_12, ↓gm_13, ↓gm_14, ↓gm_15, ↓gm_16, ↓gm_17, ↓gm_18, ↓gm_19, ↓gm_20, ↓gm_21, ↓gm_22, ↓gm_23, ↓gm_24, ↓gm_25, ↓gm_26, ↓gm_27, ↓gm_28, ↓gm_29, ↓gm_30, ↓gm_31, ↓gm_32, ↓gm_33, ↓gm_34, ↓gm_35, ↓gm_36, ↓gm_37, ↓gm_38, ↓gm_39, ↓gm_40, ↓gm_41, ↓gm_42, ↓gm_43, ↓gm_44, ↓gm_45, ↓gm_46, ↓pm_1, ↓pm_2, ↓pm_8, ↓pm_9, ↓pm_10, ↓pm_11, ↓pm_12, ↓pm_13, ↓pm_14, ↓pm_16, ↓pm_18, ↓pm_21, ↓pm_22, ↓pm_23, ↓pm_24, ↓pm_25, ↓pm_26, ↓pm_28, ↓pm_31, ↓pm_35, ↓pm_36, ↓pm_37, ↓pm_38, ↓pm_40, ↓pm_43, ↓am_0, ↓wm_0, ↓am_3, ↓wm_3, ↓am_4, ↓wm_4, ↓am_5, ↓wm_5, ↓am_6, ↓wm_6, ↓am_7, ↓wm_7, ↓am_15, ↓wm_15, ↓am_17, ↓wm_17, ↓am_19, ↓wm_19, ↓am_20, ↓wm_20, ↓am_27, ↓wm_27, ↓am_29, ↓wm_29, ↓am_30, ↓wm_30, ↓am_32, ↓wm_32, ↓am_33, ↓wm_33, ↓am_34, ↓wm_34, ↓am_39, ↓wm_39, ↓am_41, ↓wm_41, ↓am_42, ↓wm_42, ↓am_44, ↓wm_44, ↓am_45, ↓wm_45, ↓am_46, ↓wm_46, ↓wn_0, ↓wn_46, or_false, false_or, rc_M, List.getElem?_cons_zero, List.getElem?_cons_succ, List.length_cons, List.length_nil, List.set_cons_zero, List.set_cons_succ, true_and, and_true, Option.toList_some, Option.toList_none, List.cons_append, List.nil_append, ↓reduceIte, not_false_eq_true, not_true_eq_false, Nat.reduceAdd, xj0_01, xj1_01, xb_B, xb_True, xb_False, ↓xj_in, xj_nat, Int.toNat_natCast, xj_lt_t, xj_lt_f, xj_le_t, xj_le_f, xj_eq_t, xj_eq_f, xj_lt, xj_le, xj_eq, xj_add, xj_sub, xj_mul, show ¬ xj 1 = xj 0 from by decide, m_canSign _ hr2, hc, xb_T, can_reck hpn hc, m_signs _ hk2 hpn hg]
        rw [b249_85, rc_M, true_and]
        exact nx
theorem day_rng {O : Of} (hw : xw_Off O) : ∀ n (d : Dy) (x : Int), xw_Day O d → 0 ≤ x → x ≤ 2147483647 → xw_Day O (dayF O n d x).1 ∧ 0 ≤ (dayF O n d x).2 ∧ (dayF O n d x).2 ≤ 2147483647 := by
  intro n
  induction n with
  | zero => intro d x hd h1 h2; exact ⟨hd, h1, h2⟩
  | succ n ih =>
    intro d x hd h1 h2
    have hxr := drF_rng x
    unfold dayF
    split
    · exact ⟨hd, h1, h2⟩
    · split
      · rename_i hc
        have hc2 := hc
        unfold canF at hc2
        have h3 := of_decide_eq_true hc2
        obtain ⟨p, hp⟩ : ∃ p : Nat, bpN (unsF O d) (drF x / 65536 % (bcF (unsF O d) : Nat)) = p := ⟨(bpN (unsF O d) (drF x / 65536 % (bcF (unsF O d) : Nat))).toNat, by omega⟩
        rw [hp] at hc ⊢
        rw [Int.toNat_natCast]
        exact ih _ _ (xw_writeD hw hd hc) hxr.1 hxr.2
      · exact ⟨hd, hxr.1, hxr.2⟩
theorem dd_rng {O : Of} {d : Dy} {x : Int} (hw : xw_Off O) (hd : xw_Day O d) (h1 : 0 ≤ x) (h2 : x ≤ 2147483647) : ∀ j : Nat, (0 ≤ (ddF O d x j).1 ∧ (ddF O d x j).1 ≤ 2147483647) ∧ (0 ≤ (ddF O d x j).2.1 ∧ (ddF O d x j).2.1 ≤ 180 * j) ∧ 0 ≤ (ddF O d x j).2.2 ∧ (ddF O d x j).2.2 ≤ 9999 * j := by
  intro j
  induction j with
  | zero => exact ⟨⟨h1, h2⟩, ⟨Int.le_refl _, Int.le_refl _⟩, Int.le_refl _, Int.le_refl _⟩
  | succ j ih =>
    obtain ⟨⟨i1, i2⟩, ⟨i3, i4⟩, i5, i6⟩ := ih
    obtain ⟨r1, r2, r3⟩ := day_rng hw 6 d _ hd i1 i2
    have hwt := wt_rng hw (dayF O 6 d (ddF O d x j).1).1
    unfold ddF
    refine ⟨⟨r2, r3⟩, ⟨?_, ?_⟩, ?_, ?_⟩
    · show 0 ≤ (ddF O d x j).2.1 + _; omega
    · show (ddF O d x j).2.1 + _ ≤ 180 * ((j + 1 : Nat) : Int); omega
    · show 0 ≤ (ddF O d x j).2.2 + _; have := r1.1; omega
    · show (ddF O d x j).2.2 + _ ≤ 9999 * ((j + 1 : Nat) : Int); have := r1.2.1; omega
theorem u_days (hD : 6 ≤ D) (hr : rK R O d) (h22 : mS R 22 = 63) (h21 : mS R 21 = x) (x1 : 0 ≤ x) (x2 : x ≤ 2147483647) (ht : of_told O = 1) (hn : 1 ≤ n) (hn2 : n ≤ 20) (h3 : 0 ≤ y) (h4 : y ≤ 1) (hpost : ∀ R', frT R R' → rK R' O d → K (some (.int (xj (if y = 0 then (ddF O d x n).2.1 else (ddF O d x n).2.2)))) (xm f b R', w)) : xk_Cl D 249 [.ref b, .int (xj n), .int (xj y)] (xm f b R, w) K := by
  rw [e249 (by omega)]
  have j0 : (0 : Int64) = jx 0 := by decide
  have j1 : (1 : Int64) = jx 1 := by decide
  have j20 : (20 : Int64) = jx 20 := by decide
  have c1 : 1 ≤ (n : Int) ∧ (n : Int) ≤ 20 := by omega
  have c2 : 0 ≤ y ∧ y ≤ 1 := ⟨h3, h4⟩
  have hw := hr.1
  have hd := hr.2.1
  simp (disch := omega) only [b249_0, b249_1, b249_4, b249_7, b249_8, b249_9, b249_10, b249_13, b249_16, b249_19, b249_20, b249_21, b249_22, b249_23, b249_26, b249_29, b249_30, b249_31, b249_32, b249_33, b249_36, b249_37, b249_40, b249_41, b249_42, b249_43, b249_45, b249_46, b249_49, b249_50, ↓gm_0, ↓gm_1, ↓gm_2, ↓gm_3, ↓gm_4, ↓gm_5, ↓gm_6, ↓gm_7, ↓gm_8, ↓gm_9, ↓gm_10, ↓gm_11, ↓gm_12, ↓gm_13, ↓gm_14, ↓gm_15, ↓gm_16, ↓gm_17, ↓gm_18, ↓gm_19, ↓gm_20, ↓gm_21, ↓gm_22, ↓gm_23, ↓gm_24, ↓gm_25, ↓gm_26, ↓gm_27, ↓gm_28, ↓gm_29, ↓gm_30, ↓gm_31, ↓gm_32, ↓gm_33, ↓gm_34, ↓gm_35, ↓gm_36, ↓gm_37, ↓gm_38, ↓gm_39, ↓gm_40, ↓gm_41, ↓gm_42, ↓gm_43, ↓gm_44, ↓gm_45, ↓gm_46, ↓pm_1, ↓pm_2, ↓pm_8, ↓pm_9, ↓pm_10, ↓pm_11, ↓pm_12, ↓pm_13, ↓pm_14, ↓pm_16, ↓pm_18, ↓pm_21, ↓pm_22, ↓pm_23, ↓pm_24, ↓pm_25, ↓pm_26, ↓pm_28, ↓pm_31, ↓pm_35, ↓pm_36, ↓pm_37, ↓pm_38, ↓pm_40, ↓pm_43, ↓am_0, ↓wm_0, ↓am_3, ↓wm_3, ↓am_4, ↓wm_4, ↓am_5, ↓wm_5, ↓am_6, ↓wm_6, ↓am_7, ↓wm_7, ↓am_15, ↓wm_15, ↓am_17, ↓wm_17, ↓am_19, ↓wm_19, ↓am_20, ↓wm_20, ↓am_27, ↓wm_27, ↓am_29, ↓wm_29, ↓am_30, ↓wm_30, ↓am_32, ↓wm_32, ↓am_33, ↓wm_33, ↓am_34, ↓wm_34, ↓am_39, ↓wm_39, ↓am_41, ↓wm_41, ↓am_42, ↓wm_42, ↓am_44, ↓wm_44, ↓am_45, ↓wm_45, ↓am_46, ↓wm_46, ↓wn_0, ↓wn_46, or_false, false_or, rc_M, List.getElem?_cons_zero, List.getElem?_cons_succ, List.length_cons, List.length_nil, List.set_cons_zero, List.set_cons_succ, true_and, and_true, Option.toList_some, Option.toList_none, List.cons_append, List.nil_append, ↓reduceIte, not_false_eq_true, not_true_eq_false, Nat.reduceAdd, xj0_01, xj1_01, xb_B, xb_True, xb_False, ↓xj_in, xj_nat, Int.toNat_natCast, xj_lt_t, xj_lt_f, xj_le_t, xj_le_f, xj_eq_t, xj_eq_f, xj_lt, xj_le, xj_eq, xj_add, xj_sub, xj_mul, show ¬ xj 1 = xj 0 from by decide, tn_add, tn_mul, tn_sub, Int.toNat_natCast, Int.reduceToNat, mS_S, mS_So, mS_A, mS_J, mA_A, mA_Ao, mA_S, mA_J, mJ_J, mJ_Jo, mJ_S, mJ_A, sS_S, sA_A, sS_A, sS_J, sJ_A, m_isOffice _ hr, ht, xb_T, jx_i2l, j0, j1, j20, m_in, c1, and_self, c2, h21, m_keeps]
  have hb29 : rB (cpI (mA R 29) (mA R 20) 0 10 22) 0 O d := rB_of hr _ 0
  have loop : ∀ (m j : Nat) (R' : Md) (l6 : Value), j + m = n → (∀ i, (i = 1 ∨ i = 2 ∨ i = 21 ∨ i = 22 ∨ i = 28) → mS R' i = mS R i) → (∀ i, (i < 7 ∨ i = 27 ∨ 43 < i) → mA R' i = mA R i) → (∀ i, (i < 10 ∨ 32 ≤ i) → mA R' 20 i = mA R 20 i) → mA R' 29 = cpI (mA R 29) (mA R 20) 0 10 22 → rK R' O d → mS R' 43 = (ddF O d x j).1 → xk_B (D - 1) 249 52 [.ref b, .int (xj n), .int (xj y), .int (xj (ddF O d x j).2.1), .int (xj (ddF O d x j).2.2), .int (xj j), l6] [] (xm f b R', w) K := by
    intro m
    induction m with
    | zero =>
      intro j R' l6 hj f1 f2 f3 f29 hk' h43
      have hj : j = n := by omega
      subst hj
      have po := hpost R' ⟨f1, f2, f3⟩ hk'
      by_cases c : y = 0
      · rw [if_pos c] at po
        simp (disch := omega) only [b249_52, b249_54, b249_55, b249_124, b249_125, b249_128, b249_129, b249_132, b249_134, ↓gm_0, ↓gm_1, ↓gm_2, ↓gm_3, ↓gm_4, ↓gm_5, ↓gm_6, ↓gm_7, ↓gm_8, ↓gm_9, ↓gm_10, ↓gm_11, ↓gm_12, ↓gm_13, ↓gm_14, ↓gm_15, ↓gm_16, ↓gm_17, ↓gm_18, ↓gm_19, ↓gm_20, ↓gm_21, ↓gm_22, ↓gm_23, ↓gm_24, ↓gm_25, ↓gm_26, ↓gm_27, ↓gm_28, ↓gm_29, ↓gm_30, ↓gm_31, ↓gm_32, ↓gm_33, ↓gm_34, ↓gm_35, ↓gm_36, ↓gm_37, ↓gm_38, ↓gm_39, ↓gm_40, ↓gm_41, ↓gm_42, ↓gm_43, ↓gm_44, ↓gm_45, ↓gm_46, ↓pm_1, ↓pm_2, ↓pm_8, ↓pm_9, ↓pm_10, ↓pm_11, ↓pm_12, ↓pm_13, ↓pm_14, ↓pm_16, ↓pm_18, ↓pm_21, ↓pm_22, ↓pm_23, ↓pm_24, ↓pm_25, ↓pm_26, ↓pm_28, ↓pm_31, ↓pm_35, ↓pm_36, ↓pm_37, ↓pm_38, ↓pm_40, ↓pm_43, ↓am_0, ↓wm_0, ↓am_3, ↓wm_3, ↓am_4, ↓wm_4, ↓am_5, ↓wm_5, ↓am_6, ↓wm_6, ↓am_7, ↓wm_7, ↓am_15, ↓wm_15, ↓am_17, ↓wm_17, ↓am_19, ↓wm_19, ↓am_20, ↓wm_20, ↓am_27, ↓wm_27, ↓am_29, ↓wm_29, ↓am_30, ↓wm_30, ↓am_32, ↓wm_32, ↓am_33, ↓wm_33, ↓am_34, ↓wm_34, ↓am_39, ↓wm_39, ↓am_41, ↓wm_41, ↓am_42, ↓wm_42, ↓am_44, ↓wm_44, ↓am_45, ↓wm_45, ↓am_46, ↓wm_46, ↓wn_0, ↓wn_46, or_false, false_or, rc_M, List.getElem?_cons_zero, List.getElem?_cons_succ, List.length_cons, List.length_nil, List.set_cons_zero, List.set_cons_succ, true_and, and_true, Option.toList_some, Option.toList_none, List.cons_append, List.nil_append, ↓reduceIte, not_false_eq_true, not_true_eq_false, Nat.reduceAdd, xj0_01, xj1_01, xb_B, xb_True, xb_False, ↓xj_in, xj_nat, Int.toNat_natCast, xj_lt_t, xj_lt_f, xj_le_t, xj_le_f, xj_eq_t, xj_eq_f, xj_lt, xj_le, xj_eq, xj_add, xj_sub, xj_mul, show ¬ xj 1 = xj 0 from by decide]
        exact po
      · rw [if_neg c] at po
        simp (disch := omega) only [b249_52, b249_54, b249_55, b249_124, b249_125, b249_128, b249_129, b249_132, b249_134, ↓gm_0, ↓gm_1, ↓gm_2, ↓gm_3, ↓gm_4, ↓gm_5, ↓gm_6, ↓gm_7, ↓gm_8, ↓gm_9, ↓gm_10, ↓gm_11, ↓gm_12, ↓gm_13, ↓gm_14, ↓gm_15, ↓gm_16, ↓gm_17, ↓gm_18, ↓gm_19, ↓gm_20, ↓gm_21, ↓gm_22, ↓gm_23, ↓gm_24, ↓gm_25, ↓gm_26, ↓gm_27, ↓gm_28, ↓gm_29, ↓gm_30, ↓gm_31, ↓gm_32, ↓gm_33, ↓gm_34, ↓gm_35, ↓gm_36, ↓gm_37, ↓gm_38, ↓gm_39, ↓gm_40, ↓gm_41, ↓gm_42, ↓gm_43, ↓gm_44, ↓gm_45, ↓gm_46, ↓pm_1, ↓pm_2, ↓pm_8, ↓pm_9, ↓pm_10, ↓pm_11, ↓pm_12, ↓pm_13, ↓pm_14, ↓pm_16, ↓pm_18, ↓pm_21, ↓pm_22, ↓pm_23, ↓pm_24, ↓pm_25, ↓pm_26, ↓pm_28, ↓pm_31, ↓pm_35, ↓pm_36, ↓pm_37, ↓pm_38, ↓pm_40, ↓pm_43, ↓am_0, ↓wm_0, ↓am_3, ↓wm_3, ↓am_4, ↓wm_4, ↓am_5, ↓wm_5, ↓am_6, ↓wm_6, ↓am_7, ↓wm_7, ↓am_15, ↓wm_15, ↓am_17, ↓wm_17, ↓am_19, ↓wm_19, ↓am_20, ↓wm_20, ↓am_27, ↓wm_27, ↓am_29, ↓wm_29, ↓am_30, ↓wm_30, ↓am_32, ↓wm_32, ↓am_33, ↓wm_33, ↓am_34, ↓wm_34, ↓am_39, ↓wm_39, ↓am_41, ↓wm_41, ↓am_42, ↓wm_42, ↓am_44, ↓wm_44, ↓am_45, ↓wm_45, ↓am_46, ↓wm_46, ↓wn_0, ↓wn_46, or_false, false_or, rc_M, List.getElem?_cons_zero, List.getElem?_cons_succ, List.length_cons, List.length_nil, List.set_cons_zero, List.set_cons_succ, true_and, and_true, Option.toList_some, Option.toList_none, List.cons_append, List.nil_append, ↓reduceIte, not_false_eq_true, not_true_eq_false, Nat.reduceAdd, xj0_01, xj1_01, xb_B, xb_True, xb_False, ↓xj_in, xj_nat, Int.toNat_natCast, xj_lt_t, xj_lt_f, xj_le_t, xj_le_f, xj_eq_t, xj_eq_f, xj_lt, xj_le, xj_eq, xj_add, xj_sub, xj_mul, show ¬ xj 1 = xj 0 from by decide]
        exact po
    | succ m ihm =>
      intro j R' l6 hj f1 f2 f3 f29 hk' h43
      obtain ⟨⟨i1, i2⟩, ⟨i3, i4⟩, i5, i6⟩ := dd_rng (x := x) hw hd x1 x2 j
      rw [b249_52]
      simp (disch := omega) only [b249_54, b249_55, b249_58, ↓gm_0, ↓gm_1, ↓gm_2, ↓gm_3, ↓gm_4, ↓gm_5, ↓gm_6, ↓gm_7, ↓gm_8, ↓gm_9, ↓gm_10, ↓gm_11, ↓gm_12, ↓gm_13, ↓gm_14, ↓gm_15, ↓gm_16, ↓gm_17, ↓gm_18, ↓gm_19, ↓gm_20, ↓gm_21, ↓gm_22, ↓gm_23, ↓gm_24, ↓gm_25, ↓gm_26, ↓gm_27, ↓gm_28, ↓gm_29, ↓gm_30, ↓gm_31, ↓gm_32, ↓gm_33, ↓gm_34, ↓gm_35, ↓gm_36, ↓gm_37, ↓gm_38, ↓gm_39, ↓gm_40, ↓gm_41, ↓gm_42, ↓gm_43, ↓gm_44, ↓gm_45, ↓gm_46, ↓pm_1, ↓pm_2, ↓pm_8, ↓pm_9, ↓pm_10, ↓pm_11, ↓pm_12, ↓pm_13, ↓pm_14, ↓pm_16, ↓pm_18, ↓pm_21, ↓pm_22, ↓pm_23, ↓pm_24, ↓pm_25, ↓pm_26, ↓pm_28, ↓pm_31, ↓pm_35, ↓pm_36, ↓pm_37, ↓pm_38, ↓pm_40, ↓pm_43, ↓am_0, ↓wm_0, ↓am_3, ↓wm_3, ↓am_4, ↓wm_4, ↓am_5, ↓wm_5, ↓am_6, ↓wm_6, ↓am_7, ↓wm_7, ↓am_15, ↓wm_15, ↓am_17, ↓wm_17, ↓am_19, ↓wm_19, ↓am_20, ↓wm_20, ↓am_27, ↓wm_27, ↓am_29, ↓wm_29, ↓am_30, ↓wm_30, ↓am_32, ↓wm_32, ↓am_33, ↓wm_33, ↓am_34, ↓wm_34, ↓am_39, ↓wm_39, ↓am_41, ↓wm_41, ↓am_42, ↓wm_42, ↓am_44, ↓wm_44, ↓am_45, ↓wm_45, ↓am_46, ↓wm_46, ↓wn_0, ↓wn_46, or_false, false_or, rc_M, List.getElem?_cons_zero, List.getElem?_cons_succ, List.length_cons, List.length_nil, List.set_cons_zero, List.set_cons_succ, true_and, and_true, Option.toList_some, Option.toList_none, List.cons_append, List.nil_append, ↓reduceIte, not_false_eq_true, not_true_eq_false, Nat.reduceAdd, xj0_01, xj1_01, xb_B, xb_True, xb_False, ↓xj_in, xj_nat, Int.toNat_natCast, xj_lt_t, xj_lt_f, xj_le_t, xj_le_f, xj_eq_t, xj_eq_f, xj_lt, xj_le, xj_eq, xj_add, xj_sub, xj_mul, show ¬ xj 1 = xj 0 from by decide]
      rw [b249_59, rc_M, true_and]
      refine u_day1 hD hw rfl 6 0 d (ddF O d x j).1 R' (by omega) hk' (Nat.zero_le _) ((f1 22 (by omega)).trans h22) h43 i1 i2 (fun R2 l6' g1 g2 g3 g4 g5 => ?_) 62 l6 (fun v g => by simp only [b249_62])
      have hwt := wt_rng hw (dayF O 6 d (ddF O d x j).1).1
      have hd2 := g2.2.1
      have e10 := g2.2.2.2.1
      have wo : ∀ K, xk_Cl (D - 1) 197 [.ref b, .int (xj 63)] (xm f b R2, w) K ↔ _ := fun K => m_worthOf (s := 63) (by omega) g2 (by omega)
      rw [w63 hw] at wo
      have e29 : mA R2 29 = cpI (mA R 29) (mA R 20) 0 10 22 := (g1.2.1 29 (by decide)).trans f29
      have nx := ihm (j + 1) (sA R2 20 (cpI (mA R2 20) (mA R2 29) 10 0 22)) l6' (by omega) (fun i q => by rw [mS_A, g1.1 i (by omega)]; exact f1 i q) (fun i q => by rw [mA_Ao (by omega), g1.2.1 i (by omega)]; exact f2 i q) (fun i q => by
        rw [mA_A]
        have e : cpI (mA R2 20) (mA R2 29) 10 0 22 i = mA R2 20 i := by unfold cpI; rw [if_neg (by omega)]
        rw [e, g1.2.2 i q]
        exact f3 i q) (by rw [mA_Ao (by decide)]; exact e29) (rK_lay2 hw g2.2.2.1 (by rw [e29]; exact hb29)) (by rw [mS_A, g3]; rfl)
      simp (disch := omega) only [b249_93, b249_94, b249_95, b249_97, b249_100, b249_101, b249_102, b249_104, b249_105, b249_108, b249_110, b249_111, b249_112, b249_114, b249_115, b249_118, b249_121, ↓gm_0, ↓gm_1, ↓gm_2, ↓gm_3, ↓gm_4, ↓gm_5, ↓gm_6, ↓gm_7, ↓gm_8, ↓gm_9, ↓gm_10, ↓gm_11, ↓gm_12, ↓gm_13, ↓gm_14, ↓gm_15, ↓gm_16, ↓gm_17, ↓gm_18, ↓gm_19, ↓gm_20, ↓gm_21, ↓gm_22, ↓gm_23, ↓gm_24, ↓gm_25, ↓gm_26, ↓gm_27, ↓gm_28, ↓gm_29, ↓gm_30, ↓gm_31, ↓gm_32, ↓gm_33, ↓gm_34, ↓gm_35, ↓gm_36, ↓gm_37, ↓gm_38, ↓gm_39, ↓gm_40, ↓gm_41, ↓gm_42, ↓gm_43, ↓gm_44, ↓gm_45, ↓gm_46, ↓pm_1, ↓pm_2, ↓pm_8, ↓pm_9, ↓pm_10, ↓pm_11, ↓pm_12, ↓pm_13, ↓pm_14, ↓pm_16, ↓pm_18, ↓pm_21, ↓pm_22, ↓pm_23, ↓pm_24, ↓pm_25, ↓pm_26, ↓pm_28, ↓pm_31, ↓pm_35, ↓pm_36, ↓pm_37, ↓pm_38, ↓pm_40, ↓pm_43, ↓am_0, ↓wm_0, ↓am_3, ↓wm_3, ↓am_4, ↓wm_4, ↓am_5, ↓wm_5, ↓am_6, ↓wm_6, ↓am_7, ↓wm_7, ↓am_15, ↓wm_15, ↓am_17, ↓wm_17, ↓am_19, ↓wm_19, ↓am_20, ↓wm_20, ↓am_27, ↓wm_27, ↓am_29, ↓wm_29, ↓am_30, ↓wm_30, ↓am_32, ↓wm_32, ↓am_33, ↓wm_33, ↓am_34, ↓wm_34, ↓am_39, ↓wm_39, ↓am_41, ↓wm_41, ↓am_42, ↓wm_42, ↓am_44, ↓wm_44, ↓am_45, ↓wm_45, ↓am_46, ↓wm_46, ↓wn_0, ↓wn_46, or_false, false_or, rc_M, List.getElem?_cons_zero, List.getElem?_cons_succ, List.length_cons, List.length_nil, List.set_cons_zero, List.set_cons_succ, true_and, and_true, Option.toList_some, Option.toList_none, List.cons_append, List.nil_append, ↓reduceIte, not_false_eq_true, not_true_eq_false, Nat.reduceAdd, xj0_01, xj1_01, xb_B, xb_True, xb_False, ↓xj_in, xj_nat, Int.toNat_natCast, xj_lt_t, xj_lt_f, xj_le_t, xj_le_f, xj_eq_t, xj_eq_f, xj_lt, xj_le, xj_eq, xj_add, xj_sub, xj_mul, show ¬ xj 1 = xj 0 from by decide, tn_add, tn_mul, tn_sub, Int.toNat_natCast, Int.reduceToNat, wo, e10, m_laysBack]
      exact nx
  exact loop n 0 _ xk_dd (Nat.zero_add _) (fun i q => by rcases q with rfl | rfl | rfl | rfl | rfl <;> simp (disch := omega) only [mS_S, mS_So, mS_A, mS_J, mA_A, mA_Ao, mA_S, mA_J, mJ_J, mJ_Jo, mJ_S, mJ_A, sS_S, sA_A, sS_A, sS_J, sJ_A]) (fun i q => by rw [mA_Ao (by omega)]; rfl) (fun i q => by rw [mA_Ao (by decide)]; rfl) mA_A (rK_of (by simp (disch := omega) only [mS_S, mS_So, mS_A, mS_J, mA_A, mA_Ao, mA_S, mA_J, mJ_J, mJ_Jo, mJ_S, mJ_A, sS_S, sA_A, sS_A, sS_J, sJ_A]) hr) (by simp (disch := omega) only [mS_S, mS_So, mS_A, mS_J, mA_A, mA_Ao, mA_S, mA_J, mJ_J, mJ_Jo, mJ_S, mJ_A, sS_S, sA_A, sS_A, sS_J, sJ_A]; rfl)
end XS70
