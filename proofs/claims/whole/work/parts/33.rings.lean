/-! papers that rest on themselves: the class's way -/
def rcI (O : Of) (q : Nat) : Nat → Nat → Nat
  | 0, r => r
  | k + 1, r => if (rcI O q k r).testBit k = true then rcI O q k r ||| (of_re O k &&& q) else rcI O q k r
def rcO (O : Of) (q : Nat) : Nat → Nat → Nat
  | 0, r => r
  | n + 1, r => rcI O q (of_np O) (rcO O q n r)
def reachF (O : Of) (p q : Nat) : Nat := rcO O q (of_np O) (of_re O p &&& q)
def ringsF (O : Of) (q : Nat) : Nat := msk (fun p => q.testBit p && (reachF O p q).testBit p) (of_np O)
theorem rcI_lt {O : Of} {q : Nat} (hw : xw_Off O) : ∀ k, k ≤ of_np O → ∀ r, r < 2 ^ of_np O → rcI O q k r < 2 ^ of_np O := by
  intro k
  induction k with
  | zero => intro _ r hr; exact hr
  | succ k ih =>
    intro hk r hr
    have h1 := ih (by omega) r hr
    unfold rcI
    split
    · exact Nat.or_lt_two_pow h1 (Nat.lt_of_le_of_lt Nat.and_le_left (hw.2.2.2.2.2.2 k (by omega)).2.2.2.2.2.2.2.2)
    · exact h1
theorem rcO_lt {O : Of} {q : Nat} (hw : xw_Off O) : ∀ n r, r < 2 ^ of_np O → rcO O q n r < 2 ^ of_np O := by
  intro n
  induction n with
  | zero => intro r hr; exact hr
  | succ n ih => intro r hr; exact rcI_lt hw _ (Nat.le_refl _) _ (ih r hr)
section XS33
variable {D a b o r k p q : Nat} {f g : Nat → xk_C} {w : Nat × Nat × Nat} {K : Option Value → xk_S → Prop} {O : Of}
theorem s_reached (hD : 2 ≤ D) (ho : xv_Off f o O) (hw : xw_Off O) (hp : p < of_np O) (hq : q < 2147483648) : xk_Cl D 45 [.ref o, .int (xj p), .int (xj q)] (f, w) K ↔ K (some (.int (xj (reachF O p q)))) (f, w) := by
  rw [e45 (by omega)]
  have hn := hw.2.2.2.1
  have hre : ∀ i, i < of_np O → of_re O i < 2147483648 := fun i hi => hw.n31 (hw.2.2.2.2.2.2 i hi).2.2.2.2.2.2.2.2
  have hre2 : of_re O p &&& q < 2 ^ of_np O := Nat.lt_of_le_of_lt Nat.and_le_left (hw.2.2.2.2.2.2 p hp).2.2.2.2.2.2.2.2
  simp (disch := omega) only [b45_0, b45_1, b45_4, b45_5, b45_6, b45_7, b45_8, b45_9, b45_10, List.getElem?_cons_zero, List.getElem?_cons_succ, List.length_cons, List.length_nil, List.set_cons_zero, List.set_cons_succ, true_and, and_true, Option.toList_some, Option.toList_none, List.cons_append, List.nil_append, ↓reduceIte, not_false_eq_true, not_true_eq_false, Nat.reduceAdd, xj0_01, xj1_01, xb_B, xb_True, xb_False, ↓go_0 ho, ↓go_1 ho, ↓go_2 ho, ↓go_3 ho, ↓go_4 ho, ↓go_5 ho, ↓go_6 ho, ↓go_7 ho, ↓go_8 ho, ↓go_9 ho, ↓go_10 ho, ↓go_11 ho, ↓go_12 ho, ↓go_13 ho, ↓go_14 ho, ↓go_15 ho, ↓ao_1 ho, ↓ao_2 ho, ↓ao_3 ho, ↓ao_4 ho, ↓ao_5 ho, ↓ao_6 ho, ↓ao_7 ho, ↓ao_8 ho, ↓ao_9 ho, Int.toNat_natCast, xj_and (hre p hp) hq]
  refine xk_down (J := Value) (n := of_np O) (P := fun r j => xk_B (D - 1) 45 12 [.ref o, .int (xj p), .int (xj q), .int (xj (rcO O q r (of_re O p &&& q))), .int (xj r), j] [] (f, w) K) (fun j => ?_) (fun r hr ih j => ?_) 0 (Nat.zero_le _) xk_dd
  · simp (disch := omega) only [b45_0, b45_1, b45_4, b45_5, b45_6, b45_7, b45_8, b45_9, b45_10, b45_12, b45_14, b45_15, b45_18, b45_21, b45_22, b45_24, b45_26, b45_27, b45_30, b45_33, b45_34, b45_36, b45_39, b45_42, b45_43, b45_44, b45_47, b45_49, b45_50, b45_51, b45_52, b45_53, b45_54, b45_57, b45_60, b45_63, b45_66, b45_67, List.getElem?_cons_zero, List.getElem?_cons_succ, List.length_cons, List.length_nil, List.set_cons_zero, List.set_cons_succ, true_and, and_true, Option.toList_some, Option.toList_none, List.cons_append, List.nil_append, ↓reduceIte, not_false_eq_true, not_true_eq_false, Nat.reduceAdd, xj0_01, xj1_01, xb_B, xb_True, xb_False, ↓go_0 ho, ↓go_1 ho, ↓go_2 ho, ↓go_3 ho, ↓go_4 ho, ↓go_5 ho, ↓go_6 ho, ↓go_7 ho, ↓go_8 ho, ↓go_9 ho, ↓go_10 ho, ↓go_11 ho, ↓go_12 ho, ↓go_13 ho, ↓go_14 ho, ↓go_15 ho, ↓ao_1 ho, ↓ao_2 ho, ↓ao_3 ho, ↓ao_4 ho, ↓ao_5 ho, ↓ao_6 ho, ↓ao_7 ho, ↓ao_8 ho, ↓ao_9 ho, ↓xj_in, xj_nat, Int.toNat_natCast, xj_lt_t, xj_lt_f, xj_le_t, xj_le_f, xj_eq_t, xj_eq_f, xj_lt, xj_le, xj_eq, xj_add, xj_sub, xj_mul, show ¬ xj 1 = xj 0 from by decide]
    rfl
  · have h1 := rcO_lt (q := q) hw r _ hre2
    rw [b45_12]
    simp (disch := omega) only [b45_14, b45_15, b45_18, b45_21, b45_22, List.getElem?_cons_zero, List.getElem?_cons_succ, List.length_cons, List.length_nil, List.set_cons_zero, List.set_cons_succ, true_and, and_true, Option.toList_some, Option.toList_none, List.cons_append, List.nil_append, ↓reduceIte, not_false_eq_true, not_true_eq_false, Nat.reduceAdd, xj0_01, xj1_01, xb_B, xb_True, xb_False, ↓go_0 ho, ↓go_1 ho, ↓go_2 ho, ↓go_3 ho, ↓go_4 ho, ↓go_5 ho, ↓go_6 ho, ↓go_7 ho, ↓go_8 ho, ↓go_9 ho, ↓go_10 ho, ↓go_11 ho, ↓go_12 ho, ↓go_13 ho, ↓go_14 ho, ↓go_15 ho, ↓ao_1 ho, ↓ao_2 ho, ↓ao_3 ho, ↓ao_4 ho, ↓ao_5 ho, ↓ao_6 ho, ↓ao_7 ho, ↓ao_8 ho, ↓ao_9 ho, ↓xj_in, xj_nat, Int.toNat_natCast, xj_lt_t, xj_lt_f, xj_le_t, xj_le_f, xj_eq_t, xj_eq_f, xj_lt, xj_le, xj_eq, xj_add, xj_sub, xj_mul, show ¬ xj 1 = xj 0 from by decide]
    refine xk_down (J := Unit) (n := of_np O) (P := fun k j => xk_B (D - 1) 45 24 [.ref o, .int (xj p), .int (xj q), .int (xj (rcI O q k (rcO O q r (of_re O p &&& q)))), .int (xj r), .int (xj k)] [] (f, w) K) (fun j => ?_) (fun k hk ih2 j => ?_) 0 (Nat.zero_le _) ()
    · rw [← ih (.int (xj (of_np O)))]
      simp (disch := omega) only [b45_0, b45_1, b45_4, b45_5, b45_6, b45_7, b45_8, b45_9, b45_10, b45_14, b45_15, b45_18, b45_21, b45_22, b45_24, b45_26, b45_27, b45_30, b45_33, b45_34, b45_36, b45_39, b45_42, b45_43, b45_44, b45_47, b45_49, b45_50, b45_51, b45_52, b45_53, b45_54, b45_57, b45_60, b45_63, b45_66, b45_67, List.getElem?_cons_zero, List.getElem?_cons_succ, List.length_cons, List.length_nil, List.set_cons_zero, List.set_cons_succ, true_and, and_true, Option.toList_some, Option.toList_none, List.cons_append, List.nil_append, ↓reduceIte, not_false_eq_true, not_true_eq_false, Nat.reduceAdd, xj0_01, xj1_01, xb_B, xb_True, xb_False, ↓go_0 ho, ↓go_1 ho, ↓go_2 ho, ↓go_3 ho, ↓go_4 ho, ↓go_5 ho, ↓go_6 ho, ↓go_7 ho, ↓go_8 ho, ↓go_9 ho, ↓go_10 ho, ↓go_11 ho, ↓go_12 ho, ↓go_13 ho, ↓go_14 ho, ↓go_15 ho, ↓ao_1 ho, ↓ao_2 ho, ↓ao_3 ho, ↓ao_4 ho, ↓ao_5 ho, ↓ao_6 ho, ↓ao_7 ho, ↓ao_8 ho, ↓ao_9 ho, ↓xj_in, xj_nat, Int.toNat_natCast, xj_lt_t, xj_lt_f, xj_le_t, xj_le_f, xj_eq_t, xj_eq_f, xj_lt, xj_le, xj_eq, xj_add, xj_sub, xj_mul, show ¬ xj 1 = xj 0 from by decide]
      rfl
    · have h2 := rcI_lt (q := q) hw k (by omega) _ h1
      have h3 := hw.n31 h2
      have h4 := xn_and (b := q) (hre k hk)
      rw [← ih2 ()]
      have e : rcI O q (k + 1) (rcO O q r (of_re O p &&& q)) = if (rcI O q k (rcO O q r (of_re O p &&& q))).testBit k = true then rcI O q k (rcO O q r (of_re O p &&& q)) ||| (of_re O k &&& q) else rcI O q k (rcO O q r (of_re O p &&& q)) := rfl
      rw [e, b45_24]
      rcases Bool.eq_false_or_eq_true ((rcI O q k (rcO O q r (of_re O p &&& q))).testBit k) with c | c
      · rw [if_pos c]
        simp (disch := omega) only [b45_0, b45_1, b45_4, b45_5, b45_6, b45_7, b45_8, b45_9, b45_10, b45_12, b45_14, b45_15, b45_18, b45_21, b45_22, b45_26, b45_27, b45_30, b45_33, b45_34, b45_36, b45_39, b45_42, b45_43, b45_44, b45_47, b45_49, b45_50, b45_51, b45_52, b45_53, b45_54, b45_57, b45_60, b45_63, b45_66, b45_67, List.getElem?_cons_zero, List.getElem?_cons_succ, List.length_cons, List.length_nil, List.set_cons_zero, List.set_cons_succ, true_and, and_true, Option.toList_some, Option.toList_none, List.cons_append, List.nil_append, ↓reduceIte, not_false_eq_true, not_true_eq_false, Nat.reduceAdd, xj0_01, xj1_01, xb_B, xb_True, xb_False, ↓go_0 ho, ↓go_1 ho, ↓go_2 ho, ↓go_3 ho, ↓go_4 ho, ↓go_5 ho, ↓go_6 ho, ↓go_7 ho, ↓go_8 ho, ↓go_9 ho, ↓go_10 ho, ↓go_11 ho, ↓go_12 ho, ↓go_13 ho, ↓go_14 ho, ↓go_15 ho, ↓ao_1 ho, ↓ao_2 ho, ↓ao_3 ho, ↓ao_4 ho, ↓ao_5 ho, ↓ao_6 ho, ↓ao_7 ho, ↓ao_8 ho, ↓ao_9 ho, ↓xj_in, xj_nat, Int.toNat_natCast, xj_lt_t, xj_lt_f, xj_le_t, xj_le_f, xj_eq_t, xj_eq_f, xj_lt, xj_le, xj_eq, xj_add, xj_sub, xj_mul, show ¬ xj 1 = xj 0 from by decide, s_has (D := D - 1) (k := k) (by omega) h3 (by omega), c, xj_and (hre k hk) hq, xj_or h3 h4]
        rfl
      · rw [if_neg (by rw [c]; exact Bool.noConfusion)]
        simp (disch := omega) only [b45_0, b45_1, b45_4, b45_5, b45_6, b45_7, b45_8, b45_9, b45_10, b45_12, b45_14, b45_15, b45_18, b45_21, b45_22, b45_26, b45_27, b45_30, b45_33, b45_34, b45_36, b45_39, b45_42, b45_43, b45_44, b45_47, b45_49, b45_50, b45_51, b45_52, b45_53, b45_54, b45_57, b45_60, b45_63, b45_66, b45_67, List.getElem?_cons_zero, List.getElem?_cons_succ, List.length_cons, List.length_nil, List.set_cons_zero, List.set_cons_succ, true_and, and_true, Option.toList_some, Option.toList_none, List.cons_append, List.nil_append, ↓reduceIte, not_false_eq_true, not_true_eq_false, Nat.reduceAdd, xj0_01, xj1_01, xb_B, xb_True, xb_False, ↓go_0 ho, ↓go_1 ho, ↓go_2 ho, ↓go_3 ho, ↓go_4 ho, ↓go_5 ho, ↓go_6 ho, ↓go_7 ho, ↓go_8 ho, ↓go_9 ho, ↓go_10 ho, ↓go_11 ho, ↓go_12 ho, ↓go_13 ho, ↓go_14 ho, ↓go_15 ho, ↓ao_1 ho, ↓ao_2 ho, ↓ao_3 ho, ↓ao_4 ho, ↓ao_5 ho, ↓ao_6 ho, ↓ao_7 ho, ↓ao_8 ho, ↓ao_9 ho, ↓xj_in, xj_nat, Int.toNat_natCast, xj_lt_t, xj_lt_f, xj_le_t, xj_le_f, xj_eq_t, xj_eq_f, xj_lt, xj_le, xj_eq, xj_add, xj_sub, xj_mul, show ¬ xj 1 = xj 0 from by decide, s_has (D := D - 1) (k := k) (by omega) h3 (by omega), c, Bool.false_eq_true]
        rfl
theorem s_rings (hD : 3 ≤ D) (ho : xv_Off f o O) (hw : xw_Off O) (hq : q < 2147483648) : xk_Cl D 44 [.ref o, .int (xj q)] (f, w) K ↔ K (some (.int (xj (ringsF O q)))) (f, w) := by
  rw [e44 (by omega)]
  have hn := hw.2.2.2.1
  have hrc : xk_RC f o 4 ↔ True := by unfold xk_RC; rw [ho.at.1]; exact ⟨fun _ => trivial, fun _ => rfl⟩
  simp only [b44_0, b44_1, b44_2, b44_3]
  unfold ringsF
  refine xk_down (J := Unit) (n := of_np O) (P := fun r _ => xk_B (D - 1) 44 4 [.ref o, .int (xj q), .int (xj (msk (fun p => q.testBit p && (reachF O p q).testBit p) r)), .int (xj r)] [] (f, w) K) (fun j => ?_) (fun r hr ih j => ?_) 0 (Nat.zero_le _) ()
  · simp (disch := omega) only [b44_0, b44_1, b44_2, b44_3, b44_4, b44_5, b44_6, b44_9, b44_12, b44_13, b44_14, b44_17, b44_20, b44_21, b44_22, b44_23, b44_26, b44_27, b44_30, b44_33, b44_34, b44_35, b44_36, b44_37, b44_38, b44_39, b44_42, b44_45, b44_46, List.getElem?_cons_zero, List.getElem?_cons_succ, List.length_cons, List.length_nil, List.set_cons_zero, List.set_cons_succ, true_and, and_true, Option.toList_some, Option.toList_none, List.cons_append, List.nil_append, ↓reduceIte, not_false_eq_true, not_true_eq_false, Nat.reduceAdd, xj0_01, xj1_01, xb_B, xb_True, xb_False, ↓go_0 ho, ↓go_1 ho, ↓go_2 ho, ↓go_3 ho, ↓go_4 ho, ↓go_5 ho, ↓go_6 ho, ↓go_7 ho, ↓go_8 ho, ↓go_9 ho, ↓go_10 ho, ↓go_11 ho, ↓go_12 ho, ↓go_13 ho, ↓go_14 ho, ↓go_15 ho, ↓ao_1 ho, ↓ao_2 ho, ↓ao_3 ho, ↓ao_4 ho, ↓ao_5 ho, ↓ao_6 ho, ↓ao_7 ho, ↓ao_8 ho, ↓ao_9 ho, ↓xj_in, xj_nat, Int.toNat_natCast, xj_lt_t, xj_lt_f, xj_le_t, xj_le_f, xj_eq_t, xj_eq_f, xj_lt, xj_le, xj_eq, xj_add, xj_sub, xj_mul, show ¬ xj 1 = xj 0 from by decide]
  · rw [← ih ()]
    have hm := msk_lt31 (fun p => q.testBit p && (reachF O p q).testBit p) (n := r) (by omega)
    have h1 : reachF O r q < 2147483648 := hw.n31 (rcO_lt (q := q) hw _ _ (Nat.lt_of_le_of_lt Nat.and_le_left (hw.2.2.2.2.2.2 r hr).2.2.2.2.2.2.2.2))
    have e : msk (fun p => q.testBit p && (reachF O p q).testBit p) (r + 1) = if (q.testBit r && (reachF O r q).testBit r) = true then msk (fun p => q.testBit p && (reachF O p q).testBit p) r ||| 2 ^ r else msk (fun p => q.testBit p && (reachF O p q).testBit p) r := rfl
    rw [e, b44_4]
    rcases Bool.eq_false_or_eq_true (q.testBit r) with c | c
    · rcases Bool.eq_false_or_eq_true ((reachF O r q).testBit r) with c2 | c2
      · rw [if_pos (by rw [c, c2]; rfl)]
        simp (disch := omega) only [b44_0, b44_1, b44_2, b44_3, b44_5, b44_6, b44_9, b44_12, b44_13, b44_14, b44_17, b44_20, b44_21, b44_22, b44_23, b44_26, b44_27, b44_30, b44_33, b44_34, b44_35, b44_36, b44_37, b44_38, b44_39, b44_42, b44_45, b44_46, List.getElem?_cons_zero, List.getElem?_cons_succ, List.length_cons, List.length_nil, List.set_cons_zero, List.set_cons_succ, true_and, and_true, Option.toList_some, Option.toList_none, List.cons_append, List.nil_append, ↓reduceIte, not_false_eq_true, not_true_eq_false, Nat.reduceAdd, xj0_01, xj1_01, xb_B, xb_True, xb_False, ↓go_0 ho, ↓go_1 ho, ↓go_2 ho, ↓go_3 ho, ↓go_4 ho, ↓go_5 ho, ↓go_6 ho, ↓go_7 ho, ↓go_8 ho, ↓go_9 ho, ↓go_10 ho, ↓go_11 ho, ↓go_12 ho, ↓go_13 ho, ↓go_14 ho, ↓go_15 ho, ↓ao_1 ho, ↓ao_2 ho, ↓ao_3 ho, ↓ao_4 ho, ↓ao_5 ho, ↓ao_6 ho, ↓ao_7 ho, ↓ao_8 ho, ↓ao_9 ho, ↓xj_in, xj_nat, Int.toNat_natCast, xj_lt_t, xj_lt_f, xj_le_t, xj_le_f, xj_eq_t, xj_eq_f, xj_lt, xj_le, xj_eq, xj_add, xj_sub, xj_mul, show ¬ xj 1 = xj 0 from by decide, s_has (D := D - 1) (n := q) (k := r) (by omega) hq (by omega), s_has (D := D - 1) (n := reachF O r q) (k := r) (by omega) h1 (by omega), s_reached (D := D - 1) (p := r) (by omega) ho hw hr hq, hrc, c, c2, xj_shl1 (k := r) (by omega), xj_or hm (p2lt (by omega : r < 31))]
        rfl
      · rw [if_neg (by rw [c, c2]; decide)]
        simp (disch := omega) only [b44_0, b44_1, b44_2, b44_3, b44_5, b44_6, b44_9, b44_12, b44_13, b44_14, b44_17, b44_20, b44_21, b44_22, b44_23, b44_26, b44_27, b44_30, b44_33, b44_34, b44_35, b44_36, b44_37, b44_38, b44_39, b44_42, b44_45, b44_46, List.getElem?_cons_zero, List.getElem?_cons_succ, List.length_cons, List.length_nil, List.set_cons_zero, List.set_cons_succ, true_and, and_true, Option.toList_some, Option.toList_none, List.cons_append, List.nil_append, ↓reduceIte, not_false_eq_true, not_true_eq_false, Nat.reduceAdd, xj0_01, xj1_01, xb_B, xb_True, xb_False, ↓go_0 ho, ↓go_1 ho, ↓go_2 ho, ↓go_3 ho, ↓go_4 ho, ↓go_5 ho, ↓go_6 ho, ↓go_7 ho, ↓go_8 ho, ↓go_9 ho, ↓go_10 ho, ↓go_11 ho, ↓go_12 ho, ↓go_13 ho, ↓go_14 ho, ↓go_15 ho, ↓ao_1 ho, ↓ao_2 ho, ↓ao_3 ho, ↓ao_4 ho, ↓ao_5 ho, ↓ao_6 ho, ↓ao_7 ho, ↓ao_8 ho, ↓ao_9 ho, ↓xj_in, xj_nat, Int.toNat_natCast, xj_lt_t, xj_lt_f, xj_le_t, xj_le_f, xj_eq_t, xj_eq_f, xj_lt, xj_le, xj_eq, xj_add, xj_sub, xj_mul, show ¬ xj 1 = xj 0 from by decide, s_has (D := D - 1) (n := q) (k := r) (by omega) hq (by omega), s_has (D := D - 1) (n := reachF O r q) (k := r) (by omega) h1 (by omega), s_reached (D := D - 1) (p := r) (by omega) ho hw hr hq, hrc, c, c2, Bool.false_eq_true]
        rfl
    · rw [if_neg (by rw [c]; exact Bool.noConfusion)]
      simp (disch := omega) only [b44_0, b44_1, b44_2, b44_3, b44_5, b44_6, b44_9, b44_12, b44_13, b44_14, b44_17, b44_20, b44_21, b44_22, b44_23, b44_26, b44_27, b44_30, b44_33, b44_34, b44_35, b44_36, b44_37, b44_38, b44_39, b44_42, b44_45, b44_46, List.getElem?_cons_zero, List.getElem?_cons_succ, List.length_cons, List.length_nil, List.set_cons_zero, List.set_cons_succ, true_and, and_true, Option.toList_some, Option.toList_none, List.cons_append, List.nil_append, ↓reduceIte, not_false_eq_true, not_true_eq_false, Nat.reduceAdd, xj0_01, xj1_01, xb_B, xb_True, xb_False, ↓go_0 ho, ↓go_1 ho, ↓go_2 ho, ↓go_3 ho, ↓go_4 ho, ↓go_5 ho, ↓go_6 ho, ↓go_7 ho, ↓go_8 ho, ↓go_9 ho, ↓go_10 ho, ↓go_11 ho, ↓go_12 ho, ↓go_13 ho, ↓go_14 ho, ↓go_15 ho, ↓ao_1 ho, ↓ao_2 ho, ↓ao_3 ho, ↓ao_4 ho, ↓ao_5 ho, ↓ao_6 ho, ↓ao_7 ho, ↓ao_8 ho, ↓ao_9 ho, ↓xj_in, xj_nat, Int.toNat_natCast, xj_lt_t, xj_lt_f, xj_le_t, xj_le_f, xj_eq_t, xj_eq_f, xj_lt, xj_le, xj_eq, xj_add, xj_sub, xj_mul, show ¬ xj 1 = xj 0 from by decide, s_has (D := D - 1) (n := q) (k := r) (by omega) hq (by omega), c, Bool.false_eq_true]
      rfl
end XS33
