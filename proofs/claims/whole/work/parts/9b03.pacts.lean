/-! the pen: acts -/
def pushHi (H : Hi) (d : Dy) : Hi := ((H.1 + 1) % 20, min (H.2.1 + 1) 20, fun k => if k = H.1 then d else H.2.2 k)
def dkD (S : Dk) (d : Dy) : Dk := (S.1, d, S.2.2)
theorem xw_pushHi {H : Hi} {d : Dy} (h : xw_Hi H) (hz : xz_Day d) : xw_Hi (pushHi H d) := ⟨Nat.mod_lt _ (by decide), Nat.min_le_right _ _, fun k hk => by
  show xz_Day (if k = H.1 then d else H.2.2 k)
  split
  · exact hz
  · exact h.2.2 k hk⟩
section XS9b03
variable {D a b o k p q n nr r t c v fa s : Nat} {f f' : Nat → xk_C} {w : Nat × Nat × Nat} {K : Option Value → xk_S → Prop} {x y z : Int} {T : Nat → Int} {ru : Nat → Ru} {S : Dk} {H : Hi} {im : Nat → Int} {I : Nat → Dk} {d d1 : Dy} {G : (Nat → xk_C) → Prop}
theorem p_act (hD : 4 ≤ D) (h : xv_Pen f a n nr T ru S H im I) (hH : xw_Hi H) (hz : xz_Day S.2.1) (ht : xv_Day f (a + 83) d1) (hz1 : xz_Day d1) (hpost : ∀ f', (∀ x, (x < a ∨ a + 204 ≤ x) → f' x = f x) → xv_Pen f' a n nr T ru (dkD S d1) (pushHi H S.2.1) im I → K none (f', w)) : xk_Cl D 114 [.ref a] (f, w) K := by
  rw [e114 (by omega)]
  obtain ⟨p0, p1, p2, p3, p4, p5, p6, p7, p8, p9, p10, p11⟩ := h
  have p5 : xv_Dk f (a + 22) S := p5
  have p7 : xv_Hi f (a + 41) H := p7
  have w1 := hH.1
  have pu := fun K' => s_push (D := D - 1) (w := w) (K := K') (by omega) p7 hH p5.2.2.1 hz (by omega)
  simp (disch := omega) only [b114_0, b114_1, b114_4, b114_5, b114_8, List.getElem?_cons_zero, List.getElem?_cons_succ, List.length_cons, List.length_nil, List.set_cons_zero, List.set_cons_succ, true_and, and_true, Option.toList_some, Option.toList_none, List.cons_append, List.nil_append, ↓reduceIte, not_false_eq_true, not_true_eq_false, Nat.reduceAdd, xj0_01, xj1_01, xb_B, xb_True, xb_False, ↓gpn_7 p0, ↓gpn_10 p0, ↓gk_1 p5.1]
  rw [b114_11, rc_R p7.1, true_and, pu]
  have e1 : ∀ x, (x < a + 41 ∨ a + 83 ≤ x) → va_up (xs_Day f (a + 41 + 2 + 2 * H.1) S.2.1) (a + 41) (xh_c (a + 41) ((H.1 + 1) % 20 : Nat) (min (H.2.1 + 1) 20 : Nat)) x = f x := fun x hx => by rw [up_ne (by omega), xs_Day_ne (by omega) (by omega)]
  have v7 : xv_Hi (va_up (xs_Day f (a + 41 + 2 + 2 * H.1) S.2.1) (a + 41) (xh_c (a + 41) ((H.1 + 1) % 20 : Nat) (min (H.2.1 + 1) 20 : Nat))) (a + 41) (pushHi H S.2.1) := by
    refine ⟨up_s _ _ _, ?_, fun k hk => ?_⟩
    · rw [up_ne (by omega), xs_Day_ne (by omega) (by omega)]; exact p7.2.1
    · by_cases ck : k = H.1
      · subst ck
        have e : (pushHi H S.2.1).2.2 H.1 = S.2.1 := if_pos rfl
        rw [e]
        exact xv_Day_fr (xs_Day_v f (a + 41 + 2 + 2 * H.1) S.2.1) (fun x q1 q2 => up_ne (by omega))
      · have e : (pushHi H S.2.1).2.2 k = H.2.2 k := if_neg ck
        rw [e]
        exact xv_Day_fr (p7.2.2 k hk) (fun x q1 q2 => by rw [up_ne (by omega), xs_Day_ne (by omega) (by omega)])
  generalize va_up (xs_Day f (a + 41 + 2 + 2 * H.1) S.2.1) (a + 41) (xh_c (a + 41) ((H.1 + 1) % 20 : Nat) (min (H.2.1 + 1) 20 : Nat)) = f1 at *
  have q0 : P0 f1 a n nr T := P0_fr p0 (fun x q => e1 x (by omega))
  have q5 : xv_Dk f1 (a + 22) S := xv_Dk_fr p5 (fun x h1 h2 => e1 x (by omega))
  have t1 : xv_Day f1 (a + 83) d1 := xv_Day_fr ht (fun x h1 h2 => e1 x (by omega))
  have dc := fun K' => s_day_copy (D := D - 1) (w := w) (K := K') (by omega) q5.2.2.1 t1 hz hz1 (by omega)
  simp (disch := omega) only [b114_14, b114_15, b114_18, b114_21, b114_22, List.getElem?_cons_zero, List.getElem?_cons_succ, List.length_cons, List.length_nil, List.set_cons_zero, List.set_cons_succ, true_and, and_true, Option.toList_some, Option.toList_none, List.cons_append, List.nil_append, ↓reduceIte, not_false_eq_true, not_true_eq_false, Nat.reduceAdd, xj0_01, xj1_01, xb_B, xb_True, xb_False, ↓gpn_7 q0, ↓gpn_11 q0, ↓gk_1 q5.1]
  rw [b114_25, rc_Day q5.2.2.1, true_and, dc]
  have e2 : ∀ x, (x < a + 22 + 11 ∨ a + 22 + 13 ≤ x) → xs_Day f1 (a + 22 + 11) d1 x = f1 x := fun x hx => xs_Day_ne (by omega) (by omega)
  have v5 : xv_Dk (xs_Day f1 (a + 22 + 11) d1) (a + 22) (dkD S d1) := ⟨(e2 _ (by omega)).trans q5.1, xv_Off_fr q5.2.1 (fun x h1 h2 => e2 x (by omega)), xs_Day_v _ _ _, xv_Lg_fr q5.2.2.2 (fun x h1 h2 => e2 x (by omega))⟩
  generalize xs_Day f1 (a + 22 + 11) d1 = f2 at *
  have e3 : ∀ x, (x < a + 22 ∨ (a + 39 ≤ x ∧ x < a + 41) ∨ a + 83 ≤ x) → f2 x = f x := fun x hx => by rw [e2 x (by omega), e1 x (by omega)]
  have po := hpost f2 (fun x hx => e3 x (by omega)) ⟨P0_fr p0 (fun x q => e3 x (by omega)), P1_fr p1 (fun x q => e3 x (by omega)), P2_fr p2 (fun x q => e3 x (by omega)), P3_fr p3 (fun x q => e3 x (by omega)), P4_fr p4 (fun x q => e3 x (by omega)), v5, P6_fr p6 (fun x q => e3 x (by omega)), xv_Hi_fr v7 (fun x h1 h2 => e2 x (by omega)), P8_fr p8 (fun x q => e3 x (by omega)), P9_fr p9 (fun x q => e3 x (by omega)), P10_fr p10 (fun x q => e3 x (by omega)), P11_fr p11 (fun x q => e3 x (by omega))⟩
  simp (disch := omega) only [b114_28, List.getElem?_cons_zero, List.getElem?_cons_succ, List.length_cons, List.length_nil, List.set_cons_zero, List.set_cons_succ, true_and, and_true, Option.toList_some, Option.toList_none, List.cons_append, List.nil_append, ↓reduceIte, not_false_eq_true, not_true_eq_false, Nat.reduceAdd, xj0_01, xj1_01, xb_B, xb_True, xb_False]
  exact po
/-- the desk's day laid into the trial day -/
theorem p_trial (hD : 2 ≤ D) (h : xv_Pen f a n nr T ru S H im I) (hz : xz_Day S.2.1) (hpost : ∀ f', (∀ x, (x < a + 83 ∨ a + 85 ≤ x) → f' x = f x) → xv_Day f' (a + 83) S.2.1 → K none (f', w)) : xk_Cl D 1 [.ref (a + 83), .ref (a + 22 + 11)] (f, w) K := by
  obtain ⟨p0, p1, p2, p3, p4, p5, p6, p7, ⟨d0, h8, z8⟩, p9, p10, p11⟩ := h
  have p5 : xv_Dk f (a + 22) S := p5
  rw [s_day_copy hD h8 p5.2.2.1 z8 hz (by omega)]
  exact hpost _ (fun x hx => xs_Day_ne (by omega) (by omega)) (xs_Day_v _ _ _)
theorem rc_8 (h : xv_Pen f a n nr T ru S H im I) : xk_RC f (a + 83) 0 ↔ True := by
  obtain ⟨p0, p1, p2, p3, p4, p5, p6, p7, ⟨d0, h8, z8⟩, p9, p10, p11⟩ := h
  exact rc_Day h8
theorem pen_8 (h : xv_Pen f a n nr T ru S H im I) (e : ∀ x, (x < a + 83 ∨ a + 85 ≤ x) → f' x = f x) (hd : xv_Day f' (a + 83) d) (hz : xz_Day d) : xv_Pen f' a n nr T ru S H im I := by
  obtain ⟨p0, p1, p2, p3, p4, p5, p6, p7, p8, p9, p10, p11⟩ := h
  exact ⟨P0_fr p0 (fun x q => e x (by omega)), P1_fr p1 (fun x q => e x (by omega)), P2_fr p2 (fun x q => e x (by omega)), P3_fr p3 (fun x q => e x (by omega)), P4_fr p4 (fun x q => e x (by omega)), P5_fr p5 (fun x q => e x (by omega)), P6_fr p6 (fun x q => e x (by omega)), P7_fr p7 (fun x q => e x (by omega)), ⟨d, hd, hz⟩, P9_fr p9 (fun x q => e x (by omega)), P10_fr p10 (fun x q => e x (by omega)), P11_fr p11 (fun x q => e x (by omega))⟩
theorem p_sign (hD : 6 ≤ D) (h : xv_Pen f a n nr T ru S H im I) (hw : xw_Dk S) (hH : xw_Hi H) (z1 : -2147483648 ≤ z) (z2 : z ≤ 2147483647) (hno : canF S.1 S.2.1 z = false → ∀ f', (∀ x, (x < a ∨ a + 204 ≤ x) → f' x = f x) → xv_Pen f' a n nr T ru S H im I → K (some (.int (xj (-1)))) (f', w)) (hyes : ∀ p : Nat, z = p → canF S.1 S.2.1 p = true → ∀ f', (∀ x, (x < a ∨ a + 204 ≤ x) → f' x = f x) → xv_Pen f' a n nr T ru (dkD S (writeD S.1 S.2.1 p 63)) (pushHi H S.2.1) im I → K (some (.int (xj (endF S.1 S.2.1 p)))) (f', w)) : xk_Cl D 107 [.ref a, .int (xj z)] (f, w) K := by
  rw [e107 (by omega)]
  obtain ⟨w1, w2, w3, w4, w5, w6, w7, w8⟩ := hw
  have hn := w1.2.2.2.1
  have p0 := h.1
  have p5 : xv_Dk f (a + 22) S := h.2.2.2.2.2.1
  simp (disch := omega) only [b107_0, b107_1, b107_4, b107_5, b107_8, List.getElem?_cons_zero, List.getElem?_cons_succ, List.length_cons, List.length_nil, List.set_cons_zero, List.set_cons_succ, true_and, and_true, Option.toList_some, Option.toList_none, List.cons_append, List.nil_append, ↓reduceIte, not_false_eq_true, not_true_eq_false, Nat.reduceAdd, xj0_01, xj1_01, xb_B, xb_True, xb_False, ↓gpn_7 p0, ↓gpn_11 p0, ↓gk_1 p5.1]
  rw [b107_11, rc_8 h, true_and]
  refine p_trial (by omega) h w4 (fun f1 e1 d1 => ?_)
  have h1 := pen_8 h e1 d1 w4
  have q0 := h1.1
  have q5 : xv_Dk f1 (a + 22) S := h1.2.2.2.2.2.1
  cases hc : canF S.1 S.2.1 z with
  | false =>
    have po := hno hc f1 (fun x hx => e1 x (by omega)) h1
    have wr : ∀ K', xk_Cl (D - 1) 10 [.ref (a + 83), .ref (a + 22 + 1), .int (xj z), .int (xj 63)] (f1, w) K' ↔ _ := fun K' => s_write_no (by omega) q5.2.1 w1 d1 w3 z1 z2 hc
    simp (disch := omega) only [b107_14, b107_15, b107_18, b107_19, b107_22, b107_25, b107_26, b107_28, b107_31, b107_32, b107_33, b107_34, b107_37, b107_38, List.getElem?_cons_zero, List.getElem?_cons_succ, List.length_cons, List.length_nil, List.set_cons_zero, List.set_cons_succ, true_and, and_true, Option.toList_some, Option.toList_none, List.cons_append, List.nil_append, ↓reduceIte, not_false_eq_true, not_true_eq_false, Nat.reduceAdd, xj0_01, xj1_01, xb_B, xb_True, xb_False, ↓gpn_7 q0, ↓gpn_11 q0, ↓gk_0 q5.1, rc_Day d1, wr, ↓xj_in, xj_nat, Int.toNat_natCast, xj_lt_t, xj_lt_f, xj_le_t, xj_le_f, xj_eq_t, xj_eq_f, xj_lt, xj_le, xj_eq, xj_add, xj_sub, xj_mul, show ¬ xj 1 = xj 0 from by decide]
    exact po
  | true =>
    have hcp := of_decide_eq_true hc
    obtain ⟨p, rfl⟩ : ∃ p : Nat, z = p := ⟨z.toNat, by omega⟩
    have he := can_wr w1 w3 hc
    have wr : ∀ K', xk_Cl (D - 1) 10 [.ref (a + 83), .ref (a + 22 + 1), .int (xj (p : Nat)), .int (xj 63)] (f1, w) K' ↔ K' (some (.int (xj (endF S.1 S.2.1 p)))) (xs_Day f1 (a + 83) (writeD S.1 S.2.1 p 63), w) := fun K' => s_write (q := 63) (by omega) q5.2.1 w1 d1 w3 (by omega) hc (by decide)
    simp (disch := omega) only [b107_14, b107_15, b107_18, b107_19, b107_22, b107_25, b107_26, b107_28, b107_31, b107_32, b107_33, b107_34, List.getElem?_cons_zero, List.getElem?_cons_succ, List.length_cons, List.length_nil, List.set_cons_zero, List.set_cons_succ, true_and, and_true, Option.toList_some, Option.toList_none, List.cons_append, List.nil_append, ↓reduceIte, not_false_eq_true, not_true_eq_false, Nat.reduceAdd, xj0_01, xj1_01, xb_B, xb_True, xb_False, ↓gpn_7 q0, ↓gpn_11 q0, ↓gk_0 q5.1, rc_Day d1, wr, ↓xj_in, xj_nat, Int.toNat_natCast, xj_lt_t, xj_lt_f, xj_le_t, xj_le_f, xj_eq_t, xj_eq_f, xj_lt, xj_le, xj_eq, xj_add, xj_sub, xj_mul, show ¬ xj 1 = xj 0 from by decide]
    have e2 : ∀ x, (x < a + 83 ∨ a + 85 ≤ x) → xs_Day f1 (a + 83) (writeD S.1 S.2.1 p 63) x = f1 x := fun x hx => xs_Day_ne (by omega) (by omega)
    have d2 := xs_Day_v f1 (a + 83) (writeD S.1 S.2.1 p 63)
    generalize xs_Day f1 (a + 83) (writeD S.1 S.2.1 p 63) = f2 at *
    have z2' : xz_Day (writeD S.1 S.2.1 p 63) := xz_writeD w4 (by omega)
    have h2 := pen_8 h1 e2 d2 z2'
    simp (disch := omega) only [b107_39, List.getElem?_cons_zero, List.getElem?_cons_succ, List.length_cons, List.length_nil, List.set_cons_zero, List.set_cons_succ, true_and, and_true, Option.toList_some, Option.toList_none, List.cons_append, List.nil_append, ↓reduceIte, not_false_eq_true, not_true_eq_false, Nat.reduceAdd, xj0_01, xj1_01, xb_B, xb_True, xb_False]
    rw [b107_40, rc_Pen h2.1, true_and]
    refine p_act (by omega) h2 hH w4 d2 z2' (fun f3 e3 h3 => ?_)
    have po := hyes p rfl hc f3 (fun x hx => by rw [e3 x hx, e2 x (by omega), e1 x (by omega)]) h3
    simp (disch := omega) only [b107_43, b107_44, List.getElem?_cons_zero, List.getElem?_cons_succ, List.length_cons, List.length_nil, List.set_cons_zero, List.set_cons_succ, true_and, and_true, Option.toList_some, Option.toList_none, List.cons_append, List.nil_append, ↓reduceIte, not_false_eq_true, not_true_eq_false, Nat.reduceAdd, xj0_01, xj1_01, xb_B, xb_True, xb_False]
    exact po
theorem p_blank (hD : 5 ≤ D) (h : xv_Pen f a n nr T ru S H im I) (hw : xw_Dk S) (hH : xw_Hi H) (z1 : -2147483648 ≤ z) (z2 : z ≤ 2147483647) (hno : ¬ ((0 ≤ z ∧ z < of_np S.1) ∧ S.2.1.2.2.2.2.1.testBit z.toNat = false ∧ S.2.1.2.2.2.2.2.2.1.testBit z.toNat = false) → K (some (.int (xj (-1)))) (f, w)) (hyes : ∀ p : Nat, z = p → p < of_np S.1 → S.2.1.2.2.2.2.1.testBit p = false → S.2.1.2.2.2.2.2.2.1.testBit p = false → ∀ f', (∀ x, (x < a ∨ a + 204 ≤ x) → f' x = f x) → xv_Pen f' a n nr T ru (dkD S (blankD S.2.1 p)) (pushHi H S.2.1) im I → K (some (.int (xj (bcF (blankD S.2.1 p).2.2.2.2.2.2.1 : Nat)))) (f', w)) : xk_Cl D 108 [.ref a, .int (xj z)] (f, w) K := by
  rw [e108 (by omega)]
  obtain ⟨w1, w2, w3, w4, w5, w6, w7, w8⟩ := hw
  have hn := w1.2.2.2.1
  have p0 := h.1
  have p5 : xv_Dk f (a + 22) S := h.2.2.2.2.2.1
  have hd := p5.2.2.1
  have hp := fun K' => s_hasPaper (D := D - 1) (K := K') (w := w) (by omega) p5.2.1 w1 z1 z2
  have hsg : S.2.1.2.2.2.2.1 < 2 ^ of_np S.1 := w3.2.2.2.2.2.2.2.2.1
  have hbl : S.2.1.2.2.2.2.2.2.1 < 2 ^ of_np S.1 := w3.2.2.2.2.2.2.2.2.2.2.1
  have xo := xj_or (w1.n31 hsg) (w1.n31 hbl)
  have hor := xn_or (w1.n31 hsg) (w1.n31 hbl)
  by_cases c : 0 ≤ z ∧ z < of_np S.1
  · obtain ⟨p, rfl⟩ : ∃ p : Nat, z = p := ⟨z.toNat, by omega⟩
    rw [Int.toNat_natCast] at hno
    have hpn : p < of_np S.1 := by omega
    have xw : ∀ i, @xb (0 ≤ ((p : Nat) : Int) ∧ ((p : Nat) : Int) < of_np S.1) i = xj 1 := fun i => xb_T c
    have has := fun K' => s_has (D := D - 1) (K := K') (f := f) (w := w) (k := p) (by omega) hor (by omega)
    by_cases c2 : (S.2.1.2.2.2.2.1 ||| S.2.1.2.2.2.2.2.2.1).testBit p = true
    · have xh : ∀ i, @xb ((S.2.1.2.2.2.2.1 ||| S.2.1.2.2.2.2.2.2.1).testBit p = true) i = xj 1 := fun i => xb_T c2
      have po := hno (fun q => by rw [Nat.testBit_or, q.2.1, q.2.2] at c2; cases c2)
      simp (disch := omega) only [b108_0, b108_1, b108_4, b108_7, b108_8, b108_9, b108_12, b108_15, b108_16, b108_19, b108_22, b108_23, b108_26, b108_27, b108_30, b108_31, b108_32, b108_35, b108_38, b108_39, List.getElem?_cons_zero, List.getElem?_cons_succ, List.length_cons, List.length_nil, List.set_cons_zero, List.set_cons_succ, true_and, and_true, Option.toList_some, Option.toList_none, List.cons_append, List.nil_append, ↓reduceIte, not_false_eq_true, not_true_eq_false, Nat.reduceAdd, xj0_01, xj1_01, xb_B, xb_True, xb_False, ↓gpn_7 p0, ↓gk_0 p5.1, ↓gk_1 p5.1, ↓gv_4 hd, ↓gv_6 hd, rc_Off p5.2.1, hp, xw, xo, has, xh, ↓xj_in, xj_nat, Int.toNat_natCast, xj_lt_t, xj_lt_f, xj_le_t, xj_le_f, xj_eq_t, xj_eq_f, xj_lt, xj_le, xj_eq, xj_add, xj_sub, xj_mul, show ¬ xj 1 = xj 0 from by decide]
      exact po
    · have xh : ∀ i, @xb ((S.2.1.2.2.2.2.1 ||| S.2.1.2.2.2.2.2.2.1).testBit p = true) i = xj 0 := fun i => xb_F c2
      have c3 : S.2.1.2.2.2.2.1.testBit p = false ∧ S.2.1.2.2.2.2.2.2.1.testBit p = false := by
        rw [Nat.testBit_or] at c2
        cases h1 : S.2.1.2.2.2.2.1.testBit p with
        | true => rw [h1] at c2; exact absurd rfl c2
        | false =>
          cases h2 : S.2.1.2.2.2.2.2.2.1.testBit p with
          | true => rw [h1, h2] at c2; exact absurd rfl c2
          | false => exact ⟨rfl, rfl⟩
      simp (disch := omega) only [b108_0, b108_1, b108_4, b108_7, b108_8, b108_9, b108_12, b108_15, b108_16, b108_19, b108_22, b108_23, b108_26, b108_27, b108_30, b108_31, b108_32, b108_35, b108_38, b108_39, b108_40, b108_41, b108_44, List.getElem?_cons_zero, List.getElem?_cons_succ, List.length_cons, List.length_nil, List.set_cons_zero, List.set_cons_succ, true_and, and_true, Option.toList_some, Option.toList_none, List.cons_append, List.nil_append, ↓reduceIte, not_false_eq_true, not_true_eq_false, Nat.reduceAdd, xj0_01, xj1_01, xb_B, xb_True, xb_False, ↓gpn_7 p0, ↓gpn_11 p0, ↓gk_0 p5.1, ↓gk_1 p5.1, ↓gv_4 hd, ↓gv_6 hd, rc_Off p5.2.1, hp, xw, xo, has, xh, ↓xj_in, xj_nat, Int.toNat_natCast, xj_lt_t, xj_lt_f, xj_le_t, xj_le_f, xj_eq_t, xj_eq_f, xj_lt, xj_le, xj_eq, xj_add, xj_sub, xj_mul, show ¬ xj 1 = xj 0 from by decide]
      rw [b108_45, rc_8 h, true_and]
      refine p_trial (by omega) h w4 (fun f1 e1 d1 => ?_)
      have h1 := pen_8 h e1 d1 w4
      have q0 := h1.1
      have hp2 : (2 : Nat) ^ p < 2147483648 := p2lt (by omega)
      have xo2 := xj_or (w1.n31 hbl) hp2
      have pf : ∀ G, xk_PF f1 (a + 83) 0 6 (.int (xj ((S.2.1.2.2.2.2.2.2.1 ||| 2 ^ p : Nat) : Int))) G ↔ G (xs_Day f1 (a + 83) (blankD S.2.1 p)) := fun G => by
        have e := pd_6 (f := f1) (a := a + 83) (d := S.2.1) (k := S.2.1.2.2.2.2.2.2.1 ||| 2 ^ p) (G := G)
        rw [xs_Day_id d1] at e
        exact e
      simp (disch := omega) only [b108_48, b108_49, b108_52, b108_53, b108_56, b108_57, b108_58, b108_59, b108_60, List.getElem?_cons_zero, List.getElem?_cons_succ, List.length_cons, List.length_nil, List.set_cons_zero, List.set_cons_succ, true_and, and_true, Option.toList_some, Option.toList_none, List.cons_append, List.nil_append, ↓reduceIte, not_false_eq_true, not_true_eq_false, Nat.reduceAdd, xj0_01, xj1_01, xb_B, xb_True, xb_False, ↓gpn_11 q0, ↓gv_6 d1, xj_shl1 (k := p) (by omega), xo2, ↓pf, ↓xj_in, xj_nat, Int.toNat_natCast, xj_lt_t, xj_lt_f, xj_le_t, xj_le_f, xj_eq_t, xj_eq_f, xj_lt, xj_le, xj_eq, xj_add, xj_sub, xj_mul, show ¬ xj 1 = xj 0 from by decide]
      have e2 : ∀ x, (x < a + 83 ∨ a + 85 ≤ x) → xs_Day f1 (a + 83) (blankD S.2.1 p) x = f1 x := fun x hx => xs_Day_ne (by omega) (by omega)
      have d2 := xs_Day_v f1 (a + 83) (blankD S.2.1 p)
      generalize xs_Day f1 (a + 83) (blankD S.2.1 p) = f2 at *
      have h2 := pen_8 h1 e2 d2 w4
      simp (disch := omega) only [b108_63, List.getElem?_cons_zero, List.getElem?_cons_succ, List.length_cons, List.length_nil, List.set_cons_zero, List.set_cons_succ, true_and, and_true, Option.toList_some, Option.toList_none, List.cons_append, List.nil_append, ↓reduceIte, not_false_eq_true, not_true_eq_false, Nat.reduceAdd, xj0_01, xj1_01, xb_B, xb_True, xb_False]
      rw [b108_64, rc_Pen h2.1, true_and]
      refine p_act (by omega) h2 hH w4 d2 w4 (fun f3 e3 h3 => ?_)
      have po := hyes p rfl hpn c3.1 c3.2 f3 (fun x hx => by rw [e3 x hx, e2 x (by omega), e1 x (by omega)]) h3
      have r5 : xv_Dk f3 (a + 22) (dkD S (blankD S.2.1 p)) := h3.2.2.2.2.2.1
      have r6 := r5.2.2.1
      have b64 : (blankD S.2.1 p).2.2.2.2.2.2.1 < 64 := by
        have q1 : S.2.1.2.2.2.2.2.2.1 < 2 ^ 6 := Nat.lt_of_lt_of_le hbl (p2_64 hn)
        exact Nat.or_lt_two_pow (n := 6) q1 (Nat.pow_lt_pow_right (by decide) (by omega))
      have g6 : ∀ V, xk_GF f3 (a + 22 + 11) 0 6 V ↔ V (.int (xj ((blankD S.2.1 p).2.2.2.2.2.2.1 : Nat))) := fun V => gf_R r6.1 rfl
      simp (disch := omega) only [b108_67, b108_68, b108_71, b108_74, List.getElem?_cons_zero, List.getElem?_cons_succ, List.length_cons, List.length_nil, List.set_cons_zero, List.set_cons_succ, true_and, and_true, Option.toList_some, Option.toList_none, List.cons_append, List.nil_append, ↓reduceIte, not_false_eq_true, not_true_eq_false, Nat.reduceAdd, xj0_01, xj1_01, xb_B, xb_True, xb_False, ↓g6, s_bitCount _ b64]
      exact po
  · have xw : ∀ i, @xb (0 ≤ z ∧ z < of_np S.1) i = xj 0 := fun i => xb_F c
    have po := hno (fun q => c q.1)
    simp (disch := omega) only [b108_0, b108_1, b108_4, b108_7, b108_8, b108_9, b108_12, b108_15, b108_16, b108_19, b108_22, b108_23, b108_26, b108_27, b108_30, b108_31, b108_32, b108_35, b108_38, b108_39, List.getElem?_cons_zero, List.getElem?_cons_succ, List.length_cons, List.length_nil, List.set_cons_zero, List.set_cons_succ, true_and, and_true, Option.toList_some, Option.toList_none, List.cons_append, List.nil_append, ↓reduceIte, not_false_eq_true, not_true_eq_false, Nat.reduceAdd, xj0_01, xj1_01, xb_B, xb_True, xb_False, ↓gpn_7 p0, ↓gk_0 p5.1, ↓gk_1 p5.1, rc_Off p5.2.1, hp, xw, ↓xj_in, xj_nat, Int.toNat_natCast, xj_lt_t, xj_lt_f, xj_le_t, xj_le_f, xj_eq_t, xj_eq_f, xj_lt, xj_le, xj_eq, xj_add, xj_sub, xj_mul, show ¬ xj 1 = xj 0 from by decide]
    exact po
theorem p_await (hD : 5 ≤ D) (h : xv_Pen f a n nr T ru S H im I) (hw : xw_Dk S) (hH : xw_Hi H) (z1 : -2147483648 ≤ z) (z2 : z ≤ 2147483647) (hno : ¬ (of_told S.1 = 1 ∧ 1 ≤ z ∧ z ≤ 100 ∧ S.2.1.1 + z ≤ 9999) → K (some (.int (xj (-1)))) (f, w)) (hyes : of_told S.1 = 1 → 1 ≤ z → z ≤ 100 → S.2.1.1 + z ≤ 9999 → ∀ f', (∀ x, (x < a ∨ a + 204 ≤ x) → f' x = f x) → xv_Pen f' a n nr T ru (dkD S (minD S.2.1 z)) (pushHi H S.2.1) im I → K (some (.int (xj (S.2.1.1 + z)))) (f', w)) : xk_Cl D 109 [.ref a, .int (xj z)] (f, w) K := by
  rw [e109 (by omega)]
  have hw' := hw
  obtain ⟨w1, w2, w3, w4, w5, w6, w7, w8⟩ := hw
  have p0 := h.1
  have p5 : xv_Dk f (a + 22) S := h.2.2.2.2.2.1
  by_cases c1 : 1 ≤ z
  · by_cases c2 : z ≤ 100
    · have cp := fun K' => s_canPass (D := D - 1) (K := K') (w := w) (z := z) (by omega) h hw' (by omega) (by omega)
      by_cases c3 : of_told S.1 = 1 ∧ S.2.1.1 + z ≤ 9999
      · have xw : ∀ i, @xb (of_told S.1 = 1 ∧ S.2.1.1 + z ≤ 9999) i = xj 1 := fun i => xb_T c3
        simp (disch := omega) only [b109_0, b109_1, b109_2, b109_5, b109_6, b109_8, b109_11, b109_12, b109_13, b109_16, b109_19, b109_20, b109_21, b109_22, b109_25, b109_26, b109_29, List.getElem?_cons_zero, List.getElem?_cons_succ, List.length_cons, List.length_nil, List.set_cons_zero, List.set_cons_succ, true_and, and_true, Option.toList_some, Option.toList_none, List.cons_append, List.nil_append, ↓reduceIte, not_false_eq_true, not_true_eq_false, Nat.reduceAdd, xj0_01, xj1_01, xb_B, xb_True, xb_False, ↓gpn_7 p0, ↓gpn_11 p0, ↓gk_1 p5.1, rc_Pen p0, cp, xw, ↓xj_in, xj_nat, Int.toNat_natCast, xj_lt_t, xj_lt_f, xj_le_t, xj_le_f, xj_eq_t, xj_eq_f, xj_lt, xj_le, xj_eq, xj_add, xj_sub, xj_mul, show ¬ xj 1 = xj 0 from by decide]
        rw [b109_32, rc_8 h, true_and]
        refine p_trial (by omega) h w4 (fun f1 e1 d1 => ?_)
        have h1 := pen_8 h e1 d1 w4
        have q0 := h1.1
        have pf : ∀ G, xk_PF f1 (a + 83) 0 0 (.int (xj (S.2.1.1 + z))) G ↔ G (xs_Day f1 (a + 83) (minD S.2.1 z)) := fun G => by
          have e := pd_0 (f := f1) (a := a + 83) (d := S.2.1) (z := S.2.1.1 + z) (G := G)
          rw [xs_Day_id d1] at e
          exact e
        simp (disch := omega) only [b109_35, b109_36, b109_39, b109_40, b109_43, b109_44, b109_45, List.getElem?_cons_zero, List.getElem?_cons_succ, List.length_cons, List.length_nil, List.set_cons_zero, List.set_cons_succ, true_and, and_true, Option.toList_some, Option.toList_none, List.cons_append, List.nil_append, ↓reduceIte, not_false_eq_true, not_true_eq_false, Nat.reduceAdd, xj0_01, xj1_01, xb_B, xb_True, xb_False, ↓gpn_11 q0, ↓gv_0 d1, ↓pf, ↓xj_in, xj_nat, Int.toNat_natCast, xj_lt_t, xj_lt_f, xj_le_t, xj_le_f, xj_eq_t, xj_eq_f, xj_lt, xj_le, xj_eq, xj_add, xj_sub, xj_mul, show ¬ xj 1 = xj 0 from by decide]
        have e2 : ∀ x, (x < a + 83 ∨ a + 85 ≤ x) → xs_Day f1 (a + 83) (minD S.2.1 z) x = f1 x := fun x hx => xs_Day_ne (by omega) (by omega)
        have d2 := xs_Day_v f1 (a + 83) (minD S.2.1 z)
        generalize xs_Day f1 (a + 83) (minD S.2.1 z) = f2 at *
        have h2 := pen_8 h1 e2 d2 w4
        simp (disch := omega) only [b109_48, List.getElem?_cons_zero, List.getElem?_cons_succ, List.length_cons, List.length_nil, List.set_cons_zero, List.set_cons_succ, true_and, and_true, Option.toList_some, Option.toList_none, List.cons_append, List.nil_append, ↓reduceIte, not_false_eq_true, not_true_eq_false, Nat.reduceAdd, xj0_01, xj1_01, xb_B, xb_True, xb_False]
        rw [b109_49, rc_Pen h2.1, true_and]
        refine p_act (by omega) h2 hH w4 d2 w4 (fun f3 e3 h3 => ?_)
        have po := hyes c3.1 c1 c2 c3.2 f3 (fun x hx => by rw [e3 x hx, e2 x (by omega), e1 x (by omega)]) h3
        have r0 := h3.1
        have r5 : xv_Dk f3 (a + 22) (dkD S (minD S.2.1 z)) := h3.2.2.2.2.2.1
        have g0 : ∀ V, xk_GF f3 (a + 22 + 11) 0 0 V ↔ V (.int (xj (S.2.1.1 + z))) := fun V => gf_R r5.2.2.1.1 rfl
        simp (disch := omega) only [b109_52, b109_53, b109_56, b109_59, b109_62, List.getElem?_cons_zero, List.getElem?_cons_succ, List.length_cons, List.length_nil, List.set_cons_zero, List.set_cons_succ, true_and, and_true, Option.toList_some, Option.toList_none, List.cons_append, List.nil_append, ↓reduceIte, not_false_eq_true, not_true_eq_false, Nat.reduceAdd, xj0_01, xj1_01, xb_B, xb_True, xb_False, ↓gpn_7 r0, ↓gk_1 r5.1, ↓g0]
        exact po
      · have xw : ∀ i, @xb (of_told S.1 = 1 ∧ S.2.1.1 + z ≤ 9999) i = xj 0 := fun i => xb_F c3
        have po := hno (fun q => c3 ⟨q.1, q.2.2.2⟩)
        simp (disch := omega) only [b109_0, b109_1, b109_2, b109_5, b109_6, b109_8, b109_11, b109_12, b109_13, b109_16, b109_19, b109_20, List.getElem?_cons_zero, List.getElem?_cons_succ, List.length_cons, List.length_nil, List.set_cons_zero, List.set_cons_succ, true_and, and_true, Option.toList_some, Option.toList_none, List.cons_append, List.nil_append, ↓reduceIte, not_false_eq_true, not_true_eq_false, Nat.reduceAdd, xj0_01, xj1_01, xb_B, xb_True, xb_False, rc_Pen p0, cp, xw, ↓xj_in, xj_nat, Int.toNat_natCast, xj_lt_t, xj_lt_f, xj_le_t, xj_le_f, xj_eq_t, xj_eq_f, xj_lt, xj_le, xj_eq, xj_add, xj_sub, xj_mul, show ¬ xj 1 = xj 0 from by decide]
        exact po
    · have po := hno (fun q => c2 q.2.2.1)
      simp (disch := omega) only [b109_0, b109_1, b109_2, b109_5, b109_6, b109_8, b109_11, b109_12, b109_13, b109_16, b109_19, b109_20, List.getElem?_cons_zero, List.getElem?_cons_succ, List.length_cons, List.length_nil, List.set_cons_zero, List.set_cons_succ, true_and, and_true, Option.toList_some, Option.toList_none, List.cons_append, List.nil_append, ↓reduceIte, not_false_eq_true, not_true_eq_false, Nat.reduceAdd, xj0_01, xj1_01, xb_B, xb_True, xb_False, ↓xj_in, xj_nat, Int.toNat_natCast, xj_lt_t, xj_lt_f, xj_le_t, xj_le_f, xj_eq_t, xj_eq_f, xj_lt, xj_le, xj_eq, xj_add, xj_sub, xj_mul, show ¬ xj 1 = xj 0 from by decide]
      exact po
  · have po := hno (fun q => c1 q.2.1)
    simp (disch := omega) only [b109_0, b109_1, b109_2, b109_5, b109_6, b109_8, b109_11, b109_12, b109_13, b109_16, b109_19, b109_20, List.getElem?_cons_zero, List.getElem?_cons_succ, List.length_cons, List.length_nil, List.set_cons_zero, List.set_cons_succ, true_and, and_true, Option.toList_some, Option.toList_none, List.cons_append, List.nil_append, ↓reduceIte, not_false_eq_true, not_true_eq_false, Nat.reduceAdd, xj0_01, xj1_01, xb_B, xb_True, xb_False, ↓xj_in, xj_nat, Int.toNat_natCast, xj_lt_t, xj_lt_f, xj_le_t, xj_le_f, xj_eq_t, xj_eq_f, xj_lt, xj_le, xj_eq, xj_add, xj_sub, xj_mul, show ¬ xj 1 = xj 0 from by decide]
    exact po
theorem p_filling (hD : 5 ≤ D) (h : xv_Pen f a n nr T ru S H im I) (hw : xw_Dk S) (hH : xw_Hi H) (hno : ¬ (of_told S.1 = 1 ∧ S.2.1.2.2.1 < of_ink S.1 ∧ S.2.1.1 + of_fill S.1 ≤ 9999) → K (some (.int (xj (-1)))) (f, w)) (hyes : of_told S.1 = 1 → S.2.1.2.2.1 < of_ink S.1 → S.2.1.1 + of_fill S.1 ≤ 9999 → ∀ f', (∀ x, (x < a ∨ a + 204 ≤ x) → f' x = f x) → xv_Pen f' a n nr T ru (dkD S (fillD S.1 S.2.1)) (pushHi H S.2.1) im I → K (some (.int (xj S.2.1.2.2.1))) (f', w)) : xk_Cl D 110 [.ref a] (f, w) K := by
  rw [e110 (by omega)]
  have hw' := hw
  obtain ⟨w1, w2, w3, w4, w5, w6, w7, w8⟩ := hw
  obtain ⟨s1, s2, s3, s4, s5, s6⟩ := w1.sm
  have d3 := w3.2.2.2.2.1
  have d4 := w3.2.2.2.2.2.1
  have p0 := h.1
  have p5 : xv_Dk f (a + 22) S := h.2.2.2.2.2.1
  have ho := p5.2.1
  have hd := p5.2.2.1
  by_cases c1 : S.2.1.2.2.1 < of_ink S.1
  · have cp := fun K' => s_canPass (D := D - 1) (K := K') (w := w) (z := of_fill S.1) (by omega) h hw' (by omega) (by omega)
    by_cases c3 : of_told S.1 = 1 ∧ S.2.1.1 + of_fill S.1 ≤ 9999
    · have xw : ∀ i, @xb (of_told S.1 = 1 ∧ S.2.1.1 + of_fill S.1 ≤ 9999) i = xj 1 := fun i => xb_T c3
      simp (disch := omega) only [b110_0, b110_1, b110_4, b110_7, b110_10, b110_11, b110_12, b110_13, b110_16, b110_19, b110_22, b110_25, b110_26, b110_27, b110_30, b110_33, b110_36, b110_39, b110_42, b110_43, b110_44, b110_45, b110_48, b110_49, b110_52, List.getElem?_cons_zero, List.getElem?_cons_succ, List.length_cons, List.length_nil, List.set_cons_zero, List.set_cons_succ, true_and, and_true, Option.toList_some, Option.toList_none, List.cons_append, List.nil_append, ↓reduceIte, not_false_eq_true, not_true_eq_false, Nat.reduceAdd, xj0_01, xj1_01, xb_B, xb_True, xb_False, ↓go_0 ho, ↓go_1 ho, ↓go_2 ho, ↓go_3 ho, ↓go_4 ho, ↓go_5 ho, ↓go_6 ho, ↓go_7 ho, ↓go_8 ho, ↓go_9 ho, ↓go_10 ho, ↓go_11 ho, ↓go_12 ho, ↓go_13 ho, ↓go_14 ho, ↓go_15 ho, ↓ao_1 ho, ↓ao_2 ho, ↓ao_3 ho, ↓ao_4 ho, ↓ao_5 ho, ↓ao_6 ho, ↓ao_7 ho, ↓ao_8 ho, ↓ao_9 ho, ↓gpn_7 p0, ↓gpn_11 p0, ↓gk_0 p5.1, ↓gk_1 p5.1, ↓gv_2 hd, rc_Pen p0, cp, xw, ↓xj_in, xj_nat, Int.toNat_natCast, xj_lt_t, xj_lt_f, xj_le_t, xj_le_f, xj_eq_t, xj_eq_f, xj_lt, xj_le, xj_eq, xj_add, xj_sub, xj_mul, show ¬ xj 1 = xj 0 from by decide]
      rw [b110_55, rc_8 h, true_and]
      refine p_trial (by omega) h w4 (fun f1 e1 d1 => ?_)
      have h1 := pen_8 h e1 d1 w4
      have q0 := h1.1
      have q5 : xv_Dk f1 (a + 22) S := h1.2.2.2.2.2.1
      have ho1 := q5.2.1
      have pf : ∀ G, xk_PF f1 (a + 83) 0 0 (.int (xj (S.2.1.1 + of_fill S.1))) G ↔ G (xs_Day f1 (a + 83) (minD S.2.1 (of_fill S.1))) := fun G => by
        have e := pd_0 (f := f1) (a := a + 83) (d := S.2.1) (z := S.2.1.1 + of_fill S.1) (G := G)
        rw [xs_Day_id d1] at e
        exact e
      simp (disch := omega) only [b110_58, b110_59, b110_62, b110_63, b110_66, b110_67, b110_70, b110_73, b110_76, b110_77, List.getElem?_cons_zero, List.getElem?_cons_succ, List.length_cons, List.length_nil, List.set_cons_zero, List.set_cons_succ, true_and, and_true, Option.toList_some, Option.toList_none, List.cons_append, List.nil_append, ↓reduceIte, not_false_eq_true, not_true_eq_false, Nat.reduceAdd, xj0_01, xj1_01, xb_B, xb_True, xb_False, ↓go_0 ho1, ↓go_1 ho1, ↓go_2 ho1, ↓go_3 ho1, ↓go_4 ho1, ↓go_5 ho1, ↓go_6 ho1, ↓go_7 ho1, ↓go_8 ho1, ↓go_9 ho1, ↓go_10 ho1, ↓go_11 ho1, ↓go_12 ho1, ↓go_13 ho1, ↓go_14 ho1, ↓go_15 ho1, ↓ao_1 ho1, ↓ao_2 ho1, ↓ao_3 ho1, ↓ao_4 ho1, ↓ao_5 ho1, ↓ao_6 ho1, ↓ao_7 ho1, ↓ao_8 ho1, ↓ao_9 ho1, ↓gpn_7 q0, ↓gpn_11 q0, ↓gk_0 q5.1, ↓gv_0 d1, ↓pf, ↓xj_in, xj_nat, Int.toNat_natCast, xj_lt_t, xj_lt_f, xj_le_t, xj_le_f, xj_eq_t, xj_eq_f, xj_lt, xj_le, xj_eq, xj_add, xj_sub, xj_mul, show ¬ xj 1 = xj 0 from by decide]
      have e2 : ∀ x, (x < a + 83 ∨ a + 85 ≤ x) → xs_Day f1 (a + 83) (minD S.2.1 (of_fill S.1)) x = f1 x := fun x hx => xs_Day_ne (by omega) (by omega)
      have d2 := xs_Day_v f1 (a + 83) (minD S.2.1 (of_fill S.1))
      generalize xs_Day f1 (a + 83) (minD S.2.1 (of_fill S.1)) = f2 at *
      have h2 := pen_8 h1 e2 d2 w4
      have r0 := h2.1
      have r5 : xv_Dk f2 (a + 22) S := h2.2.2.2.2.2.1
      have ho2 := r5.2.1
      have pf2 : ∀ G, xk_PF f2 (a + 83) 0 2 (.int (xj (of_ink S.1))) G ↔ G (xs_Day f2 (a + 83) (fillD S.1 S.2.1)) := fun G => by
        have e := pd_2 (f := f2) (a := a + 83) (d := minD S.2.1 (of_fill S.1)) (z := of_ink S.1) (G := G)
        rw [xs_Day_id d2] at e
        exact e
      simp (disch := omega) only [b110_80, b110_81, b110_84, b110_85, b110_88, b110_91, b110_94, List.getElem?_cons_zero, List.getElem?_cons_succ, List.length_cons, List.length_nil, List.set_cons_zero, List.set_cons_succ, true_and, and_true, Option.toList_some, Option.toList_none, List.cons_append, List.nil_append, ↓reduceIte, not_false_eq_true, not_true_eq_false, Nat.reduceAdd, xj0_01, xj1_01, xb_B, xb_True, xb_False, ↓go_0 ho2, ↓go_1 ho2, ↓go_2 ho2, ↓go_3 ho2, ↓go_4 ho2, ↓go_5 ho2, ↓go_6 ho2, ↓go_7 ho2, ↓go_8 ho2, ↓go_9 ho2, ↓go_10 ho2, ↓go_11 ho2, ↓go_12 ho2, ↓go_13 ho2, ↓go_14 ho2, ↓go_15 ho2, ↓ao_1 ho2, ↓ao_2 ho2, ↓ao_3 ho2, ↓ao_4 ho2, ↓ao_5 ho2, ↓ao_6 ho2, ↓ao_7 ho2, ↓ao_8 ho2, ↓ao_9 ho2, ↓gpn_7 r0, ↓gpn_11 r0, ↓gk_0 r5.1, ↓pf2, ↓xj_in, xj_nat, Int.toNat_natCast, xj_lt_t, xj_lt_f, xj_le_t, xj_le_f, xj_eq_t, xj_eq_f, xj_lt, xj_le, xj_eq, xj_add, xj_sub, xj_mul, show ¬ xj 1 = xj 0 from by decide]
      have e3 : ∀ x, (x < a + 83 ∨ a + 85 ≤ x) → xs_Day f2 (a + 83) (fillD S.1 S.2.1) x = f2 x := fun x hx => xs_Day_ne (by omega) (by omega)
      have d3 := xs_Day_v f2 (a + 83) (fillD S.1 S.2.1)
      generalize xs_Day f2 (a + 83) (fillD S.1 S.2.1) = f3 at *
      have h3 := pen_8 h2 e3 d3 w4
      simp (disch := omega) only [b110_97, List.getElem?_cons_zero, List.getElem?_cons_succ, List.length_cons, List.length_nil, List.set_cons_zero, List.set_cons_succ, true_and, and_true, Option.toList_some, Option.toList_none, List.cons_append, List.nil_append, ↓reduceIte, not_false_eq_true, not_true_eq_false, Nat.reduceAdd, xj0_01, xj1_01, xb_B, xb_True, xb_False]
      rw [b110_98, rc_Pen h3.1, true_and]
      refine p_act (by omega) h3 hH w4 d3 w4 (fun f4 e4 h4 => ?_)
      have po := hyes c3.1 c1 c3.2 f4 (fun x hx => by rw [e4 x hx, e3 x (by omega), e2 x (by omega), e1 x (by omega)]) h4
      simp (disch := omega) only [b110_101, b110_102, List.getElem?_cons_zero, List.getElem?_cons_succ, List.length_cons, List.length_nil, List.set_cons_zero, List.set_cons_succ, true_and, and_true, Option.toList_some, Option.toList_none, List.cons_append, List.nil_append, ↓reduceIte, not_false_eq_true, not_true_eq_false, Nat.reduceAdd, xj0_01, xj1_01, xb_B, xb_True, xb_False]
      exact po
    · have xw : ∀ i, @xb (of_told S.1 = 1 ∧ S.2.1.1 + of_fill S.1 ≤ 9999) i = xj 0 := fun i => xb_F c3
      have po := hno (fun q => c3 ⟨q.1, q.2.2⟩)
      simp (disch := omega) only [b110_0, b110_1, b110_4, b110_7, b110_10, b110_11, b110_12, b110_13, b110_16, b110_19, b110_22, b110_25, b110_26, b110_27, b110_30, b110_33, b110_36, b110_39, b110_42, b110_43, List.getElem?_cons_zero, List.getElem?_cons_succ, List.length_cons, List.length_nil, List.set_cons_zero, List.set_cons_succ, true_and, and_true, Option.toList_some, Option.toList_none, List.cons_append, List.nil_append, ↓reduceIte, not_false_eq_true, not_true_eq_false, Nat.reduceAdd, xj0_01, xj1_01, xb_B, xb_True, xb_False, ↓go_0 ho, ↓go_1 ho, ↓go_2 ho, ↓go_3 ho, ↓go_4 ho, ↓go_5 ho, ↓go_6 ho, ↓go_7 ho, ↓go_8 ho, ↓go_9 ho, ↓go_10 ho, ↓go_11 ho, ↓go_12 ho, ↓go_13 ho, ↓go_14 ho, ↓go_15 ho, ↓ao_1 ho, ↓ao_2 ho, ↓ao_3 ho, ↓ao_4 ho, ↓ao_5 ho, ↓ao_6 ho, ↓ao_7 ho, ↓ao_8 ho, ↓ao_9 ho, ↓gpn_7 p0, ↓gk_0 p5.1, ↓gk_1 p5.1, ↓gv_2 hd, rc_Pen p0, cp, xw, ↓xj_in, xj_nat, Int.toNat_natCast, xj_lt_t, xj_lt_f, xj_le_t, xj_le_f, xj_eq_t, xj_eq_f, xj_lt, xj_le, xj_eq, xj_add, xj_sub, xj_mul, show ¬ xj 1 = xj 0 from by decide]
      exact po
  · have po := hno (fun q => c1 q.2.1)
    simp (disch := omega) only [b110_0, b110_1, b110_4, b110_7, b110_10, b110_11, b110_12, b110_13, b110_16, b110_19, b110_22, b110_25, b110_26, b110_27, b110_30, b110_33, b110_36, b110_39, b110_42, b110_43, List.getElem?_cons_zero, List.getElem?_cons_succ, List.length_cons, List.length_nil, List.set_cons_zero, List.set_cons_succ, true_and, and_true, Option.toList_some, Option.toList_none, List.cons_append, List.nil_append, ↓reduceIte, not_false_eq_true, not_true_eq_false, Nat.reduceAdd, xj0_01, xj1_01, xb_B, xb_True, xb_False, ↓go_0 ho, ↓go_1 ho, ↓go_2 ho, ↓go_3 ho, ↓go_4 ho, ↓go_5 ho, ↓go_6 ho, ↓go_7 ho, ↓go_8 ho, ↓go_9 ho, ↓go_10 ho, ↓go_11 ho, ↓go_12 ho, ↓go_13 ho, ↓go_14 ho, ↓go_15 ho, ↓ao_1 ho, ↓ao_2 ho, ↓ao_3 ho, ↓ao_4 ho, ↓ao_5 ho, ↓ao_6 ho, ↓ao_7 ho, ↓ao_8 ho, ↓ao_9 ho, ↓gpn_7 p0, ↓gk_0 p5.1, ↓gk_1 p5.1, ↓gv_2 hd, ↓xj_in, xj_nat, Int.toNat_natCast, xj_lt_t, xj_lt_f, xj_le_t, xj_le_f, xj_eq_t, xj_eq_f, xj_lt, xj_le, xj_eq, xj_add, xj_sub, xj_mul, show ¬ xj 1 = xj 0 from by decide]
    exact po
theorem p_change (hD : 5 ≤ D) (h : xv_Pen f a n nr T ru S H im I) (hw : xw_Dk S) (hH : xw_Hi H) (hno : ¬ (of_told S.1 = 1 ∧ S.2.1.2.2.2.1 < of_nib S.1 ∧ S.2.1.1 + 3 ≤ 9999) → K (some (.int (xj (-1)))) (f, w)) (hyes : of_told S.1 = 1 → S.2.1.2.2.2.1 < of_nib S.1 → S.2.1.1 + 3 ≤ 9999 → ∀ f', (∀ x, (x < a ∨ a + 204 ≤ x) → f' x = f x) → xv_Pen f' a n nr T ru (dkD S (changeD S.1 S.2.1)) (pushHi H S.2.1) im I → K (some (.int (xj S.2.1.2.2.2.1))) (f', w)) : xk_Cl D 111 [.ref a] (f, w) K := by
  rw [e111 (by omega)]
  have hw' := hw
  obtain ⟨w1, w2, w3, w4, w5, w6, w7, w8⟩ := hw
  obtain ⟨s1, s2, s3, s4, s5, s6⟩ := w1.sm
  have d3 := w3.2.2.2.2.2.2.1
  have d4 := w3.2.2.2.2.2.2.2.1
  have p0 := h.1
  have p5 : xv_Dk f (a + 22) S := h.2.2.2.2.2.1
  have ho := p5.2.1
  have hd := p5.2.2.1
  by_cases c1 : S.2.1.2.2.2.1 < of_nib S.1
  · have cp := fun K' => s_canPass (D := D - 1) (K := K') (w := w) (z := 3) (by omega) h hw' (by omega) (by omega)
    by_cases c3 : of_told S.1 = 1 ∧ S.2.1.1 + 3 ≤ 9999
    · have xw : ∀ i, @xb (of_told S.1 = 1 ∧ S.2.1.1 + 3 ≤ 9999) i = xj 1 := fun i => xb_T c3
      simp (disch := omega) only [b111_0, b111_1, b111_4, b111_7, b111_10, b111_11, b111_12, b111_13, b111_16, b111_19, b111_22, b111_25, b111_26, b111_27, b111_30, b111_33, b111_34, b111_35, b111_36, b111_39, b111_40, b111_43, List.getElem?_cons_zero, List.getElem?_cons_succ, List.length_cons, List.length_nil, List.set_cons_zero, List.set_cons_succ, true_and, and_true, Option.toList_some, Option.toList_none, List.cons_append, List.nil_append, ↓reduceIte, not_false_eq_true, not_true_eq_false, Nat.reduceAdd, xj0_01, xj1_01, xb_B, xb_True, xb_False, ↓go_0 ho, ↓go_1 ho, ↓go_2 ho, ↓go_3 ho, ↓go_4 ho, ↓go_5 ho, ↓go_6 ho, ↓go_7 ho, ↓go_8 ho, ↓go_9 ho, ↓go_10 ho, ↓go_11 ho, ↓go_12 ho, ↓go_13 ho, ↓go_14 ho, ↓go_15 ho, ↓ao_1 ho, ↓ao_2 ho, ↓ao_3 ho, ↓ao_4 ho, ↓ao_5 ho, ↓ao_6 ho, ↓ao_7 ho, ↓ao_8 ho, ↓ao_9 ho, ↓gpn_7 p0, ↓gpn_11 p0, ↓gk_0 p5.1, ↓gk_1 p5.1, ↓gv_3 hd, rc_Pen p0, cp, xw, ↓xj_in, xj_nat, Int.toNat_natCast, xj_lt_t, xj_lt_f, xj_le_t, xj_le_f, xj_eq_t, xj_eq_f, xj_lt, xj_le, xj_eq, xj_add, xj_sub, xj_mul, show ¬ xj 1 = xj 0 from by decide]
      rw [b111_46, rc_8 h, true_and]
      refine p_trial (by omega) h w4 (fun f1 e1 d1 => ?_)
      have h1 := pen_8 h e1 d1 w4
      have q0 := h1.1
      have pf : ∀ G, xk_PF f1 (a + 83) 0 0 (.int (xj (S.2.1.1 + 3))) G ↔ G (xs_Day f1 (a + 83) (minD S.2.1 3)) := fun G => by
        have e := pd_0 (f := f1) (a := a + 83) (d := S.2.1) (z := S.2.1.1 + 3) (G := G)
        rw [xs_Day_id d1] at e
        exact e
      simp (disch := omega) only [b111_49, b111_50, b111_53, b111_54, b111_57, b111_58, b111_59, List.getElem?_cons_zero, List.getElem?_cons_succ, List.length_cons, List.length_nil, List.set_cons_zero, List.set_cons_succ, true_and, and_true, Option.toList_some, Option.toList_none, List.cons_append, List.nil_append, ↓reduceIte, not_false_eq_true, not_true_eq_false, Nat.reduceAdd, xj0_01, xj1_01, xb_B, xb_True, xb_False, ↓gpn_11 q0, ↓gv_0 d1, ↓pf, ↓xj_in, xj_nat, Int.toNat_natCast, xj_lt_t, xj_lt_f, xj_le_t, xj_le_f, xj_eq_t, xj_eq_f, xj_lt, xj_le, xj_eq, xj_add, xj_sub, xj_mul, show ¬ xj 1 = xj 0 from by decide]
      have e2 : ∀ x, (x < a + 83 ∨ a + 85 ≤ x) → xs_Day f1 (a + 83) (minD S.2.1 3) x = f1 x := fun x hx => xs_Day_ne (by omega) (by omega)
      have d2 := xs_Day_v f1 (a + 83) (minD S.2.1 3)
      generalize xs_Day f1 (a + 83) (minD S.2.1 3) = f2 at *
      have h2 := pen_8 h1 e2 d2 w4
      have r0 := h2.1
      have r5 : xv_Dk f2 (a + 22) S := h2.2.2.2.2.2.1
      have ho2 := r5.2.1
      have pf2 : ∀ G, xk_PF f2 (a + 83) 0 3 (.int (xj (of_nib S.1))) G ↔ G (xs_Day f2 (a + 83) (changeD S.1 S.2.1)) := fun G => by
        have e := pd_3 (f := f2) (a := a + 83) (d := minD S.2.1 3) (z := of_nib S.1) (G := G)
        rw [xs_Day_id d2] at e
        exact e
      simp (disch := omega) only [b111_62, b111_63, b111_66, b111_67, b111_70, b111_73, b111_76, List.getElem?_cons_zero, List.getElem?_cons_succ, List.length_cons, List.length_nil, List.set_cons_zero, List.set_cons_succ, true_and, and_true, Option.toList_some, Option.toList_none, List.cons_append, List.nil_append, ↓reduceIte, not_false_eq_true, not_true_eq_false, Nat.reduceAdd, xj0_01, xj1_01, xb_B, xb_True, xb_False, ↓go_0 ho2, ↓go_1 ho2, ↓go_2 ho2, ↓go_3 ho2, ↓go_4 ho2, ↓go_5 ho2, ↓go_6 ho2, ↓go_7 ho2, ↓go_8 ho2, ↓go_9 ho2, ↓go_10 ho2, ↓go_11 ho2, ↓go_12 ho2, ↓go_13 ho2, ↓go_14 ho2, ↓go_15 ho2, ↓ao_1 ho2, ↓ao_2 ho2, ↓ao_3 ho2, ↓ao_4 ho2, ↓ao_5 ho2, ↓ao_6 ho2, ↓ao_7 ho2, ↓ao_8 ho2, ↓ao_9 ho2, ↓gpn_7 r0, ↓gpn_11 r0, ↓gk_0 r5.1, ↓pf2, ↓xj_in, xj_nat, Int.toNat_natCast, xj_lt_t, xj_lt_f, xj_le_t, xj_le_f, xj_eq_t, xj_eq_f, xj_lt, xj_le, xj_eq, xj_add, xj_sub, xj_mul, show ¬ xj 1 = xj 0 from by decide]
      have e3 : ∀ x, (x < a + 83 ∨ a + 85 ≤ x) → xs_Day f2 (a + 83) (changeD S.1 S.2.1) x = f2 x := fun x hx => xs_Day_ne (by omega) (by omega)
      have d3 := xs_Day_v f2 (a + 83) (changeD S.1 S.2.1)
      generalize xs_Day f2 (a + 83) (changeD S.1 S.2.1) = f3 at *
      have h3 := pen_8 h2 e3 d3 w4
      simp (disch := omega) only [b111_79, List.getElem?_cons_zero, List.getElem?_cons_succ, List.length_cons, List.length_nil, List.set_cons_zero, List.set_cons_succ, true_and, and_true, Option.toList_some, Option.toList_none, List.cons_append, List.nil_append, ↓reduceIte, not_false_eq_true, not_true_eq_false, Nat.reduceAdd, xj0_01, xj1_01, xb_B, xb_True, xb_False]
      rw [b111_80, rc_Pen h3.1, true_and]
      refine p_act (by omega) h3 hH w4 d3 w4 (fun f4 e4 h4 => ?_)
      have po := hyes c3.1 c1 c3.2 f4 (fun x hx => by rw [e4 x hx, e3 x (by omega), e2 x (by omega), e1 x (by omega)]) h4
      simp (disch := omega) only [b111_83, b111_84, List.getElem?_cons_zero, List.getElem?_cons_succ, List.length_cons, List.length_nil, List.set_cons_zero, List.set_cons_succ, true_and, and_true, Option.toList_some, Option.toList_none, List.cons_append, List.nil_append, ↓reduceIte, not_false_eq_true, not_true_eq_false, Nat.reduceAdd, xj0_01, xj1_01, xb_B, xb_True, xb_False]
      exact po
    · have xw : ∀ i, @xb (of_told S.1 = 1 ∧ S.2.1.1 + 3 ≤ 9999) i = xj 0 := fun i => xb_F c3
      have po := hno (fun q => c3 ⟨q.1, q.2.2⟩)
      simp (disch := omega) only [b111_0, b111_1, b111_4, b111_7, b111_10, b111_11, b111_12, b111_13, b111_16, b111_19, b111_22, b111_25, b111_26, b111_27, b111_30, b111_33, b111_34, List.getElem?_cons_zero, List.getElem?_cons_succ, List.length_cons, List.length_nil, List.set_cons_zero, List.set_cons_succ, true_and, and_true, Option.toList_some, Option.toList_none, List.cons_append, List.nil_append, ↓reduceIte, not_false_eq_true, not_true_eq_false, Nat.reduceAdd, xj0_01, xj1_01, xb_B, xb_True, xb_False, ↓go_0 ho, ↓go_1 ho, ↓go_2 ho, ↓go_3 ho, ↓go_4 ho, ↓go_5 ho, ↓go_6 ho, ↓go_7 ho, ↓go_8 ho, ↓go_9 ho, ↓go_10 ho, ↓go_11 ho, ↓go_12 ho, ↓go_13 ho, ↓go_14 ho, ↓go_15 ho, ↓ao_1 ho, ↓ao_2 ho, ↓ao_3 ho, ↓ao_4 ho, ↓ao_5 ho, ↓ao_6 ho, ↓ao_7 ho, ↓ao_8 ho, ↓ao_9 ho, ↓gpn_7 p0, ↓gk_0 p5.1, ↓gk_1 p5.1, ↓gv_3 hd, rc_Pen p0, cp, xw, ↓xj_in, xj_nat, Int.toNat_natCast, xj_lt_t, xj_lt_f, xj_le_t, xj_le_f, xj_eq_t, xj_eq_f, xj_lt, xj_le, xj_eq, xj_add, xj_sub, xj_mul, show ¬ xj 1 = xj 0 from by decide]
      exact po
  · have po := hno (fun q => c1 q.2.1)
    simp (disch := omega) only [b111_0, b111_1, b111_4, b111_7, b111_10, b111_11, b111_12, b111_13, b111_16, b111_19, b111_22, b111_25, b111_26, b111_27, b111_30, b111_33, b111_34, List.getElem?_cons_zero, List.getElem?_cons_succ, List.length_cons, List.length_nil, List.set_cons_zero, List.set_cons_succ, true_and, and_true, Option.toList_some, Option.toList_none, List.cons_append, List.nil_append, ↓reduceIte, not_false_eq_true, not_true_eq_false, Nat.reduceAdd, xj0_01, xj1_01, xb_B, xb_True, xb_False, ↓go_0 ho, ↓go_1 ho, ↓go_2 ho, ↓go_3 ho, ↓go_4 ho, ↓go_5 ho, ↓go_6 ho, ↓go_7 ho, ↓go_8 ho, ↓go_9 ho, ↓go_10 ho, ↓go_11 ho, ↓go_12 ho, ↓go_13 ho, ↓go_14 ho, ↓go_15 ho, ↓ao_1 ho, ↓ao_2 ho, ↓ao_3 ho, ↓ao_4 ho, ↓ao_5 ho, ↓ao_6 ho, ↓ao_7 ho, ↓ao_8 ho, ↓ao_9 ho, ↓gpn_7 p0, ↓gk_0 p5.1, ↓gk_1 p5.1, ↓gv_3 hd, ↓xj_in, xj_nat, Int.toNat_natCast, xj_lt_t, xj_lt_f, xj_le_t, xj_le_f, xj_eq_t, xj_eq_f, xj_lt, xj_le, xj_eq, xj_add, xj_sub, xj_mul, show ¬ xj 1 = xj 0 from by decide]
    exact po
def popHi (H : Hi) : Hi := (popH H, H.2.1 - 1, H.2.2)
theorem p_undo (hD : 5 ≤ D) (h : xv_Pen f a n nr T ru S H im I) (hH : xw_Hi H) (hz : xz_Day S.2.1) (hno : H.2.1 = 0 → K (some (.int (xj (-1)))) (f, w)) (hyes : 0 < H.2.1 → ∀ f', (∀ x, (x < a ∨ a + 204 ≤ x) → f' x = f x) → xv_Pen f' a n nr T ru (dkD S (H.2.2 (popH H))) (popHi H) im I → K (some (.int (xj (H.2.1 - 1 : Nat)))) (f', w)) : xk_Cl D 112 [.ref a] (f, w) K := by
  rw [e112 (by omega)]
  obtain ⟨p0, p1, p2, p3, p4, p5, p6, p7, p8, p9, p10, p11⟩ := h
  have p5 : xv_Dk f (a + 22) S := p5
  have p7 : xv_Hi f (a + 41) H := p7
  by_cases c : H.2.1 = 0
  · have po := hno c
    have pn := fun K' => s_pop_no (D := D - 1) (w := w) (K := K') (b := a + 22 + 11) (by omega) p7 hH c
    simp (disch := omega) only [b112_0, b112_1, b112_4, b112_5, b112_8, b112_11, b112_14, b112_17, b112_18, b112_21, b112_24, b112_27, b112_28, List.getElem?_cons_zero, List.getElem?_cons_succ, List.length_cons, List.length_nil, List.set_cons_zero, List.set_cons_succ, true_and, and_true, Option.toList_some, Option.toList_none, List.cons_append, List.nil_append, ↓reduceIte, not_false_eq_true, not_true_eq_false, Nat.reduceAdd, xj0_01, xj1_01, xb_B, xb_True, xb_False, ↓gpn_7 p0, ↓gpn_10 p0, ↓gk_1 p5.1, rc_R p7.1, pn, ↓xj_in, xj_nat, Int.toNat_natCast, xj_lt_t, xj_lt_f, xj_le_t, xj_le_f, xj_eq_t, xj_eq_f, xj_lt, xj_le, xj_eq, xj_add, xj_sub, xj_mul, show ¬ xj 1 = xj 0 from by decide]
    exact po
  · simp (disch := omega) only [b112_0, b112_1, b112_4, b112_5, b112_8, List.getElem?_cons_zero, List.getElem?_cons_succ, List.length_cons, List.length_nil, List.set_cons_zero, List.set_cons_succ, true_and, and_true, Option.toList_some, Option.toList_none, List.cons_append, List.nil_append, ↓reduceIte, not_false_eq_true, not_true_eq_false, Nat.reduceAdd, xj0_01, xj1_01, xb_B, xb_True, xb_False, ↓gpn_7 p0, ↓gpn_10 p0, ↓gk_1 p5.1]
    rw [b112_11, rc_R p7.1, true_and]
    refine u_pop (by omega) p7 hH (by omega) p5.2.2.1 hz (by omega) (fun f1 e1 o1 d1 => ?_)
    have v5 : xv_Dk f1 (a + 22) (dkD S (H.2.2 (popH H))) := ⟨(e1 _ (by omega) (by omega)).trans p5.1, xv_Off_fr p5.2.1 (fun x h1 h2 => e1 x (by omega) (by omega)), d1, xv_Lg_fr p5.2.2.2 (fun x h1 h2 => e1 x (by omega) (by omega))⟩
    have v7 : xv_Hi f1 (a + 41) (popHi H) := ⟨o1, (e1 _ (by omega) (by omega)).trans p7.2.1, fun k hk => xv_Day_fr (p7.2.2 k hk) (fun x h1 h2 => e1 x (by omega) (by omega))⟩
    have e3 : ∀ x, (x < a + 22 ∨ (a + 39 ≤ x ∧ x < a + 41) ∨ a + 83 ≤ x) → f1 x = f x := fun x hx => e1 x (by omega) (by omega)
    have h1 : xv_Pen f1 a n nr T ru (dkD S (H.2.2 (popH H))) (popHi H) im I := ⟨P0_fr p0 (fun x q => e3 x (by omega)), P1_fr p1 (fun x q => e3 x (by omega)), P2_fr p2 (fun x q => e3 x (by omega)), P3_fr p3 (fun x q => e3 x (by omega)), P4_fr p4 (fun x q => e3 x (by omega)), v5, P6_fr p6 (fun x q => e3 x (by omega)), v7, P8_fr p8 (fun x q => e3 x (by omega)), P9_fr p9 (fun x q => e3 x (by omega)), P10_fr p10 (fun x q => e3 x (by omega)), P11_fr p11 (fun x q => e3 x (by omega))⟩
    have po := hyes (by omega) f1 (fun x hx => e3 x (by omega)) h1
    have q0 := h1.1
    have gh2 : ∀ V, xk_GF f1 (a + 41) 2 2 V ↔ V (.int (xj (H.2.1 - 1 : Nat))) := fun V => gf_R o1 rfl
    simp (disch := omega) only [b112_14, b112_17, b112_18, b112_21, b112_24, b112_27, b112_28, List.getElem?_cons_zero, List.getElem?_cons_succ, List.length_cons, List.length_nil, List.set_cons_zero, List.set_cons_succ, true_and, and_true, Option.toList_some, Option.toList_none, List.cons_append, List.nil_append, ↓reduceIte, not_false_eq_true, not_true_eq_false, Nat.reduceAdd, xj0_01, xj1_01, xb_B, xb_True, xb_False, ↓gpn_10 q0, ↓gh2, ↓xj_in, xj_nat, Int.toNat_natCast, xj_lt_t, xj_lt_f, xj_le_t, xj_le_f, xj_eq_t, xj_eq_f, xj_lt, xj_le, xj_eq, xj_add, xj_sub, xj_mul, show ¬ xj 1 = xj 0 from by decide]
    exact po
end XS9b03
