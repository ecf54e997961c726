/-! the class reads an office: clerks, hours away, papers, what rests -/
theorem oc_nc (a : Int × Int × Int × Int) (x y z : Nat) (r : (Nat → Int) × (Nat → Int) × (Nat → Int) × (Nat → Int) × (Nat → Int) × (Nat → Int) × (Nat → Int) × (Nat → Int) × (Nat → Nat)) : of_nc (a, (x, y, z), r) = x := rfl
theorem oc_na (a : Int × Int × Int × Int) (x y z : Nat) (r : (Nat → Int) × (Nat → Int) × (Nat → Int) × (Nat → Int) × (Nat → Int) × (Nat → Int) × (Nat → Int) × (Nat → Int) × (Nat → Nat)) : of_na (a, (x, y, z), r) = y := rfl
theorem oc_np (a : Int × Int × Int × Int) (x y z : Nat) (r : (Nat → Int) × (Nat → Int) × (Nat → Int) × (Nat → Int) × (Nat → Int) × (Nat → Int) × (Nat → Int) × (Nat → Int) × (Nat → Nat)) : of_np (a, (x, y, z), r) = z := rfl
section XS9a06
variable {D a b o k p q n r t c v fa s : Nat} {f : Nat → xk_C} {w : Nat × Nat × Nat} {K : Option Value → xk_S → Prop} {x y z lo hi : Int} {T : Nat → Int} {O : Of} {A : Nat → Int}
theorem c_clerk (hD : 3 ≤ D) (hot : t + 4 ≤ o ∨ o + 10 ≤ t) (h : xT f t T n (nxT T n p) 0) (ho : xv_Off f o O) (hz : xz_Off O) (hdr : drR A O) (hA : A 3 ≠ 4) (hc : of_nc O ≤ 4) (hpost : ∀ f' p' fa' O', frO2 o t f f' → xT f' t T n p' fa' → xv_Off f' o O' → xz_Off O' → oR (gClkL T n p A) p' fa' O' → K none (f', w)) : xk_Cl D 33 [.ref o, .ref t] (f, w) K := by
  rw [e33 (by omega)]
  have hg : gClkL T n p A = bdQ (gCell T n (32 + (A 3).toNat) 0 20 (nxT T n p) A) (fun p1 A1 => .inr (p1, upI A1 3 (A1 3 + 1))) := by unfold gClkL; rw [if_neg hA]
  rw [hg] at hpost
  obtain ⟨r1, r2, r3, r4, r5, r6, r7, r8⟩ := hdr
  simp (disch := omega) only [b33_0, b33_1, b33_2, b33_4, List.getElem?_cons_zero, List.getElem?_cons_succ, List.length_cons, List.length_nil, List.set_cons_zero, List.set_cons_succ, true_and, and_true, Option.toList_some, Option.toList_none, List.cons_append, List.nil_append, ↓reduceIte, not_false_eq_true, not_true_eq_false, Nat.reduceAdd, xj0_01, xj1_01, xb_B, xb_True, xb_False]
  rw [b33_5, rc_T h, true_and]
  refine c_num (by omega) h (by omega) (by omega) (by omega) (by omega) (fun _ => by omega) (fun f1 v1 p1 fa1 e1 h1 k1 => ?_)
  have ho1 : xv_Off f1 o O := xv_Off_fr ho (fun x q1 q2 => e1 x (by omega))
  have hfa1 := (xT_at h1).2.2
  rcases k1.2.1 rfl with ⟨a1, b1⟩ | ⟨a1, b1⟩
  · have hq : ∀ O', xv_Off (xs f1 o (xl_Off o O')) o O' := fun _ => xv_Off_xs
    have po := hpost (xs f1 o (xl_Off o (O.1, (of_nc O + 1, of_na O, of_np O), upI (of_seat O) (of_nc O) v1, O.2.2.2))) p1 fa1 (O.1, (of_nc O + 1, of_na O, of_np O), upI (of_seat O) (of_nc O) v1, O.2.2.2) (frO2_t (frO2_x e1) frO2_o) (xT_fr h1 (fun x q1 q2 => xs_ne (by show x < o ∨ o + 10 ≤ x; omega))) xv_Off_xs ⟨fun i hi => by
        show upI (of_seat O) (of_nc O) v1 i = 0
        rw [up_n (by omega)]; exact hz.1 i hi, hz.2⟩ (by
      refine Or.inl ⟨a1, _, by unfold gCell; rw [b1, bdN_r, bdQ_r], ?_⟩
      have hA3 : (A 3).toNat = of_nc O := by omega
      rw [hA3]
      refine ⟨r1, fun h0 => ?_, ?_, ?_, ?_, fun i hi => ?_, fun i hi => ?_, fun i hi => ?_⟩
      · rw [up_n (by decide), up_n (by omega)] at h0
        rw [up_n (by decide), up_n (by omega), up_n (by decide), up_n (by omega), up_n (by decide), up_n (by omega)]
        exact r2 h0
      · rw [up_e, up_n (by omega), r3]; rfl
      · rw [up_n (by decide), up_n (by omega)]; exact r4
      · rw [up_n (by decide), up_n (by omega)]; exact r5
      · rw [up_n (by omega)]
        show upI (of_seat O) (of_nc O) v1 i = _
        have hi : i < of_nc O + 1 := hi
        by_cases ci : i = of_nc O
        · subst ci; rw [up_e, up_e]
        · rw [up_n ci, up_n (by omega)]; exact r6 i (by omega)
      · rw [up_n (by omega), up_n (by omega), up_n (by omega), up_n (by omega), up_n (by omega), up_n (by omega)]; exact r7 i hi
      · rw [up_n (by omega), up_n (by omega), up_n (by omega), up_n (by omega), up_n (by omega), up_n (by omega), up_n (by omega), up_n (by omega), up_n (by omega), up_n (by omega)]; exact r8 i hi)
    subst a1
    have en : ((of_nc O : Nat) : Int) + 1 = ((of_nc O + 1 : Nat) : Int) := by omega
    have hlt : ((of_nc O : Nat) : Int) < 4 := by omega
    simp (disch := omega) only [b33_8, b33_9, b33_10, b33_13, List.getElem?_cons_zero, List.getElem?_cons_succ, List.length_cons, List.length_nil, List.set_cons_zero, List.set_cons_succ, true_and, and_true, Option.toList_some, Option.toList_none, List.cons_append, List.nil_append, ↓reduceIte, not_false_eq_true, not_true_eq_false, Nat.reduceAdd, xj0_01, xj1_01, xb_B, xb_True, xb_False, ↓xT_fa h1, ↓xj_in, xj_nat, Int.toNat_natCast, xj_lt_t, xj_lt_f, xj_le_t, xj_le_f, xj_eq_t, xj_eq_f, xj_lt, xj_le, xj_eq, xj_add, xj_sub, xj_mul, show ¬ xj 1 = xj 0 from by decide]
    rw [← xv_Off_xv ho1]
    have hnc : of_nc O = O.2.1.1 := rfl
    have en2 : ((O.2.1.1 : Nat) : Int) + 1 = ((O.2.1.1 + 1 : Nat) : Int) := by omega
    simp (disch := omega) only [b33_16, b33_17, b33_20, b33_21, b33_24, b33_25, b33_28, b33_29, b33_32, b33_33, b33_36, b33_37, b33_38, b33_39, b33_40, b33_43, b33_44, b33_45, b33_48, List.getElem?_cons_zero, List.getElem?_cons_succ, List.length_cons, List.length_nil, List.set_cons_zero, List.set_cons_succ, true_and, and_true, Option.toList_some, Option.toList_none, List.cons_append, List.nil_append, ↓reduceIte, not_false_eq_true, not_true_eq_false, Nat.reduceAdd, xj0_01, xj1_01, xb_B, xb_True, xb_False, ↓go_0 (hq _), ↓go_1 (hq _), ↓go_2 (hq _), ↓go_3 (hq _), ↓go_4 (hq _), ↓go_5 (hq _), ↓go_6 (hq _), ↓go_7 (hq _), ↓go_8 (hq _), ↓go_9 (hq _), ↓go_10 (hq _), ↓go_11 (hq _), ↓go_12 (hq _), ↓go_13 (hq _), ↓go_14 (hq _), ↓go_15 (hq _), ↓ao_1 (hq _), ↓ao_2 (hq _), ↓ao_3 (hq _), ↓ao_4 (hq _), ↓ao_5 (hq _), ↓ao_6 (hq _), ↓ao_7 (hq _), ↓ao_8 (hq _), ↓ao_9 (hq _), ↓lO_1, ↓sO_1, ↓po_4, ↓xj_in, xj_nat, Int.toNat_natCast, xj_lt_t, xj_lt_f, xj_le_t, xj_le_f, xj_eq_t, xj_eq_f, xj_lt, xj_le, xj_eq, xj_add, xj_sub, xj_mul, show ¬ xj 1 = xj 0 from by decide, en, oc_nc, en2]
    exact po
  · have po := hpost f1 p1 fa1 O (frO2_x e1) h1 ho1 hz (Or.inr ⟨a1, by unfold gCell; rw [b1, bdN_l, bdQ_l]⟩)
    simp (disch := omega) only [b33_8, b33_9, b33_10, b33_13, b33_48, List.getElem?_cons_zero, List.getElem?_cons_succ, List.length_cons, List.length_nil, List.set_cons_zero, List.set_cons_succ, true_and, and_true, Option.toList_some, Option.toList_none, List.cons_append, List.nil_append, ↓reduceIte, not_false_eq_true, not_true_eq_false, Nat.reduceAdd, xj0_01, xj1_01, xb_B, xb_True, xb_False, ↓xT_fa h1, ↓xj_in, xj_nat, Int.toNat_natCast, xj_lt_t, xj_lt_f, xj_le_t, xj_le_f, xj_eq_t, xj_eq_f, xj_lt, xj_le, xj_eq, xj_add, xj_sub, xj_mul, show ¬ xj 1 = xj 0 from by decide]
    exact po
theorem c_away (hD : 3 ≤ D) (hot : t + 4 ≤ o ∨ o + 10 ≤ t) (h : xT f t T n (nxT T n p) 0) (ho : xv_Off f o O) (hz : xz_Off O) (hdr : drR A O) (hA : A 4 ≠ 6) (hc : of_nc O ≤ 4) (ha : of_na O ≤ 6) (hpost : ∀ f' p' fa' O', frO2 o t f f' → xT f' t T n p' fa' → xv_Off f' o O' → xz_Off O' → oR (gAwyL T n p A) p' fa' O' → K none (f', w)) : xk_Cl D 34 [.ref o, .ref t] (f, w) K := by
  rw [e34 (by omega)]
  obtain ⟨r1, r2, r3, r4, r5, r6, r7, r8⟩ := hdr
  have hA4 : (A 4).toNat = of_na O := by omega
  have hg : gAwyL T n p A = bdQ (gCell T n (36 + 3 * of_na O) 0 (A 3 - 1) (nxT T n p) A) (fun p1 A1 => bdQ (gCell T n (36 + 3 * of_na O + 1) 0 299 p1 A1) (fun p2 A2 => bdQ (gCell T n (36 + 3 * of_na O + 2) (A2 (36 + 3 * of_na O + 1)) 299 p2 A2) (fun p3 A3 => .inr (p3, upI A3 4 (A3 4 + 1))))) := by unfold gAwyL; rw [if_neg hA, hA4]
  rw [hg, r3] at hpost
  simp (disch := omega) only [b34_0, b34_1, b34_2, b34_3, b34_6, b34_7, b34_8, List.getElem?_cons_zero, List.getElem?_cons_succ, List.length_cons, List.length_nil, List.set_cons_zero, List.set_cons_succ, true_and, and_true, Option.toList_some, Option.toList_none, List.cons_append, List.nil_append, ↓reduceIte, not_false_eq_true, not_true_eq_false, Nat.reduceAdd, xj0_01, xj1_01, xb_B, xb_True, xb_False, ↓go_0 ho, ↓go_1 ho, ↓go_2 ho, ↓go_3 ho, ↓go_4 ho, ↓go_5 ho, ↓go_6 ho, ↓go_7 ho, ↓go_8 ho, ↓go_9 ho, ↓go_10 ho, ↓go_11 ho, ↓go_12 ho, ↓go_13 ho, ↓go_14 ho, ↓go_15 ho, ↓ao_1 ho, ↓ao_2 ho, ↓ao_3 ho, ↓ao_4 ho, ↓ao_5 ho, ↓ao_6 ho, ↓ao_7 ho, ↓ao_8 ho, ↓ao_9 ho, ↓xj_in, xj_nat, Int.toNat_natCast, xj_lt_t, xj_lt_f, xj_le_t, xj_le_f, xj_eq_t, xj_eq_f, xj_lt, xj_le, xj_eq, xj_add, xj_sub, xj_mul, show ¬ xj 1 = xj 0 from by decide]
  rw [b34_9, rc_T h, true_and]
  refine c_num (by omega) h (by omega) (by omega) (by omega) (by omega) (fun _ => by omega) (fun f1 v1 p1 fa1 e1 h1 k1 => ?_)
  simp (disch := omega) only [b34_12, b34_13, b34_14, b34_15, b34_18, List.getElem?_cons_zero, List.getElem?_cons_succ, List.length_cons, List.length_nil, List.set_cons_zero, List.set_cons_succ, true_and, and_true, Option.toList_some, Option.toList_none, List.cons_append, List.nil_append, ↓reduceIte, not_false_eq_true, not_true_eq_false, Nat.reduceAdd, xj0_01, xj1_01, xb_B, xb_True, xb_False]
  rw [b34_19, rc_T h1, true_and]
  refine c_num (by omega) h1 (by omega) (by omega) (by omega) (by omega) (fun _ => by omega) (fun f2 v2 p2 fa2 e2 h2 k2 => ?_)
  have r2v := k2.1
  have good2 : fa2 = 0 → 0 ≤ v2 := fun q => by
    have q1 : fa1 = 0 := by
      apply Classical.byContradiction
      intro c1
      have := k2.2.2 c1
      omega
    rcases k2.2.1 q1 with ⟨_, b2⟩ | ⟨a2, _⟩
    · exact (gNum_rm (xT_at h1).2.1.1 b2).2.2.2.1
    · exact absurd q a2
  simp (disch := omega) only [b34_22, b34_23, b34_24, b34_25, b34_28, List.getElem?_cons_zero, List.getElem?_cons_succ, List.length_cons, List.length_nil, List.set_cons_zero, List.set_cons_succ, true_and, and_true, Option.toList_some, Option.toList_none, List.cons_append, List.nil_append, ↓reduceIte, not_false_eq_true, not_true_eq_false, Nat.reduceAdd, xj0_01, xj1_01, xb_B, xb_True, xb_False]
  rw [b34_29, rc_T h2, true_and]
  refine c_num (by omega) h2 (by omega) (by omega) (by omega) (by omega) good2 (fun f3 v3 p3 fa3 e3 h3 k3 => ?_)
  have e123 : ∀ x, x ≠ t → f3 x = f x := fun x hx => by rw [e3 x hx, e2 x hx, e1 x hx]
  have ho3 : xv_Off f3 o O := xv_Off_fr ho (fun x q1 q2 => e123 x (by omega))
  have hfa3 := (xT_at h3).2.2
  by_cases c0 : fa3 = 0
  · have q2 : fa2 = 0 := by
      apply Classical.byContradiction
      intro c1
      have := k3.2.2 c1
      omega
    have q1 : fa1 = 0 := by
      apply Classical.byContradiction
      intro c1
      have := k2.2.2 c1
      omega
    rcases k1.2.1 rfl with ⟨_, b1⟩ | ⟨a1, _⟩
    rcases k2.2.1 q1 with ⟨_, b2⟩ | ⟨a2, _⟩
    rcases k3.2.1 q2 with ⟨_, b3⟩ | ⟨a3, _⟩
    · have hq : ∀ O', xv_Off (xs f3 o (xl_Off o O')) o O' := fun _ => xv_Off_xs
      have po := hpost (xs f3 o (xl_Off o (O.1, (of_nc O, of_na O + 1, of_np O), of_seat O, upI (of_aw O) (of_na O) v1, upI (of_af O) (of_na O) v2, upI (of_al O) (of_na O) v3, O.2.2.2.2.2.2))) p3 fa3 (O.1, (of_nc O, of_na O + 1, of_np O), of_seat O, upI (of_aw O) (of_na O) v1, upI (of_af O) (of_na O) v2, upI (of_al O) (of_na O) v3, O.2.2.2.2.2.2) (frO2_t (frO2_x e123) frO2_o) (xT_fr h3 (fun x q1 q2 => xs_ne (by show x < o ∨ o + 10 ≤ x; omega))) xv_Off_xs ⟨hz.1, fun i hi => by
          have := hz.2 i hi
          refine ⟨?_, ?_, ?_, this.2.2.2⟩
          · show upI (of_aw O) (of_na O) v1 i = 0
            rw [up_n (by omega)]; exact this.1
          · show upI (of_af O) (of_na O) v2 i = 0
            rw [up_n (by omega)]; exact this.2.1
          · show upI (of_al O) (of_na O) v3 i = 0
            rw [up_n (by omega)]; exact this.2.2.1⟩ (by
        refine Or.inl ⟨c0, upI (upI (upI (upI A (36 + 3 * of_na O) v1) (36 + 3 * of_na O + 1) v2) (36 + 3 * of_na O + 2) v3) 4 (A 4 + 1), ?_, ?_⟩
        · unfold gCell
          rw [b1, bdN_r, bdQ_r, b2, bdN_r, bdQ_r, up_e, b3, bdN_r, bdQ_r, up_n (show (4 : Nat) ≠ 36 + 3 * of_na O + 2 by omega), up_n (show (4 : Nat) ≠ 36 + 3 * of_na O + 1 by omega), up_n (show (4 : Nat) ≠ 36 + 3 * of_na O by omega)]
        · have no : ∀ j : Nat, j ≠ 4 → (j < 36 + 3 * of_na O ∨ 36 + 3 * of_na O + 2 < j) → upI (upI (upI (upI A (36 + 3 * of_na O) v1) (36 + 3 * of_na O + 1) v2) (36 + 3 * of_na O + 2) v3) 4 (A 4 + 1) j = A j := fun j h1 h2 => by rw [up_n h1, up_n (by omega), up_n (by omega), up_n (by omega)]
          refine ⟨r1, fun h0 => ?_, ?_, ?_, ?_, fun i hi => ?_, fun i hi => ?_, fun i hi => ?_⟩
          · rw [no 0 (by decide) (by omega)] at h0
            rw [no 0 (by decide) (by omega), no 1 (by decide) (by omega), no 2 (by decide) (by omega)]
            exact r2 h0
          · rw [no 3 (by decide) (by omega)]; exact r3
          · rw [up_e, r4]; rfl
          · rw [no 5 (by decide) (by omega)]; exact r5
          · have hi : i < of_nc O := hi
            rw [no _ (by omega) (by omega)]; exact r6 i hi
          · have hi : i < of_na O + 1 := hi
            show upI (of_aw O) (of_na O) v1 i = _ ∧ upI (of_af O) (of_na O) v2 i = _ ∧ upI (of_al O) (of_na O) v3 i = _
            by_cases ci : i = of_na O
            · subst ci
              refine ⟨?_, ?_, ?_⟩
              · rw [up_e, up_n (by omega), up_n (by omega), up_n (by omega), up_e]
              · rw [up_e, up_n (by omega), up_n (by omega), up_e]
              · rw [up_e, up_n (by omega), up_e]
            · rw [up_n ci, up_n ci, up_n ci, no _ (by omega) (by omega), no _ (by omega) (by omega), no _ (by omega) (by omega)]; exact r7 i (by omega)
          · rw [no _ (by omega) (by omega), no _ (by omega) (by omega), no _ (by omega) (by omega), no _ (by omega) (by omega), no _ (by omega) (by omega)]; exact r8 i hi)
      have en : ((of_na O : Nat) : Int) + 1 = ((of_na O + 1 : Nat) : Int) := by omega
      have hlt : ((of_na O : Nat) : Int) < 6 := by omega
      simp (disch := omega) only [b34_32, b34_34, b34_35, b34_38, List.getElem?_cons_zero, List.getElem?_cons_succ, List.length_cons, List.length_nil, List.set_cons_zero, List.set_cons_succ, true_and, and_true, Option.toList_some, Option.toList_none, List.cons_append, List.nil_append, ↓reduceIte, not_false_eq_true, not_true_eq_false, Nat.reduceAdd, xj0_01, xj1_01, xb_B, xb_True, xb_False, ↓xT_fa h3, ↓xj_in, xj_nat, Int.toNat_natCast, xj_lt_t, xj_lt_f, xj_le_t, xj_le_f, xj_eq_t, xj_eq_f, xj_lt, xj_le, xj_eq, xj_add, xj_sub, xj_mul, show ¬ xj 1 = xj 0 from by decide]
      rw [← xv_Off_xv ho3]
      have hnc : of_na O = O.2.1.2.1 := rfl
      have en2 : ((O.2.1.2.1 : Nat) : Int) + 1 = ((O.2.1.2.1 + 1 : Nat) : Int) := by omega
      simp (disch := omega) only [b34_41, b34_42, b34_45, b34_46, b34_49, b34_50, b34_53, b34_54, b34_57, b34_58, b34_61, b34_62, b34_63, b34_64, b34_67, b34_68, b34_71, b34_72, b34_73, b34_74, b34_77, b34_78, b34_81, b34_83, b34_84, b34_85, b34_86, b34_89, b34_90, b34_91, b34_94, List.getElem?_cons_zero, List.getElem?_cons_succ, List.length_cons, List.length_nil, List.set_cons_zero, List.set_cons_succ, true_and, and_true, Option.toList_some, Option.toList_none, List.cons_append, List.nil_append, ↓reduceIte, not_false_eq_true, not_true_eq_false, Nat.reduceAdd, xj0_01, xj1_01, xb_B, xb_True, xb_False, ↓go_0 (hq _), ↓go_1 (hq _), ↓go_2 (hq _), ↓go_3 (hq _), ↓go_4 (hq _), ↓go_5 (hq _), ↓go_6 (hq _), ↓go_7 (hq _), ↓go_8 (hq _), ↓go_9 (hq _), ↓go_10 (hq _), ↓go_11 (hq _), ↓go_12 (hq _), ↓go_13 (hq _), ↓go_14 (hq _), ↓go_15 (hq _), ↓ao_1 (hq _), ↓ao_2 (hq _), ↓ao_3 (hq _), ↓ao_4 (hq _), ↓ao_5 (hq _), ↓ao_6 (hq _), ↓ao_7 (hq _), ↓ao_8 (hq _), ↓ao_9 (hq _), ↓lO_2, ↓sO_2, ↓sO_3, ↓sO_4, ↓po_5, ↓xj_in, xj_nat, Int.toNat_natCast, xj_lt_t, xj_lt_f, xj_le_t, xj_le_f, xj_eq_t, xj_eq_f, xj_lt, xj_le, xj_eq, xj_add, xj_sub, xj_mul, show ¬ xj 1 = xj 0 from by decide, en, oc_na, en2]
      exact po
    · exact absurd c0 a3
    · exact absurd q2 a2
    · exact absurd q1 a1
  · have po := hpost f3 p3 fa3 O (frO2_x e123) h3 ho3 hz (by
      refine Or.inr ⟨c0, ?_⟩
      unfold gCell
      rcases k1.2.1 rfl with ⟨a1, b1⟩ | ⟨a1, b1⟩
      · rw [b1, bdN_r, bdQ_r]
        rcases k2.2.1 a1 with ⟨a2, b2⟩ | ⟨a2, b2⟩
        · rw [b2, bdN_r, bdQ_r, up_e]
          rcases k3.2.1 a2 with ⟨a3, b3⟩ | ⟨a3, b3⟩
          · exact absurd a3 c0
          · rw [b3, bdN_l, bdQ_l]
        · rw [b2, bdN_l, bdQ_l, k3.2.2 a2]
      · have a2 := k2.2.2 a1
        rw [b1, bdN_l, bdQ_l, k3.2.2 (by rw [a2]; exact a1), a2])
    simp (disch := omega) only [b34_32, b34_34, b34_35, b34_38, b34_94, List.getElem?_cons_zero, List.getElem?_cons_succ, List.length_cons, List.length_nil, List.set_cons_zero, List.set_cons_succ, true_and, and_true, Option.toList_some, Option.toList_none, List.cons_append, List.nil_append, ↓reduceIte, not_false_eq_true, not_true_eq_false, Nat.reduceAdd, xj0_01, xj1_01, xb_B, xb_True, xb_False, ↓xT_fa h3, ↓xj_in, xj_nat, Int.toNat_natCast, xj_lt_t, xj_lt_f, xj_le_t, xj_le_f, xj_eq_t, xj_eq_f, xj_lt, xj_le, xj_eq, xj_add, xj_sub, xj_mul, show ¬ xj 1 = xj 0 from by decide]
    exact po
theorem c_paper (hD : 3 ≤ D) (hot : t + 4 ≤ o ∨ o + 10 ≤ t) (h : xT f t T n (nxT T n p) 0) (ho : xv_Off f o O) (hz : xz_Off O) (hdr : drR A O) (hA : A 5 ≠ 6) (hc : of_nc O ≤ 4) (ha : of_np O ≤ 6) (hna : of_na O ≤ 6) (hpost : ∀ f' p' fa' O', frO2 o t f f' → xT f' t T n p' fa' → xv_Off f' o O' → xz_Off O' → oR (gPapL T n p A) p' fa' O' → K none (f', w)) : xk_Cl D 35 [.ref o, .ref t] (f, w) K := by
  rw [e35 (by omega)]
  obtain ⟨r1, r2, r3, r4, r5, r6, r7, r8⟩ := hdr
  have hA5 : (A 5).toNat = of_np O := by omega
  have hg : gPapL T n p A = bdQ (gCell T n (54 + 5 * of_np O) 0 (A 3 - 1) (nxT T n p) A) (fun p1 A1 => bdQ (gCell T n (54 + 5 * of_np O + 1) 1 20 p1 A1) (fun p2 A2 => bdQ (gCell T n (54 + 5 * of_np O + 2) 0 299 p2 A2) (fun p3 A3 => bdQ (gCell T n (54 + 5 * of_np O + 3) 1 30 p3 A3) (fun p4 A4 => .inr (p4, upI (upI A4 (54 + 5 * of_np O + 4) 0) 5 (A4 5 + 1)))))) := by unfold gPapL; rw [if_neg hA, hA5]
  rw [hg, r3] at hpost
  simp (disch := omega) only [b35_0, b35_1, b35_2, b35_3, b35_6, b35_7, b35_8, List.getElem?_cons_zero, List.getElem?_cons_succ, List.length_cons, List.length_nil, List.set_cons_zero, List.set_cons_succ, true_and, and_true, Option.toList_some, Option.toList_none, List.cons_append, List.nil_append, ↓reduceIte, not_false_eq_true, not_true_eq_false, Nat.reduceAdd, xj0_01, xj1_01, xb_B, xb_True, xb_False, ↓go_0 ho, ↓go_1 ho, ↓go_2 ho, ↓go_3 ho, ↓go_4 ho, ↓go_5 ho, ↓go_6 ho, ↓go_7 ho, ↓go_8 ho, ↓go_9 ho, ↓go_10 ho, ↓go_11 ho, ↓go_12 ho, ↓go_13 ho, ↓go_14 ho, ↓go_15 ho, ↓ao_1 ho, ↓ao_2 ho, ↓ao_3 ho, ↓ao_4 ho, ↓ao_5 ho, ↓ao_6 ho, ↓ao_7 ho, ↓ao_8 ho, ↓ao_9 ho, ↓xj_in, xj_nat, Int.toNat_natCast, xj_lt_t, xj_lt_f, xj_le_t, xj_le_f, xj_eq_t, xj_eq_f, xj_lt, xj_le, xj_eq, xj_add, xj_sub, xj_mul, show ¬ xj 1 = xj 0 from by decide]
  rw [b35_9, rc_T h, true_and]
  refine c_num (by omega) h (by omega) (by omega) (by omega) (by omega) (fun _ => by omega) (fun f1 v1 p1 fa1 e1 h1 k1 => ?_)
  simp (disch := omega) only [b35_12, b35_13, b35_14, b35_15, b35_17, List.getElem?_cons_zero, List.getElem?_cons_succ, List.length_cons, List.length_nil, List.set_cons_zero, List.set_cons_succ, true_and, and_true, Option.toList_some, Option.toList_none, List.cons_append, List.nil_append, ↓reduceIte, not_false_eq_true, not_true_eq_false, Nat.reduceAdd, xj0_01, xj1_01, xb_B, xb_True, xb_False]
  rw [b35_18, rc_T h1, true_and]
  refine c_num (by omega) h1 (by omega) (by omega) (by omega) (by omega) (fun _ => by omega) (fun f2 v2 p2 fa2 e2 h2 k2 => ?_)
  simp (disch := omega) only [b35_21, b35_22, b35_23, b35_24, b35_27, List.getElem?_cons_zero, List.getElem?_cons_succ, List.length_cons, List.length_nil, List.set_cons_zero, List.set_cons_succ, true_and, and_true, Option.toList_some, Option.toList_none, List.cons_append, List.nil_append, ↓reduceIte, not_false_eq_true, not_true_eq_false, Nat.reduceAdd, xj0_01, xj1_01, xb_B, xb_True, xb_False]
  rw [b35_28, rc_T h2, true_and]
  refine c_num (by omega) h2 (by omega) (by omega) (by omega) (by omega) (fun _ => by omega) (fun f3 v3 p3 fa3 e3 h3 k3 => ?_)
  simp (disch := omega) only [b35_31, b35_33, b35_34, b35_35, b35_37, List.getElem?_cons_zero, List.getElem?_cons_succ, List.length_cons, List.length_nil, List.set_cons_zero, List.set_cons_succ, true_and, and_true, Option.toList_some, Option.toList_none, List.cons_append, List.nil_append, ↓reduceIte, not_false_eq_true, not_true_eq_false, Nat.reduceAdd, xj0_01, xj1_01, xb_B, xb_True, xb_False]
  rw [b35_38, rc_T h3, true_and]
  refine c_num (by omega) h3 (by omega) (by omega) (by omega) (by omega) (fun _ => by omega) (fun f4 v4 p4 fa4 e4 h4 k4 => ?_)
  have e1234 : ∀ x, x ≠ t → f4 x = f x := fun x hx => by rw [e4 x hx, e3 x hx, e2 x hx, e1 x hx]
  have ho4 : xv_Off f4 o O := xv_Off_fr ho (fun x q1 q2 => e1234 x (by omega))
  have hfa4 := (xT_at h4).2.2
  by_cases c0 : fa4 = 0
  · have q3 : fa3 = 0 := by
      apply Classical.byContradiction
      intro c1
      have := k4.2.2 c1
      omega
    have q2 : fa2 = 0 := by
      apply Classical.byContradiction
      intro c1
      have := k3.2.2 c1
      omega
    have q1 : fa1 = 0 := by
      apply Classical.byContradiction
      intro c1
      have := k2.2.2 c1
      omega
    rcases k1.2.1 rfl with ⟨_, b1⟩ | ⟨a1, _⟩
    rcases k2.2.1 q1 with ⟨_, b2⟩ | ⟨a2, _⟩
    rcases k3.2.1 q2 with ⟨_, b3⟩ | ⟨a3, _⟩
    rcases k4.2.1 q3 with ⟨_, b4⟩ | ⟨a4, _⟩
    · have hq : ∀ O', xv_Off (xs f4 o (xl_Off o O')) o O' := fun _ => xv_Off_xs
      have po := hpost (xs f4 o (xl_Off o (O.1, (of_nc O, of_na O, of_np O + 1), of_seat O, of_aw O, of_af O, of_al O, upI (of_ow O) (of_np O) v1, upI (of_sk O) (of_np O) v2, upI (of_du O) (of_np O) v3, upI (of_wo O) (of_np O) v4, upN (of_re O) (of_np O) 0))) p4 fa4 (O.1, (of_nc O, of_na O, of_np O + 1), of_seat O, of_aw O, of_af O, of_al O, upI (of_ow O) (of_np O) v1, upI (of_sk O) (of_np O) v2, upI (of_du O) (of_np O) v3, upI (of_wo O) (of_np O) v4, upN (of_re O) (of_np O) 0) (frO2_t (frO2_x e1234) frO2_o) (xT_fr h4 (fun x q1 q2 => xs_ne (by show x < o ∨ o + 10 ≤ x; omega))) xv_Off_xs ⟨hz.1, fun i hi => by
          have := hz.2 i hi
          refine ⟨this.1, this.2.1, this.2.2.1, ?_, ?_, ?_, ?_, ?_⟩
          · show upI (of_ow O) (of_np O) v1 i = 0
            rw [up_n (by omega)]; exact this.2.2.2.1
          · show upI (of_sk O) (of_np O) v2 i = 0
            rw [up_n (by omega)]; exact this.2.2.2.2.1
          · show upI (of_du O) (of_np O) v3 i = 0
            rw [up_n (by omega)]; exact this.2.2.2.2.2.1
          · show upI (of_wo O) (of_np O) v4 i = 0
            rw [up_n (by omega)]; exact this.2.2.2.2.2.2.1
          · show (if i = of_np O then 0 else of_re O i) = 0
            rw [if_neg (by omega)]; exact this.2.2.2.2.2.2.2⟩ (by
        refine Or.inl ⟨c0, upI (upI (upI (upI (upI (upI A (54 + 5 * of_np O) v1) (54 + 5 * of_np O + 1) v2) (54 + 5 * of_np O + 2) v3) (54 + 5 * of_np O + 3) v4) (54 + 5 * of_np O + 4) 0) 5 (A 5 + 1), ?_, ?_⟩
        · unfold gCell
          rw [b1, bdN_r, bdQ_r, b2, bdN_r, bdQ_r, b3, bdN_r, bdQ_r, b4, bdN_r, bdQ_r, up_n (show (5 : Nat) ≠ 54 + 5 * of_np O + 3 by omega), up_n (show (5 : Nat) ≠ 54 + 5 * of_np O + 2 by omega), up_n (show (5 : Nat) ≠ 54 + 5 * of_np O + 1 by omega), up_n (show (5 : Nat) ≠ 54 + 5 * of_np O by omega)]
        · have no : ∀ j : Nat, j ≠ 5 → (j < 54 + 5 * of_np O ∨ 54 + 5 * of_np O + 4 < j) → upI (upI (upI (upI (upI (upI A (54 + 5 * of_np O) v1) (54 + 5 * of_np O + 1) v2) (54 + 5 * of_np O + 2) v3) (54 + 5 * of_np O + 3) v4) (54 + 5 * of_np O + 4) 0) 5 (A 5 + 1) j = A j := fun j h1 h2 => by rw [up_n h1, up_n (by omega), up_n (by omega), up_n (by omega), up_n (by omega), up_n (by omega)]
          refine ⟨r1, fun h0 => ?_, ?_, ?_, ?_, fun i hi => ?_, fun i hi => ?_, fun i hi => ?_⟩
          · rw [no 0 (by decide) (by omega)] at h0
            rw [no 0 (by decide) (by omega), no 1 (by decide) (by omega), no 2 (by decide) (by omega)]
            exact r2 h0
          · rw [no 3 (by decide) (by omega)]; exact r3
          · rw [no 4 (by decide) (by omega)]; exact r4
          · rw [up_e, r5]; rfl
          · have hi : i < of_nc O := hi
            rw [no _ (by omega) (by omega)]; exact r6 i hi
          · have hi : i < of_na O := hi
            rw [no _ (by omega) (by omega), no _ (by omega) (by omega), no _ (by omega) (by omega)]; exact r7 i hi
          · have hi : i < of_np O + 1 := hi
            show upI (of_ow O) (of_np O) v1 i = _ ∧ upI (of_sk O) (of_np O) v2 i = _ ∧ upI (of_du O) (of_np O) v3 i = _ ∧ upI (of_wo O) (of_np O) v4 i = _ ∧ (((if i = of_np O then 0 else of_re O i : Nat)) : Int) = _
            by_cases ci : i = of_np O
            · subst ci
              refine ⟨?_, ?_, ?_, ?_, ?_⟩
              · rw [up_e, up_n (by omega), up_n (by omega), up_n (by omega), up_n (by omega), up_n (by omega), up_e]
              · rw [up_e, up_n (by omega), up_n (by omega), up_n (by omega), up_n (by omega), up_e]
              · rw [up_e, up_n (by omega), up_n (by omega), up_n (by omega), up_e]
              · rw [up_e, up_n (by omega), up_n (by omega), up_e]
              · rw [if_pos rfl, show 58 + 5 * of_np O = 54 + 5 * of_np O + 4 by omega, up_n (by omega), up_e]; rfl
            · rw [up_n ci, up_n ci, up_n ci, up_n ci, if_neg ci, no _ (by omega) (by omega), no _ (by omega) (by omega), no _ (by omega) (by omega), no _ (by omega) (by omega), no _ (by omega) (by omega)]; exact r8 i (by omega))
      have en : ((of_np O : Nat) : Int) + 1 = ((of_np O + 1 : Nat) : Int) := by omega
      have hlt : ((of_np O : Nat) : Int) < 6 := by omega
      simp (disch := omega) only [b35_41, b35_43, b35_44, b35_47, List.getElem?_cons_zero, List.getElem?_cons_succ, List.length_cons, List.length_nil, List.set_cons_zero, List.set_cons_succ, true_and, and_true, Option.toList_some, Option.toList_none, List.cons_append, List.nil_append, ↓reduceIte, not_false_eq_true, not_true_eq_false, Nat.reduceAdd, xj0_01, xj1_01, xb_B, xb_True, xb_False, ↓xT_fa h4, ↓xj_in, xj_nat, Int.toNat_natCast, xj_lt_t, xj_lt_f, xj_le_t, xj_le_f, xj_eq_t, xj_eq_f, xj_lt, xj_le, xj_eq, xj_add, xj_sub, xj_mul, show ¬ xj 1 = xj 0 from by decide]
      rw [← xv_Off_xv ho4]
      have hnc : of_np O = O.2.1.2.2 := rfl
      have en2 : ((O.2.1.2.2 : Nat) : Int) + 1 = ((O.2.1.2.2 + 1 : Nat) : Int) := by omega
      simp (disch := omega) only [b35_50, b35_51, b35_54, b35_55, b35_58, b35_59, b35_62, b35_63, b35_66, b35_67, b35_70, b35_71, b35_72, b35_73, b35_76, b35_77, b35_80, b35_81, b35_82, b35_83, b35_86, b35_87, b35_90, b35_92, b35_93, b35_94, b35_97, b35_98, b35_101, b35_103, b35_104, b35_105, b35_108, b35_109, b35_112, b35_113, b35_114, b35_115, b35_116, b35_119, b35_120, b35_121, b35_124, List.getElem?_cons_zero, List.getElem?_cons_succ, List.length_cons, List.length_nil, List.set_cons_zero, List.set_cons_succ, true_and, and_true, Option.toList_some, Option.toList_none, List.cons_append, List.nil_append, ↓reduceIte, not_false_eq_true, not_true_eq_false, Nat.reduceAdd, xj0_01, xj1_01, xb_B, xb_True, xb_False, ↓go_0 (hq _), ↓go_1 (hq _), ↓go_2 (hq _), ↓go_3 (hq _), ↓go_4 (hq _), ↓go_5 (hq _), ↓go_6 (hq _), ↓go_7 (hq _), ↓go_8 (hq _), ↓go_9 (hq _), ↓go_10 (hq _), ↓go_11 (hq _), ↓go_12 (hq _), ↓go_13 (hq _), ↓go_14 (hq _), ↓go_15 (hq _), ↓ao_1 (hq _), ↓ao_2 (hq _), ↓ao_3 (hq _), ↓ao_4 (hq _), ↓ao_5 (hq _), ↓ao_6 (hq _), ↓ao_7 (hq _), ↓ao_8 (hq _), ↓ao_9 (hq _), ↓lO_5, ↓sO_5, ↓sO_6, ↓sO_7, ↓sO_8, ↓sO_9z, ↓po_6, ↓xj_in, xj_nat, Int.toNat_natCast, xj_lt_t, xj_lt_f, xj_le_t, xj_le_f, xj_eq_t, xj_eq_f, xj_lt, xj_le, xj_eq, xj_add, xj_sub, xj_mul, show ¬ xj 1 = xj 0 from by decide, en, oc_np, en2]
      exact po
    · exact absurd c0 a4
    · exact absurd q3 a3
    · exact absurd q2 a2
    · exact absurd q1 a1
  · have po := hpost f4 p4 fa4 O (frO2_x e1234) h4 ho4 hz (by
      refine Or.inr ⟨c0, ?_⟩
      unfold gCell
      rcases k1.2.1 rfl with ⟨a1, b1⟩ | ⟨a1, b1⟩
      · rw [b1, bdN_r, bdQ_r]
        rcases k2.2.1 a1 with ⟨a2, b2⟩ | ⟨a2, b2⟩
        · rw [b2, bdN_r, bdQ_r]
          rcases k3.2.1 a2 with ⟨a3, b3⟩ | ⟨a3, b3⟩
          · rw [b3, bdN_r, bdQ_r]
            rcases k4.2.1 a3 with ⟨a4, b4⟩ | ⟨a4, b4⟩
            · exact absurd a4 c0
            · rw [b4, bdN_l, bdQ_l]
          · rw [b3, bdN_l, bdQ_l, k4.2.2 a3]
        · have a3 := k3.2.2 a2
          rw [b2, bdN_l, bdQ_l, k4.2.2 (by rw [a3]; exact a2), a3]
      · have a2 := k2.2.2 a1
        have a3 := k3.2.2 (by rw [a2]; exact a1)
        rw [b1, bdN_l, bdQ_l, k4.2.2 (by rw [a3, a2]; exact a1), a3, a2])
    simp (disch := omega) only [b35_41, b35_43, b35_44, b35_47, b35_124, List.getElem?_cons_zero, List.getElem?_cons_succ, List.length_cons, List.length_nil, List.set_cons_zero, List.set_cons_succ, true_and, and_true, Option.toList_some, Option.toList_none, List.cons_append, List.nil_append, ↓reduceIte, not_false_eq_true, not_true_eq_false, Nat.reduceAdd, xj0_01, xj1_01, xb_B, xb_True, xb_False, ↓xT_fa h4, ↓xj_in, xj_nat, Int.toNat_natCast, xj_lt_t, xj_lt_f, xj_le_t, xj_le_f, xj_eq_t, xj_eq_f, xj_lt, xj_le, xj_eq, xj_add, xj_sub, xj_mul, show ¬ xj 1 = xj 0 from by decide]
    exact po
end XS9a06
