/-! the class reads an office: what rests; a clause -/
def ckB (T : Nat → Int) (n : Nat) (lo hi z : Int) (p : Nat) (v : Int) (p' fa' : Nat) : Prop := (fa' = 0 ∧ gNum T n lo hi p = .inr (p', v) ∧ v ≠ z) ∨ (fa' ≠ 0 ∧ (gNum T n lo hi p = .inl fa' ∨ ∃ p1, gNum T n lo hi p = .inr (p1, v) ∧ v = z ∧ fa' = 1 + 8 * p + 1))
section XS9a07
variable {D a b o k p q n r t c v fa s : Nat} {f : Nat → xk_C} {w : Nat × Nat × Nat} {K : Option Value → xk_S → Prop} {x y z lo hi : Int} {T : Nat → Int} {O : Of} {A : Nat → Int}
theorem c_numB (hD : 2 ≤ D) (h : xT f t T n p fa) (l1 : 0 ≤ lo) (l2 : lo ≤ 2147483647) (i1 : -2147483648 ≤ hi) (i2 : hi ≤ 2147483647) (z1 : -2147483648 ≤ z) (z2 : z ≤ 2147483647) (hpost : ∀ f' v p' fa', (∀ x, x ≠ t → f' x = f x) → xT f' t T n p' fa' → (-1 ≤ v ∧ v ≤ 99999) → (fa = 0 → ckB T n lo hi z p v p' fa') → (fa ≠ 0 → fa' = fa) → K (some (.int (xj v))) (f', w)) : xk_Cl D 97 [.ref t, .int (xj lo), .int (xj hi), .int (xj z)] (f, w) K := by
  refine u_takeNum hD h (by omega) l2 i1 i2 z1 z2 (fun f' p' fa' e1 e2 e3 => hpost f' _ p' fa' e1 e2 (va_rng (xT_at h).2.1) (fun q0 => ?_) (fun q0 => ?_))
  · subst q0
    by_cases c : kdT T n p = 1
    · have hd := kd_dg c
      have hv : vaT T n p = if 5 < dgE T n p - p then -1 else nvF T p (dgE T n p - p) := by unfold vaT; rw [if_neg (by omega), if_pos c]
      have hnv := nv_rng2 (T := T) (n := n) (p := p) (dgE T n p - p) (fun i hi => reF_all (dgB T n) 400 p (p + i) (by omega) (by show p + i < dgE T n p; omega))
      have e3 := e3.1 c
      by_cases c2 : vaT T n p < lo ∨ hi < vaT T n p ∨ vaT T n p = z
      · obtain ⟨r1, r2⟩ := e3.1 c2
        rw [if_pos rfl] at r2
        refine Or.inr ⟨by omega, ?_⟩
        by_cases hm : nmB T n p lo hi = true
        · have q := of_decide_eq_true hm
          rw [if_neg (by omega)] at hv
          refine Or.inr ⟨nxT T n p, ?_, by omega, r2⟩
          unfold gNum
          rw [if_pos hd, if_pos hm, hv]
        · refine Or.inl ?_
          unfold gNum
          rw [if_pos hd, if_neg hm, r2]
      · obtain ⟨r1, r2⟩ := e3.2 c2
        have h5 : ¬ 5 < dgE T n p - p := fun q => by rw [if_pos q] at hv; omega
        rw [if_neg h5] at hv
        have hm : nmB T n p lo hi = true := decide_eq_true (by omega)
        refine Or.inl ⟨r2, ?_, by omega⟩
        unfold gNum
        rw [if_pos hd, if_pos hm, r1, hv]
    · obtain ⟨r1, r2⟩ := e3.2 c
      rw [if_pos rfl] at r2
      have hd : ¬ dgB T n p = true := fun q => c (kd_1 q)
      refine Or.inr ⟨by omega, Or.inl ?_⟩
      unfold gNum
      rw [if_neg hd, r2]
  · by_cases c : kdT T n p = 1
    · have e3 := e3.1 c
      by_cases c2 : vaT T n p < lo ∨ hi < vaT T n p ∨ vaT T n p = z
      · have := (e3.1 c2).2; rw [if_neg q0] at this; exact this
      · exact (e3.2 c2).2
    · have := (e3.2 c).2; rw [if_neg q0] at this; exact this
theorem c_rests (hD : 3 ≤ D) (hot : t + 4 ≤ o ∨ o + 10 ≤ t) (h : xT f t T n (nxT T n p) 0) (ho : xv_Off f o O) (hz : xz_Off O) (hdr : drR A O) (hre : zRe A) (ha : of_np O ≤ 6) (hnc : of_nc O ≤ 4) (hna : of_na O ≤ 6) (hpost : ∀ f' p' fa' O', frO2 o t f f' → xT f' t T n p' fa' → xv_Off f' o O' → xz_Off O' → oR (gRstL T n p A) p' fa' O' → K none (f', w)) : xk_Cl D 36 [.ref o, .ref t] (f, w) K := by
  rw [e36 (by omega)]
  obtain ⟨r1, r2, r3, r4, r5, r6, r7, r8⟩ := hdr
  unfold gRstL at hpost
  rw [r5] at hpost
  simp (disch := omega) only [b36_0, b36_1, b36_2, b36_3, b36_6, b36_7, b36_8, List.getElem?_cons_zero, List.getElem?_cons_succ, List.length_cons, List.length_nil, List.set_cons_zero, List.set_cons_succ, true_and, and_true, Option.toList_some, Option.toList_none, List.cons_append, List.nil_append, ↓reduceIte, not_false_eq_true, not_true_eq_false, Nat.reduceAdd, xj0_01, xj1_01, xb_B, xb_True, xb_False, ↓go_0 ho, ↓go_1 ho, ↓go_2 ho, ↓go_3 ho, ↓go_4 ho, ↓go_5 ho, ↓go_6 ho, ↓go_7 ho, ↓go_8 ho, ↓go_9 ho, ↓go_10 ho, ↓go_11 ho, ↓go_12 ho, ↓go_13 ho, ↓go_14 ho, ↓go_15 ho, ↓ao_1 ho, ↓ao_2 ho, ↓ao_3 ho, ↓ao_4 ho, ↓ao_5 ho, ↓ao_6 ho, ↓ao_7 ho, ↓ao_8 ho, ↓ao_9 ho, ↓xj_in, xj_nat, Int.toNat_natCast, xj_lt_t, xj_lt_f, xj_le_t, xj_le_f, xj_eq_t, xj_eq_f, xj_lt, xj_le, xj_eq, xj_add, xj_sub, xj_mul, show ¬ xj 1 = xj 0 from by decide]
  rw [b36_9, rc_T h, true_and]
  refine c_num (by omega) h (by omega) (by omega) (by omega) (by omega) (fun _ => by omega) (fun f1 v1 p1 fa1 e1 h1 k1 => ?_)
  have ho1 : xv_Off f1 o O := xv_Off_fr ho (fun x q1 q2 => e1 x (by omega))
  have rv := k1.1
  simp (disch := omega) only [b36_12, b36_13, b36_14, b36_15, b36_16, b36_19, b36_20, b36_21, List.getElem?_cons_zero, List.getElem?_cons_succ, List.length_cons, List.length_nil, List.set_cons_zero, List.set_cons_succ, true_and, and_true, Option.toList_some, Option.toList_none, List.cons_append, List.nil_append, ↓reduceIte, not_false_eq_true, not_true_eq_false, Nat.reduceAdd, xj0_01, xj1_01, xb_B, xb_True, xb_False, ↓go_0 ho1, ↓go_1 ho1, ↓go_2 ho1, ↓go_3 ho1, ↓go_4 ho1, ↓go_5 ho1, ↓go_6 ho1, ↓go_7 ho1, ↓go_8 ho1, ↓go_9 ho1, ↓go_10 ho1, ↓go_11 ho1, ↓go_12 ho1, ↓go_13 ho1, ↓go_14 ho1, ↓go_15 ho1, ↓ao_1 ho1, ↓ao_2 ho1, ↓ao_3 ho1, ↓ao_4 ho1, ↓ao_5 ho1, ↓ao_6 ho1, ↓ao_7 ho1, ↓ao_8 ho1, ↓ao_9 ho1, ↓xj_in, xj_nat, Int.toNat_natCast, xj_lt_t, xj_lt_f, xj_le_t, xj_le_f, xj_eq_t, xj_eq_f, xj_lt, xj_le, xj_eq, xj_add, xj_sub, xj_mul, show ¬ xj 1 = xj 0 from by decide]
  rw [b36_22, rc_T h1, true_and]
  refine c_numB (by omega) h1 (by omega) (by omega) (by omega) (by omega) (by omega) (by omega) (fun f2 v2 p2 fa2 e2 h2 rv2 k2 k2' => ?_)
  have e12 : ∀ x, x ≠ t → f2 x = f x := fun x hx => by rw [e2 x hx, e1 x hx]
  have ho2 : xv_Off f2 o O := xv_Off_fr ho (fun x q1 q2 => e12 x (by omega))
  have hfa2 := (xT_at h2).2.2
  by_cases c0 : fa2 = 0
  · have q1 : fa1 = 0 := by
      apply Classical.byContradiction
      intro c1
      have := k2' c1
      omega
    rcases k1.2.1 rfl with ⟨_, b1⟩ | ⟨a1, _⟩
    rcases k2 q1 with ⟨_, b2, b3⟩ | ⟨a2, _⟩
    · have g1 := gNum_rm (xT_at h).2.1.1 b1
      have g2 := gNum_rm (xT_at h).2.1.1 b2
      obtain ⟨k1', rfl⟩ : ∃ m : Nat, v1 = m := ⟨v1.toNat, by omega⟩
      obtain ⟨k2', rfl⟩ : ∃ m : Nat, v2 = m := ⟨v2.toNat, by omega⟩
      have hk1 : k1' < of_np O := by omega
      have hk2 : k2' < of_np O := by omega
      have hA := (r8 k1' hk1).2.2.2.2
      have hr := hre k1' (by omega)
      have hp2 : (2 : Nat) ^ k2' < 2147483648 := p2lt (by omega)
      have hrl : of_re O k1' < 2147483648 := by omega
      have hq : ∀ O', xv_Off (xs f2 o (xl_Off o O')) o O' := fun _ => xv_Off_xs
      have po := hpost (xs f2 o (xl_Off o (O.1, (of_nc O, of_na O, of_np O), of_seat O, of_aw O, of_af O, of_al O, of_ow O, of_sk O, of_du O, of_wo O, upN (of_re O) k1' (of_re O k1' ||| 2 ^ k2')))) p2 fa2 (O.1, (of_nc O, of_na O, of_np O), of_seat O, of_aw O, of_af O, of_al O, of_ow O, of_sk O, of_du O, of_wo O, upN (of_re O) k1' (of_re O k1' ||| 2 ^ k2')) (frO2_t (frO2_x e12) frO2_o) (xT_fr h2 (fun x q1 q2 => xs_ne (by show x < o ∨ o + 10 ≤ x; omega))) xv_Off_xs ⟨hz.1, fun i hi => by
          have := hz.2 i hi
          refine ⟨this.1, this.2.1, this.2.2.1, this.2.2.2.1, this.2.2.2.2.1, this.2.2.2.2.2.1, this.2.2.2.2.2.2.1, ?_⟩
          show (if i = k1' then of_re O k1' ||| 2 ^ k2' else of_re O i) = 0
          rw [if_neg (by omega)]; exact this.2.2.2.2.2.2.2⟩ (by
        refine Or.inl ⟨c0, upI A (58 + 5 * k1') ((of_re O k1' ||| 2 ^ k2' : Nat) : Int), ?_, ?_⟩
        · rw [b1, bdN_r, b2, bdN_r, if_neg b3, Int.toNat_natCast, Int.toNat_natCast, ← hA, Int.toNat_natCast]
        · have no : ∀ j : Nat, j ≠ 58 + 5 * k1' → upI A (58 + 5 * k1') ((of_re O k1' ||| 2 ^ k2' : Nat) : Int) j = A j := fun j h1 => up_n h1
          refine ⟨r1, fun h0 => ?_, ?_, ?_, ?_, fun i hi => ?_, fun i hi => ?_, fun i hi => ?_⟩
          · rw [no 0 (by omega)] at h0
            rw [no 0 (by omega), no 1 (by omega), no 2 (by omega)]
            exact r2 h0
          · rw [no 3 (by omega)]; exact r3
          · rw [no 4 (by omega)]; exact r4
          · rw [no 5 (by omega)]; exact r5
          · have hi : i < of_nc O := hi
            rw [no _ (by omega)]; exact r6 i hi
          · have hi : i < of_na O := hi
            rw [no _ (by omega), no _ (by omega), no _ (by omega)]; exact r7 i hi
          · have hi : i < of_np O := hi
            have q8 := r8 i hi
            rw [no _ (by omega), no _ (by omega), no _ (by omega), no _ (by omega)]
            refine ⟨q8.1, q8.2.1, q8.2.2.1, q8.2.2.2.1, ?_⟩
            show (((if i = k1' then of_re O k1' ||| 2 ^ k2' else of_re O i : Nat)) : Int) = _
            by_cases ci : i = k1'
            · subst ci; rw [if_pos rfl, up_e]
            · rw [if_neg ci, no _ (by omega)]; exact q8.2.2.2.2)
      simp (disch := omega) only [b36_25, b36_26, b36_27, b36_30, List.getElem?_cons_zero, List.getElem?_cons_succ, List.length_cons, List.length_nil, List.set_cons_zero, List.set_cons_succ, true_and, and_true, Option.toList_some, Option.toList_none, List.cons_append, List.nil_append, ↓reduceIte, not_false_eq_true, not_true_eq_false, Nat.reduceAdd, xj0_01, xj1_01, xb_B, xb_True, xb_False, ↓xT_fa h2, ↓xj_in, xj_nat, Int.toNat_natCast, xj_lt_t, xj_lt_f, xj_le_t, xj_le_f, xj_eq_t, xj_eq_f, xj_lt, xj_le, xj_eq, xj_add, xj_sub, xj_mul, show ¬ xj 1 = xj 0 from by decide]
      rw [← xv_Off_xv ho2]
      simp (disch := omega) only [b36_33, b36_34, b36_37, b36_38, b36_39, b36_42, b36_43, b36_46, b36_47, b36_50, b36_51, b36_52, b36_53, b36_54, b36_55, b36_56, b36_57, b36_58, List.getElem?_cons_zero, List.getElem?_cons_succ, List.length_cons, List.length_nil, List.set_cons_zero, List.set_cons_succ, true_and, and_true, Option.toList_some, Option.toList_none, List.cons_append, List.nil_append, ↓reduceIte, not_false_eq_true, not_true_eq_false, Nat.reduceAdd, xj0_01, xj1_01, xb_B, xb_True, xb_False, ↓go_0 (hq _), ↓go_1 (hq _), ↓go_2 (hq _), ↓go_3 (hq _), ↓go_4 (hq _), ↓go_5 (hq _), ↓go_6 (hq _), ↓go_7 (hq _), ↓go_8 (hq _), ↓go_9 (hq _), ↓go_10 (hq _), ↓go_11 (hq _), ↓go_12 (hq _), ↓go_13 (hq _), ↓go_14 (hq _), ↓go_15 (hq _), ↓ao_1 (hq _), ↓ao_2 (hq _), ↓ao_3 (hq _), ↓ao_4 (hq _), ↓ao_5 (hq _), ↓ao_6 (hq _), ↓ao_7 (hq _), ↓ao_8 (hq _), ↓ao_9 (hq _), ↓lO_9, ↓sO_9, ↓xj_in, xj_nat, Int.toNat_natCast, xj_lt_t, xj_lt_f, xj_le_t, xj_le_f, xj_eq_t, xj_eq_f, xj_lt, xj_le, xj_eq, xj_add, xj_sub, xj_mul, show ¬ xj 1 = xj 0 from by decide, xj_shl1 (k := k2') (by omega), xj_or hrl hp2]
      exact po
    · exact absurd c0 a2
    · exact absurd q1 a1
  · have po := hpost f2 p2 fa2 O (frO2_x e12) h2 ho2 hz (by
      refine Or.inr ⟨c0, ?_⟩
      rcases k1.2.1 rfl with ⟨a1, b1⟩ | ⟨a1, b1⟩
      · rw [b1, bdN_r]
        rcases k2 a1 with ⟨a2, _⟩ | ⟨a2, b2 | ⟨p3, b2, b3, b4⟩⟩
        · exact absurd a2 c0
        · rw [b2, bdN_l]
        · rw [b2, bdN_r, if_pos b3, b4]
      · rw [b1, bdN_l, k2' a1])
    simp (disch := omega) only [b36_25, b36_26, b36_27, b36_30, b36_58, List.getElem?_cons_zero, List.getElem?_cons_succ, List.length_cons, List.length_nil, List.set_cons_zero, List.set_cons_succ, true_and, and_true, Option.toList_some, Option.toList_none, List.cons_append, List.nil_append, ↓reduceIte, not_false_eq_true, not_true_eq_false, Nat.reduceAdd, xj0_01, xj1_01, xb_B, xb_True, xb_False, ↓xT_fa h2, ↓xj_in, xj_nat, Int.toNat_natCast, xj_lt_t, xj_lt_f, xj_le_t, xj_le_f, xj_eq_t, xj_eq_f, xj_lt, xj_le, xj_eq, xj_add, xj_sub, xj_mul, show ¬ xj 1 = xj 0 from by decide]
    exact po
theorem s_full_n (hD : 1 ≤ D) (ho : xv_Off f o O) (h1 : of_nc O ≤ 4) (h2 : of_na O ≤ 6) (h3 : of_np O ≤ 6) (z1 : 0 ≤ z) (z2 : z ≤ 1000) (c1 : ¬ (z = 1 ∧ 4 ≤ of_nc O)) (c2 : ¬ (z = 14 ∧ 6 ≤ of_na O)) (c3 : ¬ (z = 0 ∧ 6 ≤ of_np O)) : xk_Cl D 31 [.ref o, .int (xj z)] (f, w) K ↔ K (some (.int (xj 0))) (f, w) := by
  rw [e31 (by omega)]
  by_cases d1 : z = 1
  · subst d1
    simp (disch := omega) only [b31_0, b31_1, b31_2, b31_5, b31_6, b31_9, b31_10, b31_13, b31_14, b31_16, b31_19, b31_20, b31_23, b31_25, b31_28, b31_29, b31_32, b31_33, b31_36, b31_38, b31_41, b31_42, b31_45, b31_46, b31_46o, b31_46z, b31_46c, List.getElem?_cons_zero, List.getElem?_cons_succ, List.length_cons, List.length_nil, List.set_cons_zero, List.set_cons_succ, true_and, and_true, Option.toList_some, Option.toList_none, List.cons_append, List.nil_append, ↓reduceIte, not_false_eq_true, not_true_eq_false, Nat.reduceAdd, xj0_01, xj1_01, xb_B, xb_True, xb_False, ↓go_0 ho, ↓go_1 ho, ↓go_2 ho, ↓go_3 ho, ↓go_4 ho, ↓go_5 ho, ↓go_6 ho, ↓go_7 ho, ↓go_8 ho, ↓go_9 ho, ↓go_10 ho, ↓go_11 ho, ↓go_12 ho, ↓go_13 ho, ↓go_14 ho, ↓go_15 ho, ↓ao_1 ho, ↓ao_2 ho, ↓ao_3 ho, ↓ao_4 ho, ↓ao_5 ho, ↓ao_6 ho, ↓ao_7 ho, ↓ao_8 ho, ↓ao_9 ho, ↓xj_in, xj_nat, Int.toNat_natCast, xj_lt_t, xj_lt_f, xj_le_t, xj_le_f, xj_eq_t, xj_eq_f, xj_lt, xj_le, xj_eq, xj_add, xj_sub, xj_mul, show ¬ xj 1 = xj 0 from by decide]
  · by_cases d2 : z = 14
    · subst d2
      simp (disch := omega) only [b31_0, b31_1, b31_2, b31_5, b31_6, b31_9, b31_10, b31_13, b31_14, b31_16, b31_19, b31_20, b31_23, b31_25, b31_28, b31_29, b31_32, b31_33, b31_36, b31_38, b31_41, b31_42, b31_45, b31_46, b31_46o, b31_46z, b31_46c, List.getElem?_cons_zero, List.getElem?_cons_succ, List.length_cons, List.length_nil, List.set_cons_zero, List.set_cons_succ, true_and, and_true, Option.toList_some, Option.toList_none, List.cons_append, List.nil_append, ↓reduceIte, not_false_eq_true, not_true_eq_false, Nat.reduceAdd, xj0_01, xj1_01, xb_B, xb_True, xb_False, ↓go_0 ho, ↓go_1 ho, ↓go_2 ho, ↓go_3 ho, ↓go_4 ho, ↓go_5 ho, ↓go_6 ho, ↓go_7 ho, ↓go_8 ho, ↓go_9 ho, ↓go_10 ho, ↓go_11 ho, ↓go_12 ho, ↓go_13 ho, ↓go_14 ho, ↓go_15 ho, ↓ao_1 ho, ↓ao_2 ho, ↓ao_3 ho, ↓ao_4 ho, ↓ao_5 ho, ↓ao_6 ho, ↓ao_7 ho, ↓ao_8 ho, ↓ao_9 ho, ↓xj_in, xj_nat, Int.toNat_natCast, xj_lt_t, xj_lt_f, xj_le_t, xj_le_f, xj_eq_t, xj_eq_f, xj_lt, xj_le, xj_eq, xj_add, xj_sub, xj_mul, show ¬ xj 1 = xj 0 from by decide]
    · by_cases d3 : z = 0
      · subst d3
        simp (disch := omega) only [b31_0, b31_1, b31_2, b31_5, b31_6, b31_9, b31_10, b31_13, b31_14, b31_16, b31_19, b31_20, b31_23, b31_25, b31_28, b31_29, b31_32, b31_33, b31_36, b31_38, b31_41, b31_42, b31_45, b31_46, b31_46o, b31_46z, b31_46c, List.getElem?_cons_zero, List.getElem?_cons_succ, List.length_cons, List.length_nil, List.set_cons_zero, List.set_cons_succ, true_and, and_true, Option.toList_some, Option.toList_none, List.cons_append, List.nil_append, ↓reduceIte, not_false_eq_true, not_true_eq_false, Nat.reduceAdd, xj0_01, xj1_01, xb_B, xb_True, xb_False, ↓go_0 ho, ↓go_1 ho, ↓go_2 ho, ↓go_3 ho, ↓go_4 ho, ↓go_5 ho, ↓go_6 ho, ↓go_7 ho, ↓go_8 ho, ↓go_9 ho, ↓go_10 ho, ↓go_11 ho, ↓go_12 ho, ↓go_13 ho, ↓go_14 ho, ↓go_15 ho, ↓ao_1 ho, ↓ao_2 ho, ↓ao_3 ho, ↓ao_4 ho, ↓ao_5 ho, ↓ao_6 ho, ↓ao_7 ho, ↓ao_8 ho, ↓ao_9 ho, ↓xj_in, xj_nat, Int.toNat_natCast, xj_lt_t, xj_lt_f, xj_le_t, xj_le_f, xj_eq_t, xj_eq_f, xj_lt, xj_le, xj_eq, xj_add, xj_sub, xj_mul, show ¬ xj 1 = xj 0 from by decide]
      · simp (disch := omega) only [b31_0, b31_1, b31_2, b31_5, b31_6, b31_9, b31_10, b31_13, b31_14, b31_16, b31_19, b31_20, b31_23, b31_25, b31_28, b31_29, b31_32, b31_33, b31_36, b31_38, b31_41, b31_42, b31_45, b31_46, b31_46o, b31_46z, b31_46c, List.getElem?_cons_zero, List.getElem?_cons_succ, List.length_cons, List.length_nil, List.set_cons_zero, List.set_cons_succ, true_and, and_true, Option.toList_some, Option.toList_none, List.cons_append, List.nil_append, ↓reduceIte, not_false_eq_true, not_true_eq_false, Nat.reduceAdd, xj0_01, xj1_01, xb_B, xb_True, xb_False, ↓go_0 ho, ↓go_1 ho, ↓go_2 ho, ↓go_3 ho, ↓go_4 ho, ↓go_5 ho, ↓go_6 ho, ↓go_7 ho, ↓go_8 ho, ↓go_9 ho, ↓go_10 ho, ↓go_11 ho, ↓go_12 ho, ↓go_13 ho, ↓go_14 ho, ↓go_15 ho, ↓ao_1 ho, ↓ao_2 ho, ↓ao_3 ho, ↓ao_4 ho, ↓ao_5 ho, ↓ao_6 ho, ↓ao_7 ho, ↓ao_8 ho, ↓ao_9 ho, ↓xj_in, xj_nat, Int.toNat_natCast, xj_lt_t, xj_lt_f, xj_le_t, xj_le_f, xj_eq_t, xj_eq_f, xj_lt, xj_le, xj_eq, xj_add, xj_sub, xj_mul, show ¬ xj 1 = xj 0 from by decide]
theorem s_full_y (hD : 1 ≤ D) (ho : xv_Off f o O) (h1 : of_nc O ≤ 4) (h2 : of_na O ≤ 6) (h3 : of_np O ≤ 6) (hc : (z = 1 ∧ 4 ≤ of_nc O) ∨ (z = 14 ∧ 6 ≤ of_na O) ∨ (z = 0 ∧ 6 ≤ of_np O)) : xk_Cl D 31 [.ref o, .int (xj z)] (f, w) K ↔ K (some (.int (xj 1))) (f, w) := by
  rw [e31 (by omega)]
  rcases hc with ⟨rfl, h4⟩ | ⟨rfl, h4⟩ | ⟨rfl, h4⟩
  · simp (disch := omega) only [b31_0, b31_1, b31_2, b31_5, b31_6, b31_9, b31_10, b31_13, b31_14, b31_16, b31_19, b31_20, b31_23, b31_25, b31_28, b31_29, b31_32, b31_33, b31_36, b31_38, b31_41, b31_42, b31_45, b31_46, b31_46o, b31_46z, b31_46c, List.getElem?_cons_zero, List.getElem?_cons_succ, List.length_cons, List.length_nil, List.set_cons_zero, List.set_cons_succ, true_and, and_true, Option.toList_some, Option.toList_none, List.cons_append, List.nil_append, ↓reduceIte, not_false_eq_true, not_true_eq_false, Nat.reduceAdd, xj0_01, xj1_01, xb_B, xb_True, xb_False, ↓go_0 ho, ↓go_1 ho, ↓go_2 ho, ↓go_3 ho, ↓go_4 ho, ↓go_5 ho, ↓go_6 ho, ↓go_7 ho, ↓go_8 ho, ↓go_9 ho, ↓go_10 ho, ↓go_11 ho, ↓go_12 ho, ↓go_13 ho, ↓go_14 ho, ↓go_15 ho, ↓ao_1 ho, ↓ao_2 ho, ↓ao_3 ho, ↓ao_4 ho, ↓ao_5 ho, ↓ao_6 ho, ↓ao_7 ho, ↓ao_8 ho, ↓ao_9 ho, ↓xj_in, xj_nat, Int.toNat_natCast, xj_lt_t, xj_lt_f, xj_le_t, xj_le_f, xj_eq_t, xj_eq_f, xj_lt, xj_le, xj_eq, xj_add, xj_sub, xj_mul, show ¬ xj 1 = xj 0 from by decide]
  · simp (disch := omega) only [b31_0, b31_1, b31_2, b31_5, b31_6, b31_9, b31_10, b31_13, b31_14, b31_16, b31_19, b31_20, b31_23, b31_25, b31_28, b31_29, b31_32, b31_33, b31_36, b31_38, b31_41, b31_42, b31_45, b31_46, b31_46o, b31_46z, b31_46c, List.getElem?_cons_zero, List.getElem?_cons_succ, List.length_cons, List.length_nil, List.set_cons_zero, List.set_cons_succ, true_and, and_true, Option.toList_some, Option.toList_none, List.cons_append, List.nil_append, ↓reduceIte, not_false_eq_true, not_true_eq_false, Nat.reduceAdd, xj0_01, xj1_01, xb_B, xb_True, xb_False, ↓go_0 ho, ↓go_1 ho, ↓go_2 ho, ↓go_3 ho, ↓go_4 ho, ↓go_5 ho, ↓go_6 ho, ↓go_7 ho, ↓go_8 ho, ↓go_9 ho, ↓go_10 ho, ↓go_11 ho, ↓go_12 ho, ↓go_13 ho, ↓go_14 ho, ↓go_15 ho, ↓ao_1 ho, ↓ao_2 ho, ↓ao_3 ho, ↓ao_4 ho, ↓ao_5 ho, ↓ao_6 ho, ↓ao_7 ho, ↓ao_8 ho, ↓ao_9 ho, ↓xj_in, xj_nat, Int.toNat_natCast, xj_lt_t, xj_lt_f, xj_le_t, xj_le_f, xj_eq_t, xj_eq_f, xj_lt, xj_le, xj_eq, xj_add, xj_sub, xj_mul, show ¬ xj 1 = xj 0 from by decide]
  · simp (disch := omega) only [b31_0, b31_1, b31_2, b31_5, b31_6, b31_9, b31_10, b31_13, b31_14, b31_16, b31_19, b31_20, b31_23, b31_25, b31_28, b31_29, b31_32, b31_33, b31_36, b31_38, b31_41, b31_42, b31_45, b31_46, b31_46o, b31_46z, b31_46c, List.getElem?_cons_zero, List.getElem?_cons_succ, List.length_cons, List.length_nil, List.set_cons_zero, List.set_cons_succ, true_and, and_true, Option.toList_some, Option.toList_none, List.cons_append, List.nil_append, ↓reduceIte, not_false_eq_true, not_true_eq_false, Nat.reduceAdd, xj0_01, xj1_01, xb_B, xb_True, xb_False, ↓go_0 ho, ↓go_1 ho, ↓go_2 ho, ↓go_3 ho, ↓go_4 ho, ↓go_5 ho, ↓go_6 ho, ↓go_7 ho, ↓go_8 ho, ↓go_9 ho, ↓go_10 ho, ↓go_11 ho, ↓go_12 ho, ↓go_13 ho, ↓go_14 ho, ↓go_15 ho, ↓ao_1 ho, ↓ao_2 ho, ↓ao_3 ho, ↓ao_4 ho, ↓ao_5 ho, ↓ao_6 ho, ↓ao_7 ho, ↓ao_8 ho, ↓ao_9 ho, ↓xj_in, xj_nat, Int.toNat_natCast, xj_lt_t, xj_lt_f, xj_le_t, xj_le_f, xj_eq_t, xj_eq_f, xj_lt, xj_le, xj_eq, xj_add, xj_sub, xj_mul, show ¬ xj 1 = xj 0 from by decide]
theorem wd_kv {T : Nat → Int} {n p : Nat} : (kdT T n p = 2 → vaT T n p = wdA T n p) ∧ (kdT T n p ≠ 2 → wdA T n p = -1) ∧ -1 ≤ wdA T n p ∧ wdA T n p < 21 := by
  have hr := wd_rng T p (ltE T n p - p)
  refine ⟨fun h => ?_, fun h => ?_, hr⟩
  · unfold vaT
    rw [if_neg (by omega), if_neg (by omega), if_pos h]
  · have hr : -1 ≤ wdA T n p ∧ wdA T n p < 21 := hr
    apply Classical.byContradiction
    intro c
    exact h (kd_2 (wd_lt (T := T) (n := n) (p := p) (by omega)).2)
/-- a clause, from its word on -/
theorem c_ocl (hD : 6 ≤ D) (hot : t + 4 ≤ o ∨ o + 10 ≤ t) (h : xT f t T n p 0) (ho : xv_Off f o O) (hz : xz_Off O) (hdr : drR A O) (hzw : zW A) (hk : k ≤ 40) (hk0 : k = 0 → A 0 = 0) (hk1 : k ≠ 0 → 0 < A 0) (hpost : ∀ f' p' fa' O', frO2 o t f f' → xT f' t T n p' fa' → xv_Off f' o O' → xz_Off O' → oR (gOC T n k p A) p' fa' O' → K none (f', w)) : xk_Cl D 30 [.ref o, .ref t, .int (xj (k : Nat))] (f, w) K := by
  rw [e30 (by omega)]
  obtain ⟨z1, z2, z3, z4, z5, z6, z7, z8⟩ := hzw.1
  have r3 := hdr.2.2.1
  have r4 := hdr.2.2.2.1
  have r5 := hdr.2.2.2.2.1
  obtain ⟨w1, w2, w3, w4⟩ := wd_kv (T := T) (n := n) (p := p)
  have hkr := kd_rng T n p
  have hn := (xT_at h).2.1.1
  -- the word
  have word : xk_B (D - 1) 30 17 [.ref o, .ref t, .int (xj (k : Nat)), .int (xj (wdA T n p))] [] (f, w) K → xk_B (D - 1) 30 0 [.ref o, .ref t, .int (xj (k : Nat)), xk_dd] [] (f, w) K := fun po => by
    by_cases c : kdT T n p = 2
    · have e := w1 c
      simp (disch := omega) only [b30_0, b30_1, b30_4, b30_5, b30_8, b30_9, b30_12, b30_15, b30_16, List.getElem?_cons_zero, List.getElem?_cons_succ, List.length_cons, List.length_nil, List.set_cons_zero, List.set_cons_succ, true_and, and_true, Option.toList_some, Option.toList_none, List.cons_append, List.nil_append, ↓reduceIte, not_false_eq_true, not_true_eq_false, Nat.reduceAdd, xj0_01, xj1_01, xb_B, xb_True, xb_False, rc_T h, s_kind _ h, s_value _ h, c, e, ↓xj_in, xj_nat, Int.toNat_natCast, xj_lt_t, xj_lt_f, xj_le_t, xj_le_f, xj_eq_t, xj_eq_f, xj_lt, xj_le, xj_eq, xj_add, xj_sub, xj_mul, show ¬ xj 1 = xj 0 from by decide]
      exact po
    · have e := w2 c
      rw [e] at po
      simp (disch := omega) only [b30_0, b30_1, b30_4, b30_5, b30_8, b30_9, b30_12, b30_15, b30_16, List.getElem?_cons_zero, List.getElem?_cons_succ, List.length_cons, List.length_nil, List.set_cons_zero, List.set_cons_succ, true_and, and_true, Option.toList_some, Option.toList_none, List.cons_append, List.nil_append, ↓reduceIte, not_false_eq_true, not_true_eq_false, Nat.reduceAdd, xj0_01, xj1_01, xb_B, xb_True, xb_False, rc_T h, s_kind _ h, s_value _ h, ↓xj_in, xj_nat, Int.toNat_natCast, xj_lt_t, xj_lt_f, xj_le_t, xj_le_f, xj_eq_t, xj_eq_f, xj_lt, xj_le, xj_eq, xj_add, xj_sub, xj_mul, show ¬ xj 1 = xj 0 from by decide]
      exact po
  refine word ?_
  by_cases cw : wdA T n p = 13 ∨ wdA T n p = 1 ∨ wdA T n p = 14 ∨ wdA T n p = 0 ∨ wdA T n p = 15
  · have fail4 : gOC T n k p A = .inl (1 + 8 * p + 4) → ∀ l3, xk_B (D - 1) 30 87 [.ref o, .ref t, .int (xj (k : Nat)), l3] [] (f, w) K := fun hg l3 => by
      simp (disch := omega) only [b30_87, b30_88, List.getElem?_cons_zero, List.getElem?_cons_succ, List.length_cons, List.length_nil, List.set_cons_zero, List.set_cons_succ, true_and, and_true, Option.toList_some, Option.toList_none, List.cons_append, List.nil_append, ↓reduceIte, not_false_eq_true, not_true_eq_false, Nat.reduceAdd, xj0_01, xj1_01, xb_B, xb_True, xb_False]
      rw [b30_89, rc_T h, true_and]
      refine u_fail (k := 4) (by omega) h (by omega) (fun f1 e1 h1 => ?_)
      rw [if_pos rfl] at h1
      have po := hpost f1 p (1 + 8 * p + 4) O (frO2_x e1) h1 (xv_Off_fr ho (fun x q1 q2 => e1 x (by omega))) hz (Or.inr ⟨by omega, hg⟩)
      simp (disch := omega) only [b30_92, List.getElem?_cons_zero, List.getElem?_cons_succ, List.length_cons, List.length_nil, List.set_cons_zero, List.set_cons_succ, true_and, and_true, Option.toList_some, Option.toList_none, List.cons_append, List.nil_append, ↓reduceIte, not_false_eq_true, not_true_eq_false, Nat.reduceAdd, xj0_01, xj1_01, xb_B, xb_True, xb_False]
      exact po
    have hsn := (wd_lt (T := T) (n := n) (p := p) (by omega)).1
    by_cases c40 : k = 40
    · have hg : gOC T n k p A = .inl (1 + 8 * p + 4) := by unfold gOC; rw [if_pos cw, if_pos c40]
      have po := fail4 hg
      rcases cw with e | e | e | e | e
      · rw [e]; simp (disch := omega) only [b30_17, b30_18, b30_20, b30_23, b30_24, b30_25, b30_28, b30_29, b30_31, b30_34, b30_35, b30_38, b30_39, b30_41, b30_44, b30_45, b30_46, b30_49, b30_50, b30_51, b30_53, List.getElem?_cons_zero, List.getElem?_cons_succ, List.length_cons, List.length_nil, List.set_cons_zero, List.set_cons_succ, true_and, and_true, Option.toList_some, Option.toList_none, List.cons_append, List.nil_append, ↓reduceIte, not_false_eq_true, not_true_eq_false, Nat.reduceAdd, xj0_01, xj1_01, xb_B, xb_True, xb_False, ↓xj_in, xj_nat, Int.toNat_natCast, xj_lt_t, xj_lt_f, xj_le_t, xj_le_f, xj_eq_t, xj_eq_f, xj_lt, xj_le, xj_eq, xj_add, xj_sub, xj_mul, show ¬ xj 1 = xj 0 from by decide]; exact po _
      · rw [e]; simp (disch := omega) only [b30_17, b30_18, b30_20, b30_23, b30_24, b30_25, b30_28, b30_29, b30_31, b30_34, b30_35, b30_38, b30_39, b30_41, b30_44, b30_45, b30_46, b30_49, b30_50, b30_51, b30_53, List.getElem?_cons_zero, List.getElem?_cons_succ, List.length_cons, List.length_nil, List.set_cons_zero, List.set_cons_succ, true_and, and_true, Option.toList_some, Option.toList_none, List.cons_append, List.nil_append, ↓reduceIte, not_false_eq_true, not_true_eq_false, Nat.reduceAdd, xj0_01, xj1_01, xb_B, xb_True, xb_False, ↓xj_in, xj_nat, Int.toNat_natCast, xj_lt_t, xj_lt_f, xj_le_t, xj_le_f, xj_eq_t, xj_eq_f, xj_lt, xj_le, xj_eq, xj_add, xj_sub, xj_mul, show ¬ xj 1 = xj 0 from by decide]; exact po _
      · rw [e]; simp (disch := omega) only [b30_17, b30_18, b30_20, b30_23, b30_24, b30_25, b30_28, b30_29, b30_31, b30_34, b30_35, b30_38, b30_39, b30_41, b30_44, b30_45, b30_46, b30_49, b30_50, b30_51, b30_53, List.getElem?_cons_zero, List.getElem?_cons_succ, List.length_cons, List.length_nil, List.set_cons_zero, List.set_cons_succ, true_and, and_true, Option.toList_some, Option.toList_none, List.cons_append, List.nil_append, ↓reduceIte, not_false_eq_true, not_true_eq_false, Nat.reduceAdd, xj0_01, xj1_01, xb_B, xb_True, xb_False, ↓xj_in, xj_nat, Int.toNat_natCast, xj_lt_t, xj_lt_f, xj_le_t, xj_le_f, xj_eq_t, xj_eq_f, xj_lt, xj_le, xj_eq, xj_add, xj_sub, xj_mul, show ¬ xj 1 = xj 0 from by decide]; exact po _
      · rw [e]; simp (disch := omega) only [b30_17, b30_18, b30_20, b30_23, b30_24, b30_25, b30_28, b30_29, b30_31, b30_34, b30_35, b30_38, b30_39, b30_41, b30_44, b30_45, b30_46, b30_49, b30_50, b30_51, b30_53, List.getElem?_cons_zero, List.getElem?_cons_succ, List.length_cons, List.length_nil, List.set_cons_zero, List.set_cons_succ, true_and, and_true, Option.toList_some, Option.toList_none, List.cons_append, List.nil_append, ↓reduceIte, not_false_eq_true, not_true_eq_false, Nat.reduceAdd, xj0_01, xj1_01, xb_B, xb_True, xb_False, ↓xj_in, xj_nat, Int.toNat_natCast, xj_lt_t, xj_lt_f, xj_le_t, xj_le_f, xj_eq_t, xj_eq_f, xj_lt, xj_le, xj_eq, xj_add, xj_sub, xj_mul, show ¬ xj 1 = xj 0 from by decide]; exact po _
      · rw [e]; simp (disch := omega) only [b30_17, b30_18, b30_20, b30_23, b30_24, b30_25, b30_28, b30_29, b30_31, b30_34, b30_35, b30_38, b30_39, b30_41, b30_44, b30_45, b30_46, b30_49, b30_50, b30_51, b30_53, List.getElem?_cons_zero, List.getElem?_cons_succ, List.length_cons, List.length_nil, List.set_cons_zero, List.set_cons_succ, true_and, and_true, Option.toList_some, Option.toList_none, List.cons_append, List.nil_append, ↓reduceIte, not_false_eq_true, not_true_eq_false, Nat.reduceAdd, xj0_01, xj1_01, xb_B, xb_True, xb_False, ↓xj_in, xj_nat, Int.toNat_natCast, xj_lt_t, xj_lt_f, xj_le_t, xj_le_f, xj_eq_t, xj_eq_f, xj_lt, xj_le, xj_eq, xj_add, xj_sub, xj_mul, show ¬ xj 1 = xj 0 from by decide]; exact po _
    · have hg : gOC T n k p A = gLine T n p A := by unfold gOC; rw [if_pos cw, if_neg c40]
      have stp : ∀ (K' : Option Value → xk_S → Prop), (∀ f1, (∀ x, x ≠ t → f1 x = f x) → xT f1 t T n (nxT T n p) 0 → K' none (f1, w)) → xk_Cl (D - 1) 94 [.ref t] (f, w) K' := fun K' q => u_step (by omega) h hsn q
      by_cases k0 : k = 0
      · have A0 := hk0 k0
        rcases cw with e | e | e | e | e
        · have hl : gLine T n p A = gOffL T n p A := by unfold gLine; rw [if_pos e]
          rw [hg, hl] at hpost
          rw [e]
          have fu := fun K' => s_full_n (D := D - 1) (K := K') (w := w) (z := 13) (by omega) ho (by omega) (by omega) (by omega) (by omega) (by omega) (by omega) (by omega) (by omega)
          simp (disch := omega) only [b30_17, b30_18, b30_20, b30_23, b30_24, b30_25, b30_28, b30_29, b30_31, b30_34, b30_35, b30_38, b30_39, b30_41, b30_44, b30_45, b30_46, b30_49, b30_50, b30_51, b30_53, b30_56, b30_57, b30_59, b30_62, b30_63, b30_66, b30_67, b30_68, b30_71, b30_72, b30_75, b30_76, b30_79, b30_80, b30_81, b30_84, b30_93, List.getElem?_cons_zero, List.getElem?_cons_succ, List.length_cons, List.length_nil, List.set_cons_zero, List.set_cons_succ, true_and, and_true, Option.toList_some, Option.toList_none, List.cons_append, List.nil_append, ↓reduceIte, not_false_eq_true, not_true_eq_false, Nat.reduceAdd, xj0_01, xj1_01, xb_B, xb_True, xb_False, rc_Off ho, fu, ↓xj_in, xj_nat, Int.toNat_natCast, xj_lt_t, xj_lt_f, xj_le_t, xj_le_f, xj_eq_t, xj_eq_f, xj_lt, xj_le, xj_eq, xj_add, xj_sub, xj_mul, show ¬ xj 1 = xj 0 from by decide]
          rw [b30_94, rc_T h, true_and]
          refine stp _ (fun f1 e1 h1 => ?_)
          have ho1 : xv_Off f1 o O := xv_Off_fr ho (fun x q1 q2 => e1 x (by omega))
          simp (disch := omega) only [b30_97, b30_98, b30_140, b30_141, List.getElem?_cons_zero, List.getElem?_cons_succ, List.length_cons, List.length_nil, List.set_cons_zero, List.set_cons_succ, true_and, and_true, Option.toList_some, Option.toList_none, List.cons_append, List.nil_append, ↓reduceIte, not_false_eq_true, not_true_eq_false, Nat.reduceAdd, xj0_01, xj1_01, xb_B, xb_True, xb_False, ↓xj_in, xj_nat, Int.toNat_natCast, xj_lt_t, xj_lt_f, xj_le_t, xj_le_f, xj_eq_t, xj_eq_f, xj_lt, xj_le, xj_eq, xj_add, xj_sub, xj_mul, show ¬ xj 1 = xj 0 from by decide]
          rw [b30_142, rc_Off ho1, true_and]
          refine c_pen (by omega) hot h1 ho1 hz hdr (by omega) (fun f2 p2 fa2 O2 fr2 h2 o2 zz r2 => ?_)
          have po := hpost f2 p2 fa2 O2 (frO2_t (frO2_x e1) fr2) h2 o2 zz r2
          simp (disch := omega) only [b30_145, b30_177, List.getElem?_cons_zero, List.getElem?_cons_succ, List.length_cons, List.length_nil, List.set_cons_zero, List.set_cons_succ, true_and, and_true, Option.toList_some, Option.toList_none, List.cons_append, List.nil_append, ↓reduceIte, not_false_eq_true, not_true_eq_false, Nat.reduceAdd, xj0_01, xj1_01, xb_B, xb_True, xb_False]
          exact po
        all_goals
          have hl : gLine T n p A = .inl (1 + 8 * p + 4) := by unfold gLine; rw [if_neg (by omega), if_pos A0]
          have po := fail4 (hg.trans hl)
          rw [e]
          simp (disch := omega) only [b30_17, b30_18, b30_20, b30_23, b30_24, b30_25, b30_28, b30_29, b30_31, b30_34, b30_35, b30_38, b30_39, b30_41, b30_44, b30_45, b30_46, b30_49, b30_50, b30_51, b30_53, b30_56, b30_57, b30_59, b30_62, b30_63, b30_66, b30_67, b30_68, b30_71, b30_72, b30_75, b30_76, List.getElem?_cons_zero, List.getElem?_cons_succ, List.length_cons, List.length_nil, List.set_cons_zero, List.set_cons_succ, true_and, and_true, Option.toList_some, Option.toList_none, List.cons_append, List.nil_append, ↓reduceIte, not_false_eq_true, not_true_eq_false, Nat.reduceAdd, xj0_01, xj1_01, xb_B, xb_True, xb_False, ↓xj_in, xj_nat, Int.toNat_natCast, xj_lt_t, xj_lt_f, xj_le_t, xj_le_f, xj_eq_t, xj_eq_f, xj_lt, xj_le, xj_eq, xj_add, xj_sub, xj_mul, show ¬ xj 1 = xj 0 from by decide]
          exact po _
      · have A0 := hk1 k0
        rcases cw with e | e | e | e | e
        · have hl : gLine T n p A = .inl (1 + 8 * p + 4) := by unfold gLine gOffL; rw [if_pos e, if_pos A0]
          have po := fail4 (hg.trans hl)
          rw [e]
          simp (disch := omega) only [b30_17, b30_18, b30_20, b30_23, b30_24, b30_25, b30_28, b30_29, b30_31, b30_34, b30_35, b30_38, b30_39, b30_41, b30_44, b30_45, b30_46, b30_49, b30_50, b30_51, b30_53, b30_56, b30_57, b30_59, b30_62, b30_63, b30_66, b30_67, b30_68, b30_71, b30_72, b30_75, b30_76, List.getElem?_cons_zero, List.getElem?_cons_succ, List.length_cons, List.length_nil, List.set_cons_zero, List.set_cons_succ, true_and, and_true, Option.toList_some, Option.toList_none, List.cons_append, List.nil_append, ↓reduceIte, not_false_eq_true, not_true_eq_false, Nat.reduceAdd, xj0_01, xj1_01, xb_B, xb_True, xb_False, ↓xj_in, xj_nat, Int.toNat_natCast, xj_lt_t, xj_lt_f, xj_le_t, xj_le_f, xj_eq_t, xj_eq_f, xj_lt, xj_le, xj_eq, xj_add, xj_sub, xj_mul, show ¬ xj 1 = xj 0 from by decide]
          exact po _
        · have hl : gLine T n p A = gClkL T n p A := by unfold gLine; rw [if_neg (by omega), if_neg (by omega), if_pos e]
          by_cases cf : A 3 = 4
          · have hl2 : gClkL T n p A = .inl (1 + 8 * p + 4) := by unfold gClkL; rw [if_pos cf]
            have po := fail4 (hg.trans (hl.trans hl2))
            rw [e]
            have fu := fun K' => s_full_y (D := D - 1) (K := K') (w := w) (z := 1) (by omega) ho (by omega) (by omega) (by omega) (Or.inl ⟨rfl, by omega⟩)
            simp (disch := omega) only [b30_17, b30_18, b30_20, b30_23, b30_24, b30_25, b30_28, b30_29, b30_31, b30_34, b30_35, b30_38, b30_39, b30_41, b30_44, b30_45, b30_46, b30_49, b30_50, b30_51, b30_53, b30_56, b30_57, b30_59, b30_62, b30_63, b30_66, b30_67, b30_68, b30_71, b30_72, b30_75, b30_76, b30_79, b30_80, b30_81, b30_84, List.getElem?_cons_zero, List.getElem?_cons_succ, List.length_cons, List.length_nil, List.set_cons_zero, List.set_cons_succ, true_and, and_true, Option.toList_some, Option.toList_none, List.cons_append, List.nil_append, ↓reduceIte, not_false_eq_true, not_true_eq_false, Nat.reduceAdd, xj0_01, xj1_01, xb_B, xb_True, xb_False, rc_Off ho, fu, ↓xj_in, xj_nat, Int.toNat_natCast, xj_lt_t, xj_lt_f, xj_le_t, xj_le_f, xj_eq_t, xj_eq_f, xj_lt, xj_le, xj_eq, xj_add, xj_sub, xj_mul, show ¬ xj 1 = xj 0 from by decide]
            exact po _
          · rw [hg, hl] at hpost
            rw [e]
            have fu := fun K' => s_full_n (D := D - 1) (K := K') (w := w) (z := 1) (by omega) ho (by omega) (by omega) (by omega) (by omega) (by omega) (by omega) (by omega) (by omega)
            simp (disch := omega) only [b30_17, b30_18, b30_20, b30_23, b30_24, b30_25, b30_28, b30_29, b30_31, b30_34, b30_35, b30_38, b30_39, b30_41, b30_44, b30_45, b30_46, b30_49, b30_50, b30_51, b30_53, b30_56, b30_57, b30_59, b30_62, b30_63, b30_66, b30_67, b30_68, b30_71, b30_72, b30_75, b30_76, b30_79, b30_80, b30_81, b30_84, b30_93, List.getElem?_cons_zero, List.getElem?_cons_succ, List.length_cons, List.length_nil, List.set_cons_zero, List.set_cons_succ, true_and, and_true, Option.toList_some, Option.toList_none, List.cons_append, List.nil_append, ↓reduceIte, not_false_eq_true, not_true_eq_false, Nat.reduceAdd, xj0_01, xj1_01, xb_B, xb_True, xb_False, rc_Off ho, fu, ↓xj_in, xj_nat, Int.toNat_natCast, xj_lt_t, xj_lt_f, xj_le_t, xj_le_f, xj_eq_t, xj_eq_f, xj_lt, xj_le, xj_eq, xj_add, xj_sub, xj_mul, show ¬ xj 1 = xj 0 from by decide]
            rw [b30_94, rc_T h, true_and]
            refine stp _ (fun f1 e1 h1 => ?_)
            have ho1 : xv_Off f1 o O := xv_Off_fr ho (fun x q1 q2 => e1 x (by omega))
            simp (disch := omega) only [b30_97, b30_98, b30_148, b30_149, List.getElem?_cons_zero, List.getElem?_cons_succ, List.length_cons, List.length_nil, List.set_cons_zero, List.set_cons_succ, true_and, and_true, Option.toList_some, Option.toList_none, List.cons_append, List.nil_append, ↓reduceIte, not_false_eq_true, not_true_eq_false, Nat.reduceAdd, xj0_01, xj1_01, xb_B, xb_True, xb_False, ↓xj_in, xj_nat, Int.toNat_natCast, xj_lt_t, xj_lt_f, xj_le_t, xj_le_f, xj_eq_t, xj_eq_f, xj_lt, xj_le, xj_eq, xj_add, xj_sub, xj_mul, show ¬ xj 1 = xj 0 from by decide]
            rw [b30_150, rc_Off ho1, true_and]
            refine c_clerk (by omega) hot h1 ho1 hz hdr cf (by omega) (fun f2 p2 fa2 O2 fr2 h2 o2 zz r2 => ?_)
            have po := hpost f2 p2 fa2 O2 (frO2_t (frO2_x e1) fr2) h2 o2 zz r2
            simp (disch := omega) only [b30_153, b30_177, List.getElem?_cons_zero, List.getElem?_cons_succ, List.length_cons, List.length_nil, List.set_cons_zero, List.set_cons_succ, true_and, and_true, Option.toList_some, Option.toList_none, List.cons_append, List.nil_append, ↓reduceIte, not_false_eq_true, not_true_eq_false, Nat.reduceAdd, xj0_01, xj1_01, xb_B, xb_True, xb_False]
            exact po
        · have hl : gLine T n p A = gAwyL T n p A := by unfold gLine; rw [if_neg (by omega), if_neg (by omega), if_neg (by omega), if_pos e]
          by_cases cf : A 4 = 6
          · have hl2 : gAwyL T n p A = .inl (1 + 8 * p + 4) := by unfold gAwyL; rw [if_pos cf]
            have po := fail4 (hg.trans (hl.trans hl2))
            rw [e]
            have fu := fun K' => s_full_y (D := D - 1) (K := K') (w := w) (z := 14) (by omega) ho (by omega) (by omega) (by omega) (Or.inr (Or.inl ⟨rfl, by omega⟩))
            simp (disch := omega) only [b30_17, b30_18, b30_20, b30_23, b30_24, b30_25, b30_28, b30_29, b30_31, b30_34, b30_35, b30_38, b30_39, b30_41, b30_44, b30_45, b30_46, b30_49, b30_50, b30_51, b30_53, b30_56, b30_57, b30_59, b30_62, b30_63, b30_66, b30_67, b30_68, b30_71, b30_72, b30_75, b30_76, b30_79, b30_80, b30_81, b30_84, List.getElem?_cons_zero, List.getElem?_cons_succ, List.length_cons, List.length_nil, List.set_cons_zero, List.set_cons_succ, true_and, and_true, Option.toList_some, Option.toList_none, List.cons_append, List.nil_append, ↓reduceIte, not_false_eq_true, not_true_eq_false, Nat.reduceAdd, xj0_01, xj1_01, xb_B, xb_True, xb_False, rc_Off ho, fu, ↓xj_in, xj_nat, Int.toNat_natCast, xj_lt_t, xj_lt_f, xj_le_t, xj_le_f, xj_eq_t, xj_eq_f, xj_lt, xj_le, xj_eq, xj_add, xj_sub, xj_mul, show ¬ xj 1 = xj 0 from by decide]
            exact po _
          · rw [hg, hl] at hpost
            rw [e]
            have fu := fun K' => s_full_n (D := D - 1) (K := K') (w := w) (z := 14) (by omega) ho (by omega) (by omega) (by omega) (by omega) (by omega) (by omega) (by omega) (by omega)
            simp (disch := omega) only [b30_17, b30_18, b30_20, b30_23, b30_24, b30_25, b30_28, b30_29, b30_31, b30_34, b30_35, b30_38, b30_39, b30_41, b30_44, b30_45, b30_46, b30_49, b30_50, b30_51, b30_53, b30_56, b30_57, b30_59, b30_62, b30_63, b30_66, b30_67, b30_68, b30_71, b30_72, b30_75, b30_76, b30_79, b30_80, b30_81, b30_84, b30_93, List.getElem?_cons_zero, List.getElem?_cons_succ, List.length_cons, List.length_nil, List.set_cons_zero, List.set_cons_succ, true_and, and_true, Option.toList_some, Option.toList_none, List.cons_append, List.nil_append, ↓reduceIte, not_false_eq_true, not_true_eq_false, Nat.reduceAdd, xj0_01, xj1_01, xb_B, xb_True, xb_False, rc_Off ho, fu, ↓xj_in, xj_nat, Int.toNat_natCast, xj_lt_t, xj_lt_f, xj_le_t, xj_le_f, xj_eq_t, xj_eq_f, xj_lt, xj_le, xj_eq, xj_add, xj_sub, xj_mul, show ¬ xj 1 = xj 0 from by decide]
            rw [b30_94, rc_T h, true_and]
            refine stp _ (fun f1 e1 h1 => ?_)
            have ho1 : xv_Off f1 o O := xv_Off_fr ho (fun x q1 q2 => e1 x (by omega))
            simp (disch := omega) only [b30_97, b30_98, b30_156, b30_157, List.getElem?_cons_zero, List.getElem?_cons_succ, List.length_cons, List.length_nil, List.set_cons_zero, List.set_cons_succ, true_and, and_true, Option.toList_some, Option.toList_none, List.cons_append, List.nil_append, ↓reduceIte, not_false_eq_true, not_true_eq_false, Nat.reduceAdd, xj0_01, xj1_01, xb_B, xb_True, xb_False, ↓xj_in, xj_nat, Int.toNat_natCast, xj_lt_t, xj_lt_f, xj_le_t, xj_le_f, xj_eq_t, xj_eq_f, xj_lt, xj_le, xj_eq, xj_add, xj_sub, xj_mul, show ¬ xj 1 = xj 0 from by decide]
            rw [b30_158, rc_Off ho1, true_and]
            refine c_away (by omega) hot h1 ho1 hz hdr cf (by omega) (by omega) (fun f2 p2 fa2 O2 fr2 h2 o2 zz r2 => ?_)
            have po := hpost f2 p2 fa2 O2 (frO2_t (frO2_x e1) fr2) h2 o2 zz r2
            simp (disch := omega) only [b30_161, b30_177, List.getElem?_cons_zero, List.getElem?_cons_succ, List.length_cons, List.length_nil, List.set_cons_zero, List.set_cons_succ, true_and, and_true, Option.toList_some, Option.toList_none, List.cons_append, List.nil_append, ↓reduceIte, not_false_eq_true, not_true_eq_false, Nat.reduceAdd, xj0_01, xj1_01, xb_B, xb_True, xb_False]
            exact po
        · have hl : gLine T n p A = gPapL T n p A := by unfold gLine; rw [if_neg (by omega), if_neg (by omega), if_neg (by omega), if_neg (by omega), if_pos e]
          by_cases cf : A 5 = 6
          · have hl2 : gPapL T n p A = .inl (1 + 8 * p + 4) := by unfold gPapL; rw [if_pos cf]
            have po := fail4 (hg.trans (hl.trans hl2))
            rw [e]
            have fu := fun K' => s_full_y (D := D - 1) (K := K') (w := w) (z := 0) (by omega) ho (by omega) (by omega) (by omega) (Or.inr (Or.inr ⟨rfl, by omega⟩))
            simp (disch := omega) only [b30_17, b30_18, b30_20, b30_23, b30_24, b30_25, b30_28, b30_29, b30_31, b30_34, b30_35, b30_38, b30_39, b30_41, b30_44, b30_45, b30_46, b30_49, b30_50, b30_51, b30_53, b30_56, b30_57, b30_59, b30_62, b30_63, b30_66, b30_67, b30_68, b30_71, b30_72, b30_75, b30_76, b30_79, b30_80, b30_81, b30_84, List.getElem?_cons_zero, List.getElem?_cons_succ, List.length_cons, List.length_nil, List.set_cons_zero, List.set_cons_succ, true_and, and_true, Option.toList_some, Option.toList_none, List.cons_append, List.nil_append, ↓reduceIte, not_false_eq_true, not_true_eq_false, Nat.reduceAdd, xj0_01, xj1_01, xb_B, xb_True, xb_False, rc_Off ho, fu, ↓xj_in, xj_nat, Int.toNat_natCast, xj_lt_t, xj_lt_f, xj_le_t, xj_le_f, xj_eq_t, xj_eq_f, xj_lt, xj_le, xj_eq, xj_add, xj_sub, xj_mul, show ¬ xj 1 = xj 0 from by decide]
            exact po _
          · rw [hg, hl] at hpost
            rw [e]
            have fu := fun K' => s_full_n (D := D - 1) (K := K') (w := w) (z := 0) (by omega) ho (by omega) (by omega) (by omega) (by omega) (by omega) (by omega) (by omega) (by omega)
            simp (disch := omega) only [b30_17, b30_18, b30_20, b30_23, b30_24, b30_25, b30_28, b30_29, b30_31, b30_34, b30_35, b30_38, b30_39, b30_41, b30_44, b30_45, b30_46, b30_49, b30_50, b30_51, b30_53, b30_56, b30_57, b30_59, b30_62, b30_63, b30_66, b30_67, b30_68, b30_71, b30_72, b30_75, b30_76, b30_79, b30_80, b30_81, b30_84, b30_93, List.getElem?_cons_zero, List.getElem?_cons_succ, List.length_cons, List.length_nil, List.set_cons_zero, List.set_cons_succ, true_and, and_true, Option.toList_some, Option.toList_none, List.cons_append, List.nil_append, ↓reduceIte, not_false_eq_true, not_true_eq_false, Nat.reduceAdd, xj0_01, xj1_01, xb_B, xb_True, xb_False, rc_Off ho, fu, ↓xj_in, xj_nat, Int.toNat_natCast, xj_lt_t, xj_lt_f, xj_le_t, xj_le_f, xj_eq_t, xj_eq_f, xj_lt, xj_le, xj_eq, xj_add, xj_sub, xj_mul, show ¬ xj 1 = xj 0 from by decide]
            rw [b30_94, rc_T h, true_and]
            refine stp _ (fun f1 e1 h1 => ?_)
            have ho1 : xv_Off f1 o O := xv_Off_fr ho (fun x q1 q2 => e1 x (by omega))
            simp (disch := omega) only [b30_97, b30_98, b30_164, b30_165, List.getElem?_cons_zero, List.getElem?_cons_succ, List.length_cons, List.length_nil, List.set_cons_zero, List.set_cons_succ, true_and, and_true, Option.toList_some, Option.toList_none, List.cons_append, List.nil_append, ↓reduceIte, not_false_eq_true, not_true_eq_false, Nat.reduceAdd, xj0_01, xj1_01, xb_B, xb_True, xb_False, ↓xj_in, xj_nat, Int.toNat_natCast, xj_lt_t, xj_lt_f, xj_le_t, xj_le_f, xj_eq_t, xj_eq_f, xj_lt, xj_le, xj_eq, xj_add, xj_sub, xj_mul, show ¬ xj 1 = xj 0 from by decide]
            rw [b30_166, rc_Off ho1, true_and]
            refine c_paper (by omega) hot h1 ho1 hz hdr cf (by omega) (by omega) (by omega) (fun f2 p2 fa2 O2 fr2 h2 o2 zz r2 => ?_)
            have po := hpost f2 p2 fa2 O2 (frO2_t (frO2_x e1) fr2) h2 o2 zz r2
            simp (disch := omega) only [b30_169, b30_177, List.getElem?_cons_zero, List.getElem?_cons_succ, List.length_cons, List.length_nil, List.set_cons_zero, List.set_cons_succ, true_and, and_true, Option.toList_some, Option.toList_none, List.cons_append, List.nil_append, ↓reduceIte, not_false_eq_true, not_true_eq_false, Nat.reduceAdd, xj0_01, xj1_01, xb_B, xb_True, xb_False]
            exact po
        · have hl : gLine T n p A = gRstL T n p A := by unfold gLine; rw [if_neg (by omega), if_neg (by omega), if_neg (by omega), if_neg (by omega), if_neg (by omega)]
          rw [hg, hl] at hpost
          rw [e]
          have fu := fun K' => s_full_n (D := D - 1) (K := K') (w := w) (z := 15) (by omega) ho (by omega) (by omega) (by omega) (by omega) (by omega) (by omega) (by omega) (by omega)
          simp (disch := omega) only [b30_17, b30_18, b30_20, b30_23, b30_24, b30_25, b30_28, b30_29, b30_31, b30_34, b30_35, b30_38, b30_39, b30_41, b30_44, b30_45, b30_46, b30_49, b30_50, b30_51, b30_53, b30_56, b30_57, b30_59, b30_62, b30_63, b30_66, b30_67, b30_68, b30_71, b30_72, b30_75, b30_76, b30_79, b30_80, b30_81, b30_84, b30_93, List.getElem?_cons_zero, List.getElem?_cons_succ, List.length_cons, List.length_nil, List.set_cons_zero, List.set_cons_succ, true_and, and_true, Option.toList_some, Option.toList_none, List.cons_append, List.nil_append, ↓reduceIte, not_false_eq_true, not_true_eq_false, Nat.reduceAdd, xj0_01, xj1_01, xb_B, xb_True, xb_False, rc_Off ho, fu, ↓xj_in, xj_nat, Int.toNat_natCast, xj_lt_t, xj_lt_f, xj_le_t, xj_le_f, xj_eq_t, xj_eq_f, xj_lt, xj_le, xj_eq, xj_add, xj_sub, xj_mul, show ¬ xj 1 = xj 0 from by decide]
          rw [b30_94, rc_T h, true_and]
          refine stp _ (fun f1 e1 h1 => ?_)
          have ho1 : xv_Off f1 o O := xv_Off_fr ho (fun x q1 q2 => e1 x (by omega))
          simp (disch := omega) only [b30_97, b30_98, b30_172, b30_173, List.getElem?_cons_zero, List.getElem?_cons_succ, List.length_cons, List.length_nil, List.set_cons_zero, List.set_cons_succ, true_and, and_true, Option.toList_some, Option.toList_none, List.cons_append, List.nil_append, ↓reduceIte, not_false_eq_true, not_true_eq_false, Nat.reduceAdd, xj0_01, xj1_01, xb_B, xb_True, xb_False, ↓xj_in, xj_nat, Int.toNat_natCast, xj_lt_t, xj_lt_f, xj_le_t, xj_le_f, xj_eq_t, xj_eq_f, xj_lt, xj_le, xj_eq, xj_add, xj_sub, xj_mul, show ¬ xj 1 = xj 0 from by decide]
          rw [b30_174, rc_Off ho1, true_and]
          refine c_rests (by omega) hot h1 ho1 hz hdr (zW_re hzw) (by omega) (by omega) (by omega) (fun f2 p2 fa2 O2 fr2 h2 o2 zz r2 => ?_)
          have po := hpost f2 p2 fa2 O2 (frO2_t (frO2_x e1) fr2) h2 o2 zz r2
          simp (disch := omega) only [b30_177, List.getElem?_cons_zero, List.getElem?_cons_succ, List.length_cons, List.length_nil, List.set_cons_zero, List.set_cons_succ, true_and, and_true, Option.toList_some, Option.toList_none, List.cons_append, List.nil_append, ↓reduceIte, not_false_eq_true, not_true_eq_false, Nat.reduceAdd, xj0_01, xj1_01, xb_B, xb_True, xb_False]
          exact po
  · have hg : gOC T n k p A = .inl (1 + 8 * p) := by unfold gOC; rw [if_neg cw]
    have po : xk_B (D - 1) 30 44 [.ref o, .ref t, .int (xj (k : Nat)), .int (xj (wdA T n p))] [] (f, w) K := by
      simp (disch := omega) only [b30_44, b30_45, List.getElem?_cons_zero, List.getElem?_cons_succ, List.length_cons, List.length_nil, List.set_cons_zero, List.set_cons_succ, true_and, and_true, Option.toList_some, Option.toList_none, List.cons_append, List.nil_append, ↓reduceIte, not_false_eq_true, not_true_eq_false, Nat.reduceAdd, xj0_01, xj1_01, xb_B, xb_True, xb_False]
      rw [b30_46, rc_T h, true_and]
      refine u_fail (k := 0) (by omega) h (by omega) (fun f1 e1 h1 => ?_)
      rw [if_pos rfl] at h1
      have po := hpost f1 p (1 + 8 * p + 0) O (frO2_x e1) h1 (xv_Off_fr ho (fun x q1 q2 => e1 x (by omega))) hz (Or.inr ⟨by omega, hg⟩)
      simp (disch := omega) only [b30_49, List.getElem?_cons_zero, List.getElem?_cons_succ, List.length_cons, List.length_nil, List.set_cons_zero, List.set_cons_succ, true_and, and_true, Option.toList_some, Option.toList_none, List.cons_append, List.nil_append, ↓reduceIte, not_false_eq_true, not_true_eq_false, Nat.reduceAdd, xj0_01, xj1_01, xb_B, xb_True, xb_False]
      exact po
    simp (disch := omega) only [b30_17, b30_18, b30_20, b30_23, b30_24, b30_25, b30_28, b30_29, b30_31, b30_34, b30_35, b30_38, b30_39, b30_41, List.getElem?_cons_zero, List.getElem?_cons_succ, List.length_cons, List.length_nil, List.set_cons_zero, List.set_cons_succ, true_and, and_true, Option.toList_some, Option.toList_none, List.cons_append, List.nil_append, ↓reduceIte, not_false_eq_true, not_true_eq_false, Nat.reduceAdd, xj0_01, xj1_01, xb_B, xb_True, xb_False, ↓xj_in, xj_nat, Int.toNat_natCast, xj_lt_t, xj_lt_f, xj_le_t, xj_le_f, xj_eq_t, xj_eq_f, xj_lt, xj_le, xj_eq, xj_add, xj_sub, xj_mul, show ¬ xj 1 = xj 0 from by decide]
    exact po
end XS9a07
