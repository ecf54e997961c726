/-! the pen: orders, look -/
def tzP (np : Nat) (g : Nat → Int) : Prop := ∀ i, (∀ k p, k < np → p < np → i ≠ k * 6 + p) → g i = 0
theorem tl_Z {np : Nat} {row g : Nat → Int} (hr : ∀ i, i < np → 0 ≤ row i ∧ row i < np) (hg : tzP np g) : ∀ n, n ≤ np → tzP np (tlF row g n) := by
  intro n
  induction n with
  | zero => intro _; exact hg
  | succ n ih =>
    intro hn i hi
    unfold tlF
    have := hr n (by omega)
    rw [upI_v, if_neg (hi n (row n).toNat (by omega) (by omega))]
    exact ih (by omega) i hi
theorem ord_Z {O : Of} {L : Lg} : ∀ (n k u : Nat) (row : Nat → Int) (t : Ot), k + n = of_np O → (∀ i, i < k → 0 ≤ row i ∧ row i < of_np O) → tzP (of_np O) t.2.2 → tzP (of_np O) (ordG (of_np O) (wOr O L) n k u row t).2.2 := by
  intro n
  induction n with
  | zero =>
    intro k u row t hk hr ht
    show tzP (of_np O) (wOr O L row t).2.2
    unfold wOr
    split
    · exact tl_Z (fun i hi => hr i (by omega)) ht _ (Nat.le_refl _)
    · exact ht
  | succ n ih =>
    intro k u row t hk hr ht
    refine itF_rel (T := fun (t : Ot) (_ : Unit) => tzP (of_np O) t.2.2) (h := fun b _ => b) (of_np O) (fun p hp a b ha => ?_) t () ht
    by_cases c : u.testBit p = true
    · rw [if_pos c]; exact ha
    · rw [if_neg c]
      refine ih _ _ _ _ (by omega) (fun i hi => ?_) ha
      by_cases e : i = k
      · subst e; rw [up_e]; omega
      · rw [up_n e]; exact hr i (by omega)
theorem ordF_Z (O : Of) (L : Lg) : tzP (of_np O) (ordF O L).2.2 := ord_Z (of_np O) 0 0 row0 ot0 (by omega) (fun i hi => by omega) (fun _ _ => rfl)
theorem tz_36 {np : Nat} {g : Nat → Int} (hn : np ≤ 6) (h : tzP np g) (i : Nat) (hi : 36 ≤ i) : g i = 0 := h i (fun k p hk hp => by omega)
theorem tz_p {np : Nat} {g : Nat → Int} (hn : np ≤ 6) (h : tzP np g) {k p : Nat} (hp : np ≤ p) (hp6 : p < 6) : g (k * 6 + p) = 0 := h _ (fun k' p' hk' hp' => by omega)
theorem pa_6 {np : Nat} {g : Nat → Int} (hn : np ≤ 6) (h : tzP np g) (k : Nat) : paF g k 6 = paF g k np := by
  unfold paF
  apply Nat.eq_of_testBit_eq
  intro i
  rw [msk_bit, msk_bit]
  by_cases c : i < np
  · rw [decide_eq_true c, decide_eq_true (show i < 6 by omega)]
  · rw [decide_eq_false c, Bool.false_and]
    by_cases c2 : i < 6
    · rw [tz_p hn h (by omega) c2]; simp
    · rw [decide_eq_false c2, Bool.false_and]
theorem ma_6 {np : Nat} {g : Nat → Int} (hn : np ≤ 6) (h : tzP np g) (hg : ∀ i, 0 ≤ g i) (k : Nat) : maF g k 6 = maF g k np := by
  have h0 : ∀ n, 0 ≤ maF g k n := by
    intro n
    induction n with
    | zero => exact Int.le_refl _
    | succ n ih => unfold maF; have := hg (k * 6 + n); split <;> omega
  have st : ∀ m, np + m ≤ 6 → maF g k (np + m) = maF g k np := by
    intro m
    induction m with
    | zero => intro _; rfl
    | succ m ih =>
      intro hm
      have e : maF g k (np + m + 1) = if maF g k (np + m) < g (k * 6 + (np + m)) then g (k * 6 + (np + m)) else maF g k (np + m) := rfl
      have := h0 (np + m)
      rw [show np + (m + 1) = np + m + 1 from rfl, e, tz_p hn h (by omega) (by omega), if_neg (by omega)]
      exact ih (by omega)
  have := st (6 - np) (by omega)
  rwa [show np + (6 - np) = 6 by omega] at this
def ordZ (O : Of) (L : Lg) (y : Int) : Int := if of_told O = 1 ∧ 0 ≤ y ∧ y ≤ 12 then ordAns O (ordF O L) (of_np O) y else -3
def lookZ (O : Of) (L : Lg) (y : Int) : Int := if of_told O = 1 ∧ 0 ≤ y ∧ y ≤ 1 then lookAns O (ordF O L) (of_np O) y else -1
section XS9b13
variable {D a b o k p q n nr r t c v fa s m : Nat} {f f' : Nat → xk_C} {w : Nat × Nat × Nat} {K : Option Value → xk_S → Prop} {x y z : Int} {T : Nat → Int} {ru : Nat → Ru} {S : Dk} {H : Hi} {im : Nat → Int} {I : Nat → Dk} {d d1 : Dy} {V : Value → Prop} {tt : Ot} {row : Nat → Int}
theorem gor_0 (h : xv_Or f a tt row) : xk_GF f a 5 0 V ↔ V (.int (xj (tt.1 : Nat))) := gf_R h.1 rfl
theorem gor_1 (h : xv_Or f a tt row) : xk_GF f a 5 1 V ↔ V (.ref (a + 1)) := gf_R h.1 rfl
theorem p_find (hD : 13 ≤ D) (h : xv_Pen f a n nr T ru S H im I) (hw : PW S) (hpost : ∀ f' tt row, (∀ x, (x < a + 108 ∨ a + 112 ≤ x) → f' x = f x) → xv_Pen f' a n nr T ru S H im I → xv_Or f' (a + 108) tt row → otOK 50000 tt → otE (of_np S.1) tt (ordF S.1 S.2.2.1) → K none (f', w)) : xk_Cl D 47 [.ref (a + 108), .ref (a + 22 + 1), .ref (a + 22 + 13)] (f, w) K := by
  obtain ⟨⟨w1, w2, w3, w4, w5, w6, w7, w8⟩, hvs, hvl⟩ := hw
  obtain ⟨p0, p1, p2, p3, p4, p5, p6, p7, p8, p9, p10, ⟨t0, row0', o1, o2, o3, o4, o5⟩⟩ := h
  have p5 : xv_Dk f (a + 22) S := p5
  refine u_find hD p5.2.1 w1 p5.2.2.2 w5 o1 o2 o3 o4 o5 (by omega) (by omega) (fun f1 t1 row1 v1 e1 g1 g2 g3 g4 g5 => ?_)
  have z5 : ∀ i, 36 ≤ i → t1.2.2 i = 0 := fun i hi => by rw [g5.2.2]; exact tz_36 w1.2.2.2.1 (ordF_Z _ _) i hi
  exact hpost f1 t1 row1 (fun x hx => e1 x (by omega)) ⟨P0_fr p0 (fun x q => e1 x (by omega)), P1_fr p1 (fun x q => e1 x (by omega)), P2_fr p2 (fun x q => e1 x (by omega)), P3_fr p3 (fun x q => e1 x (by omega)), P4_fr p4 (fun x q => e1 x (by omega)), P5_fr p5 (fun x q => e1 x (by omega)), P6_fr p6 (fun x q => e1 x (by omega)), P7_fr p7 (fun x q => e1 x (by omega)), P8_fr p8 (fun x q => e1 x (by omega)), P9_fr p9 (fun x q => e1 x (by omega)), P10_fr p10 (fun x q => e1 x (by omega)), ⟨t1, row1, v1, g1, g2, g3, z5⟩⟩ v1 g4 g5
theorem p_orders (hD : 14 ≤ D) (h : xv_Pen f a n nr T ru S H im I) (hw : PW S) (y1 : -2147483648 ≤ y) (y2 : y ≤ 2147483647) (hpost : ∀ f', (∀ x, (x < a ∨ a + 204 ≤ x) → f' x = f x) → xv_Pen f' a n nr T ru S H im I → K (some (.int (xj (ordZ S.1 S.2.2.1 y)))) (f', w)) : xk_Cl D 128 [.ref a, .int (xj y)] (f, w) K := by
  rw [e128 (by omega)]
  have hw' := hw
  obtain ⟨⟨w1, w2, w3, w4, w5, w6, w7, w8⟩, hvs, hvl⟩ := hw
  have hn := w1.2.2.2.1
  have p0 := h.1
  have p5 : xv_Dk f (a + 22) S := h.2.2.2.2.2.1
  have ho := p5.2.1
  have no : ¬ (of_told S.1 = 1 ∧ 0 ≤ y ∧ y ≤ 12) → K (some (.int (xj (-3)))) (f, w) := fun hz => by
    have po := hpost f (fun _ _ => rfl) h
    unfold ordZ at po
    rw [if_neg hz] at po
    exact po
  by_cases c1 : 0 ≤ y
  · by_cases c2 : y ≤ 12
    · by_cases c3 : of_told S.1 = 1
      · have ey : ordZ S.1 S.2.2.1 y = ordAns S.1 (ordF S.1 S.2.2.1) (of_np S.1) y := by unfold ordZ; rw [if_pos ⟨c3, c1, c2⟩]
        rw [ey] at hpost
        have hT := ordF_OK (L := S.2.2.1) w1
        have hZ := ordF_Z S.1 S.2.2.1
        simp (disch := omega) only [b128_0, b128_1, b128_4, b128_5, b128_7, b128_10, b128_11, b128_14, b128_17, b128_20, b128_23, b128_25, b128_26, b128_27, b128_30, b128_31, b128_34, b128_37, b128_38, b128_41, List.getElem?_cons_zero, List.getElem?_cons_succ, List.length_cons, List.length_nil, List.set_cons_zero, List.set_cons_succ, true_and, and_true, Option.toList_some, Option.toList_none, List.cons_append, List.nil_append, ↓reduceIte, not_false_eq_true, not_true_eq_false, Nat.reduceAdd, xj0_01, xj1_01, xb_B, xb_True, xb_False, ↓go_0 ho, ↓go_1 ho, ↓go_2 ho, ↓go_3 ho, ↓go_4 ho, ↓go_5 ho, ↓go_6 ho, ↓go_7 ho, ↓go_8 ho, ↓go_9 ho, ↓go_10 ho, ↓go_11 ho, ↓go_12 ho, ↓go_13 ho, ↓go_14 ho, ↓go_15 ho, ↓ao_1 ho, ↓ao_2 ho, ↓ao_3 ho, ↓ao_4 ho, ↓ao_5 ho, ↓ao_6 ho, ↓ao_7 ho, ↓ao_8 ho, ↓ao_9 ho, ↓gpn_7 p0, ↓gpn_14 p0, ↓gk_0 p5.1, ↓gk_2 p5.1, c3, ↓xj_in, xj_nat, Int.toNat_natCast, xj_lt_t, xj_lt_f, xj_le_t, xj_le_f, xj_eq_t, xj_eq_f, xj_lt, xj_le, xj_eq, xj_add, xj_sub, xj_mul, show ¬ xj 1 = xj 0 from by decide]
        obtain ⟨t0, row0', o1, _⟩ := h.2.2.2.2.2.2.2.2.2.2.2
        rw [b128_44, rc_R o1.1, true_and]
        refine p_find (by omega) h hw' (fun f1 t1 row1 e1 h1 v1 k1 b1 => ?_)
        have po := hpost f1 (fun x hx => e1 x (by omega)) h1
        generalize ordF S.1 S.2.2.1 = tr at *
        obtain ⟨b1a, b1b, b1c⟩ := b1
        have r0 := h1.1
        have r5 : xv_Dk f1 (a + 22) S := h1.2.2.2.2.2.1
        have ho1 := r5.2.1
        have t1m := k1.1
        by_cases c4 : y = 0
        · subst c4
          rw [show ordAns S.1 tr (of_np S.1) 0 = (tr.1 : Nat) from rfl] at po
          simp (disch := omega) only [b128_47, b128_48, b128_51, b128_52, b128_55, b128_58, List.getElem?_cons_zero, List.getElem?_cons_succ, List.length_cons, List.length_nil, List.set_cons_zero, List.set_cons_succ, true_and, and_true, Option.toList_some, Option.toList_none, List.cons_append, List.nil_append, ↓reduceIte, not_false_eq_true, not_true_eq_false, Nat.reduceAdd, xj0_01, xj1_01, xb_B, xb_True, xb_False, ↓gpn_14 r0, ↓gor_0 v1, b1a, ↓xj_in, xj_nat, Int.toNat_natCast, xj_lt_t, xj_lt_f, xj_le_t, xj_le_f, xj_eq_t, xj_eq_f, xj_lt, xj_le, xj_eq, xj_add, xj_sub, xj_mul, show ¬ xj 1 = xj 0 from by decide]
          exact po
        · unfold ordAns at po
          rw [if_neg c4] at po
          have em : (y - 1) - (y - 1) / 6 * 6 = (y - 1) % 6 := by omega
          have n1 : ¬ xj 6 = 0 := by decide
          simp (disch := omega) only [b128_47, b128_48, b128_51, b128_52, b128_55, b128_58, b128_59, b128_60, b128_61, b128_62, List.getElem?_cons_zero, List.getElem?_cons_succ, List.length_cons, List.length_nil, List.set_cons_zero, List.set_cons_succ, true_and, and_true, Option.toList_some, Option.toList_none, List.cons_append, List.nil_append, ↓reduceIte, not_false_eq_true, not_true_eq_false, Nat.reduceAdd, xj0_01, xj1_01, xb_B, xb_True, xb_False, ↓xj_in, xj_nat, Int.toNat_natCast, xj_lt_t, xj_lt_f, xj_le_t, xj_le_f, xj_eq_t, xj_eq_f, xj_lt, xj_le, xj_eq, xj_add, xj_sub, xj_mul, show ¬ xj 1 = xj 0 from by decide]
          rw [b128_64 n1, xj_div (by omega) (by omega) (by omega) (by omega), xj_mul, xj_sub, em]
          have hm : 0 ≤ (y - 1) % 6 ∧ (y - 1) % 6 < 6 := by omega
          have hmy : y ≤ 6 → (y - 1) % 6 = y - 1 := by omega
          obtain ⟨m, hm2⟩ : ∃ m : Nat, (y - 1) % 6 = m := ⟨((y - 1) % 6).toNat, by omega⟩
          rw [hm2] at po hm hmy ⊢
          rw [Int.toNat_natCast] at po
          by_cases c5 : tr.1 = 0
          · rw [if_pos (Or.inl c5)] at po
            have b0 : t1.1 = 0 := b1a.trans c5
            simp (disch := omega) only [b128_65, b128_66, b128_67, b128_70, b128_73, b128_76, b128_77, b128_78, b128_81, b128_84, b128_87, b128_90, b128_92, List.getElem?_cons_zero, List.getElem?_cons_succ, List.length_cons, List.length_nil, List.set_cons_zero, List.set_cons_succ, true_and, and_true, Option.toList_some, Option.toList_none, List.cons_append, List.nil_append, ↓reduceIte, not_false_eq_true, not_true_eq_false, Nat.reduceAdd, xj0_01, xj1_01, xb_B, xb_True, xb_False, ↓gpn_14 r0, ↓gor_0 v1, b0, ↓xj_in, xj_nat, Int.toNat_natCast, xj_lt_t, xj_lt_f, xj_le_t, xj_le_f, xj_eq_t, xj_eq_f, xj_lt, xj_le, xj_eq, xj_add, xj_sub, xj_mul, show ¬ xj 1 = xj 0 from by decide]
            exact po
          · by_cases c6 : (of_np S.1 : Int) ≤ (m : Nat)
            · rw [if_pos (Or.inr c6)] at po
              simp (disch := omega) only [b128_65, b128_66, b128_67, b128_70, b128_73, b128_76, b128_77, b128_78, b128_81, b128_84, b128_87, b128_90, b128_92, List.getElem?_cons_zero, List.getElem?_cons_succ, List.length_cons, List.length_nil, List.set_cons_zero, List.set_cons_succ, true_and, and_true, Option.toList_some, Option.toList_none, List.cons_append, List.nil_append, ↓reduceIte, not_false_eq_true, not_true_eq_false, Nat.reduceAdd, xj0_01, xj1_01, xb_B, xb_True, xb_False, ↓go_0 ho1, ↓go_1 ho1, ↓go_2 ho1, ↓go_3 ho1, ↓go_4 ho1, ↓go_5 ho1, ↓go_6 ho1, ↓go_7 ho1, ↓go_8 ho1, ↓go_9 ho1, ↓go_10 ho1, ↓go_11 ho1, ↓go_12 ho1, ↓go_13 ho1, ↓go_14 ho1, ↓go_15 ho1, ↓ao_1 ho1, ↓ao_2 ho1, ↓ao_3 ho1, ↓ao_4 ho1, ↓ao_5 ho1, ↓ao_6 ho1, ↓ao_7 ho1, ↓ao_8 ho1, ↓ao_9 ho1, ↓gpn_7 r0, ↓gpn_14 r0, ↓gk_0 r5.1, ↓gor_0 v1, ↓xj_in, xj_nat, Int.toNat_natCast, xj_lt_t, xj_lt_f, xj_le_t, xj_le_f, xj_eq_t, xj_eq_f, xj_lt, xj_le, xj_eq, xj_add, xj_sub, xj_mul, show ¬ xj 1 = xj 0 from by decide]
              exact po
            · rw [if_neg (fun q => q.elim c5 c6)] at po
              by_cases c7 : y < 7
              · rw [if_pos c7, ← b1b (by omega) m (by omega)] at po
                simp (disch := omega) only [b128_65, b128_66, b128_67, b128_70, b128_73, b128_76, b128_77, b128_78, b128_81, b128_84, b128_87, b128_90, b128_92, b128_93, b128_94, b128_96, b128_99, b128_100, b128_103, b128_106, b128_107, b128_108, b128_111, b128_112, b128_115, b128_116, b128_119, List.getElem?_cons_zero, List.getElem?_cons_succ, List.length_cons, List.length_nil, List.set_cons_zero, List.set_cons_succ, true_and, and_true, Option.toList_some, Option.toList_none, List.cons_append, List.nil_append, ↓reduceIte, not_false_eq_true, not_true_eq_false, Nat.reduceAdd, xj0_01, xj1_01, xb_B, xb_True, xb_False, ↓go_0 ho1, ↓go_1 ho1, ↓go_2 ho1, ↓go_3 ho1, ↓go_4 ho1, ↓go_5 ho1, ↓go_6 ho1, ↓go_7 ho1, ↓go_8 ho1, ↓go_9 ho1, ↓go_10 ho1, ↓go_11 ho1, ↓go_12 ho1, ↓go_13 ho1, ↓go_14 ho1, ↓go_15 ho1, ↓ao_1 ho1, ↓ao_2 ho1, ↓ao_3 ho1, ↓ao_4 ho1, ↓ao_5 ho1, ↓ao_6 ho1, ↓ao_7 ho1, ↓ao_8 ho1, ↓ao_9 ho1, ↓gpn_7 r0, ↓gpn_14 r0, ↓gk_0 r5.1, ↓gor_0 v1, ↓gor_1 v1, ↓al_I v1.2.1, Int.toNat_natCast, ↓xj_in, xj_nat, Int.toNat_natCast, xj_lt_t, xj_lt_f, xj_le_t, xj_le_f, xj_eq_t, xj_eq_f, xj_lt, xj_le, xj_eq, xj_add, xj_sub, xj_mul, show ¬ xj 1 = xj 0 from by decide]
                exact po
              · have pa := fun K' => s_papersAt (D := D - 1) (K := K') (w := w) (k := m) (by omega) v1 (by omega) k1
                rw [b1c, pa_6 hn hZ] at pa
                rw [if_neg c7] at po
                simp (disch := omega) only [b128_65, b128_66, b128_67, b128_70, b128_73, b128_76, b128_77, b128_78, b128_81, b128_84, b128_87, b128_90, b128_92, b128_93, b128_94, b128_96, b128_99, b128_100, b128_103, b128_106, b128_107, b128_108, b128_111, b128_112, b128_115, b128_116, b128_119, List.getElem?_cons_zero, List.getElem?_cons_succ, List.length_cons, List.length_nil, List.set_cons_zero, List.set_cons_succ, true_and, and_true, Option.toList_some, Option.toList_none, List.cons_append, List.nil_append, ↓reduceIte, not_false_eq_true, not_true_eq_false, Nat.reduceAdd, xj0_01, xj1_01, xb_B, xb_True, xb_False, ↓go_0 ho1, ↓go_1 ho1, ↓go_2 ho1, ↓go_3 ho1, ↓go_4 ho1, ↓go_5 ho1, ↓go_6 ho1, ↓go_7 ho1, ↓go_8 ho1, ↓go_9 ho1, ↓go_10 ho1, ↓go_11 ho1, ↓go_12 ho1, ↓go_13 ho1, ↓go_14 ho1, ↓go_15 ho1, ↓ao_1 ho1, ↓ao_2 ho1, ↓ao_3 ho1, ↓ao_4 ho1, ↓ao_5 ho1, ↓ao_6 ho1, ↓ao_7 ho1, ↓ao_8 ho1, ↓ao_9 ho1, ↓gpn_7 r0, ↓gpn_14 r0, ↓gk_0 r5.1, ↓gor_0 v1, rc_R v1.1, pa, ↓xj_in, xj_nat, Int.toNat_natCast, xj_lt_t, xj_lt_f, xj_le_t, xj_le_f, xj_eq_t, xj_eq_f, xj_lt, xj_le, xj_eq, xj_add, xj_sub, xj_mul, show ¬ xj 1 = xj 0 from by decide]
                exact po
      · have ht0 := told01 w1 c3
        have po := no (fun q => c3 q.1)
        simp (disch := omega) only [b128_0, b128_1, b128_4, b128_5, b128_7, b128_10, b128_11, b128_14, b128_17, b128_20, b128_23, b128_25, List.getElem?_cons_zero, List.getElem?_cons_succ, List.length_cons, List.length_nil, List.set_cons_zero, List.set_cons_succ, true_and, and_true, Option.toList_some, Option.toList_none, List.cons_append, List.nil_append, ↓reduceIte, not_false_eq_true, not_true_eq_false, Nat.reduceAdd, xj0_01, xj1_01, xb_B, xb_True, xb_False, ↓go_0 ho, ↓go_1 ho, ↓go_2 ho, ↓go_3 ho, ↓go_4 ho, ↓go_5 ho, ↓go_6 ho, ↓go_7 ho, ↓go_8 ho, ↓go_9 ho, ↓go_10 ho, ↓go_11 ho, ↓go_12 ho, ↓go_13 ho, ↓go_14 ho, ↓go_15 ho, ↓ao_1 ho, ↓ao_2 ho, ↓ao_3 ho, ↓ao_4 ho, ↓ao_5 ho, ↓ao_6 ho, ↓ao_7 ho, ↓ao_8 ho, ↓ao_9 ho, ↓gpn_7 p0, ↓gk_0 p5.1, ht0, ↓xj_in, xj_nat, Int.toNat_natCast, xj_lt_t, xj_lt_f, xj_le_t, xj_le_f, xj_eq_t, xj_eq_f, xj_lt, xj_le, xj_eq, xj_add, xj_sub, xj_mul, show ¬ xj 1 = xj 0 from by decide]
        exact po
    · have po := no (fun q => c2 q.2.2)
      simp (disch := omega) only [b128_0, b128_1, b128_4, b128_5, b128_7, b128_10, b128_11, b128_14, b128_17, b128_20, b128_23, b128_25, List.getElem?_cons_zero, List.getElem?_cons_succ, List.length_cons, List.length_nil, List.set_cons_zero, List.set_cons_succ, true_and, and_true, Option.toList_some, Option.toList_none, List.cons_append, List.nil_append, ↓reduceIte, not_false_eq_true, not_true_eq_false, Nat.reduceAdd, xj0_01, xj1_01, xb_B, xb_True, xb_False, ↓xj_in, xj_nat, Int.toNat_natCast, xj_lt_t, xj_lt_f, xj_le_t, xj_le_f, xj_eq_t, xj_eq_f, xj_lt, xj_le, xj_eq, xj_add, xj_sub, xj_mul, show ¬ xj 1 = xj 0 from by decide]
      exact po
  · have po := no (fun q => c1 q.2.1)
    simp (disch := omega) only [b128_0, b128_1, b128_4, b128_5, b128_7, b128_10, b128_11, b128_14, b128_17, b128_20, b128_23, b128_25, List.getElem?_cons_zero, List.getElem?_cons_succ, List.length_cons, List.length_nil, List.set_cons_zero, List.set_cons_succ, true_and, and_true, Option.toList_some, Option.toList_none, List.cons_append, List.nil_append, ↓reduceIte, not_false_eq_true, not_true_eq_false, Nat.reduceAdd, xj0_01, xj1_01, xb_B, xb_True, xb_False, ↓xj_in, xj_nat, Int.toNat_natCast, xj_lt_t, xj_lt_f, xj_le_t, xj_le_f, xj_eq_t, xj_eq_f, xj_lt, xj_le, xj_eq, xj_add, xj_sub, xj_mul, show ¬ xj 1 = xj 0 from by decide]
    exact po
theorem p_look (hD : 14 ≤ D) (h : xv_Pen f a n nr T ru S H im I) (hw : PW S) (y1 : -2147483648 ≤ y) (y2 : y ≤ 2147483647) (hpost : ∀ f', (∀ x, (x < a ∨ a + 204 ≤ x) → f' x = f x) → xv_Pen f' a n nr T ru S H im I → K (some (.int (xj (lookZ S.1 S.2.2.1 y)))) (f', w)) : xk_Cl D 129 [.ref a, .int (xj y)] (f, w) K := by
  rw [e129 (by omega)]
  have hw' := hw
  obtain ⟨⟨w1, w2, w3, w4, w5, w6, w7, w8⟩, hvs, hvl⟩ := hw
  have hn := w1.2.2.2.1
  have p0 := h.1
  have p5 : xv_Dk f (a + 22) S := h.2.2.2.2.2.1
  have ho := p5.2.1
  have no : ¬ (of_told S.1 = 1 ∧ 0 ≤ y ∧ y ≤ 1) → K (some (.int (xj (-1)))) (f, w) := fun hz => by
    have po := hpost f (fun _ _ => rfl) h
    unfold lookZ at po
    rw [if_neg hz] at po
    exact po
  by_cases c1 : 0 ≤ y
  · by_cases c2 : y ≤ 1
    · by_cases c3 : of_told S.1 = 1
      · have ey : lookZ S.1 S.2.2.1 y = lookAns S.1 (ordF S.1 S.2.2.1) (of_np S.1) y := by unfold lookZ; rw [if_pos ⟨c3, c1, c2⟩]
        rw [ey] at hpost
        have hT := ordF_OK (L := S.2.2.1) w1
        have hZ := ordF_Z S.1 S.2.2.1
        simp (disch := omega) only [b129_0, b129_1, b129_4, b129_5, b129_6, b129_9, b129_10, b129_13, b129_16, b129_19, b129_22, b129_23, b129_24, b129_25, b129_28, b129_29, b129_32, b129_35, b129_36, b129_39, List.getElem?_cons_zero, List.getElem?_cons_succ, List.length_cons, List.length_nil, List.set_cons_zero, List.set_cons_succ, true_and, and_true, Option.toList_some, Option.toList_none, List.cons_append, List.nil_append, ↓reduceIte, not_false_eq_true, not_true_eq_false, Nat.reduceAdd, xj0_01, xj1_01, xb_B, xb_True, xb_False, ↓go_0 ho, ↓go_1 ho, ↓go_2 ho, ↓go_3 ho, ↓go_4 ho, ↓go_5 ho, ↓go_6 ho, ↓go_7 ho, ↓go_8 ho, ↓go_9 ho, ↓go_10 ho, ↓go_11 ho, ↓go_12 ho, ↓go_13 ho, ↓go_14 ho, ↓go_15 ho, ↓ao_1 ho, ↓ao_2 ho, ↓ao_3 ho, ↓ao_4 ho, ↓ao_5 ho, ↓ao_6 ho, ↓ao_7 ho, ↓ao_8 ho, ↓ao_9 ho, ↓gpn_7 p0, ↓gpn_14 p0, ↓gk_0 p5.1, ↓gk_2 p5.1, c3, ↓xj_in, xj_nat, Int.toNat_natCast, xj_lt_t, xj_lt_f, xj_le_t, xj_le_f, xj_eq_t, xj_eq_f, xj_lt, xj_le, xj_eq, xj_add, xj_sub, xj_mul, show ¬ xj 1 = xj 0 from by decide]
        obtain ⟨t0, row0', o1, _⟩ := h.2.2.2.2.2.2.2.2.2.2.2
        rw [b129_42, rc_R o1.1, true_and]
        refine p_find (by omega) h hw' (fun f1 t1 row1 e1 h1 v1 k1 b1 => ?_)
        have po := hpost f1 (fun x hx => e1 x (by omega)) h1
        generalize ordF S.1 S.2.2.1 = tr at *
        obtain ⟨b1a, b1b, b1c⟩ := b1
        have r0 := h1.1
        have r5 : xv_Dk f1 (a + 22) S := h1.2.2.2.2.2.1
        have ho1 := r5.2.1
        have t1m := k1.1
        have mo : ∀ (k : Nat), k < 6 → ∀ K', xk_Cl (D - 1) 51 [.ref (a + 108), .int (xj (k : Nat))] (f1, w) K' ↔ K' (some (.int (xj (maF tr.2.2 k (of_np S.1))))) (f1, w) := fun k hk K' => by
          have e := s_mostAlike (D := D - 1) (K := K') (w := w) (k := k) (by omega) v1 hk k1
          rw [b1c, ma_6 hn hZ (fun i => (hT.2 i).1)] at e
          exact e
        have mr : ∀ k, 0 ≤ maF tr.2.2 k (of_np S.1) ∧ maF tr.2.2 k (of_np S.1) ≤ 50000 := fun k => by
          have := maF_rng (k := k) hT.2 (by omega) (of_np S.1)
          have := hT.1
          omega
        have last : ∀ (u v : Int) (l4 l5 : Value), lookAns S.1 tr (of_np S.1) y = (if y = 0 then u else v) → xk_B (D - 1) 129 114 [.ref a, .int (xj y), .int (xj u), .int (xj v), l4, l5] [] (f1, w) K := by
          intro u v l4 l5 e
          rw [e] at po
          by_cases c4 : y = 0
          · rw [if_pos c4] at po
            simp (disch := omega) only [b129_114, b129_115, b129_118, b129_119, b129_122, b129_123, List.getElem?_cons_zero, List.getElem?_cons_succ, List.length_cons, List.length_nil, List.set_cons_zero, List.set_cons_succ, true_and, and_true, Option.toList_some, Option.toList_none, List.cons_append, List.nil_append, ↓reduceIte, not_false_eq_true, not_true_eq_false, Nat.reduceAdd, xj0_01, xj1_01, xb_B, xb_True, xb_False, ↓xj_in, xj_nat, Int.toNat_natCast, xj_lt_t, xj_lt_f, xj_le_t, xj_le_f, xj_eq_t, xj_eq_f, xj_lt, xj_le, xj_eq, xj_add, xj_sub, xj_mul, show ¬ xj 1 = xj 0 from by decide]
            exact po
          · rw [if_neg c4] at po
            simp (disch := omega) only [b129_114, b129_115, b129_118, b129_119, b129_122, b129_123, List.getElem?_cons_zero, List.getElem?_cons_succ, List.length_cons, List.length_nil, List.set_cons_zero, List.set_cons_succ, true_and, and_true, Option.toList_some, Option.toList_none, List.cons_append, List.nil_append, ↓reduceIte, not_false_eq_true, not_true_eq_false, Nat.reduceAdd, xj0_01, xj1_01, xb_B, xb_True, xb_False, ↓xj_in, xj_nat, Int.toNat_natCast, xj_lt_t, xj_lt_f, xj_le_t, xj_le_f, xj_eq_t, xj_eq_f, xj_lt, xj_le, xj_eq, xj_add, xj_sub, xj_mul, show ¬ xj 1 = xj 0 from by decide]
            exact po
        by_cases c0 : of_np S.1 = 0
        · have la := last (-2) (-2) (.int (xj 0)) xk_dd (by unfold lookAns; rw [if_pos (Or.inl c0)]; split <;> rfl)
          simp (disch := omega) only [b129_45, b129_47, b129_48, b129_50, b129_51, b129_52, b129_54, b129_56, b129_57, b129_60, b129_63, b129_66, List.getElem?_cons_zero, List.getElem?_cons_succ, List.length_cons, List.length_nil, List.set_cons_zero, List.set_cons_succ, true_and, and_true, Option.toList_some, Option.toList_none, List.cons_append, List.nil_append, ↓reduceIte, not_false_eq_true, not_true_eq_false, Nat.reduceAdd, xj0_01, xj1_01, xb_B, xb_True, xb_False, ↓go_0 ho1, ↓go_1 ho1, ↓go_2 ho1, ↓go_3 ho1, ↓go_4 ho1, ↓go_5 ho1, ↓go_6 ho1, ↓go_7 ho1, ↓go_8 ho1, ↓go_9 ho1, ↓go_10 ho1, ↓go_11 ho1, ↓go_12 ho1, ↓go_13 ho1, ↓go_14 ho1, ↓go_15 ho1, ↓ao_1 ho1, ↓ao_2 ho1, ↓ao_3 ho1, ↓ao_4 ho1, ↓ao_5 ho1, ↓ao_6 ho1, ↓ao_7 ho1, ↓ao_8 ho1, ↓ao_9 ho1, ↓gpn_7 r0, ↓gk_0 r5.1, c0, ↓xj_in, xj_nat, Int.toNat_natCast, xj_lt_t, xj_lt_f, xj_le_t, xj_le_f, xj_eq_t, xj_eq_f, xj_lt, xj_le, xj_eq, xj_add, xj_sub, xj_mul, show ¬ xj 1 = xj 0 from by decide]
          exact la
        · by_cases c5 : tr.1 = 0
          · have b0 : t1.1 = 0 := b1a.trans c5
            have la := last (-2) (-2) (.int (xj 0)) xk_dd (by unfold lookAns; rw [if_pos (Or.inr c5)]; split <;> rfl)
            simp (disch := omega) only [b129_45, b129_47, b129_48, b129_50, b129_51, b129_52, b129_54, b129_56, b129_57, b129_60, b129_63, b129_66, b129_69, b129_70, b129_73, b129_76, List.getElem?_cons_zero, List.getElem?_cons_succ, List.length_cons, List.length_nil, List.set_cons_zero, List.set_cons_succ, true_and, and_true, Option.toList_some, Option.toList_none, List.cons_append, List.nil_append, ↓reduceIte, not_false_eq_true, not_true_eq_false, Nat.reduceAdd, xj0_01, xj1_01, xb_B, xb_True, xb_False, ↓go_0 ho1, ↓go_1 ho1, ↓go_2 ho1, ↓go_3 ho1, ↓go_4 ho1, ↓go_5 ho1, ↓go_6 ho1, ↓go_7 ho1, ↓go_8 ho1, ↓go_9 ho1, ↓go_10 ho1, ↓go_11 ho1, ↓go_12 ho1, ↓go_13 ho1, ↓go_14 ho1, ↓go_15 ho1, ↓ao_1 ho1, ↓ao_2 ho1, ↓ao_3 ho1, ↓ao_4 ho1, ↓ao_5 ho1, ↓ao_6 ho1, ↓ao_7 ho1, ↓ao_8 ho1, ↓ao_9 ho1, ↓gpn_7 r0, ↓gpn_14 r0, ↓gk_0 r5.1, ↓gor_0 v1, b0, ↓xj_in, xj_nat, Int.toNat_natCast, xj_lt_t, xj_lt_f, xj_le_t, xj_le_f, xj_eq_t, xj_eq_f, xj_lt, xj_le, xj_eq, xj_add, xj_sub, xj_mul, show ¬ xj 1 = xj 0 from by decide]
            exact la
          · have loop : ∀ (m j : Nat) (l5 : Value), j + 1 + m = of_np S.1 → xk_B (D - 1) 129 54 [.ref a, .int (xj y), .int (xj (lkF (fun k => maF tr.2.2 k (of_np S.1)) j : Nat)), .int (xj (maF tr.2.2 (lkF (fun k => maF tr.2.2 k (of_np S.1)) j) (of_np S.1))), .int (xj ((j + 1 : Nat) : Int)), l5] [] (f1, w) K := by
              intro m
              induction m with
              | zero =>
                intro j l5 hj
                have la := last (lkF (fun k => maF tr.2.2 k (of_np S.1)) j : Nat) (maF tr.2.2 (lkF (fun k => maF tr.2.2 k (of_np S.1)) j) (of_np S.1)) (.int (xj ((j + 1 : Nat) : Int))) l5 (by
                  unfold lookAns
                  rw [if_neg (fun q => q.elim c0 c5), show of_np S.1 - 1 = j by omega])
                simp (disch := omega) only [b129_54, b129_56, b129_57, b129_60, b129_63, b129_66, List.getElem?_cons_zero, List.getElem?_cons_succ, List.length_cons, List.length_nil, List.set_cons_zero, List.set_cons_succ, true_and, and_true, Option.toList_some, Option.toList_none, List.cons_append, List.nil_append, ↓reduceIte, not_false_eq_true, not_true_eq_false, Nat.reduceAdd, xj0_01, xj1_01, xb_B, xb_True, xb_False, ↓go_0 ho1, ↓go_1 ho1, ↓go_2 ho1, ↓go_3 ho1, ↓go_4 ho1, ↓go_5 ho1, ↓go_6 ho1, ↓go_7 ho1, ↓go_8 ho1, ↓go_9 ho1, ↓go_10 ho1, ↓go_11 ho1, ↓go_12 ho1, ↓go_13 ho1, ↓go_14 ho1, ↓go_15 ho1, ↓ao_1 ho1, ↓ao_2 ho1, ↓ao_3 ho1, ↓ao_4 ho1, ↓ao_5 ho1, ↓ao_6 ho1, ↓ao_7 ho1, ↓ao_8 ho1, ↓ao_9 ho1, ↓gpn_7 r0, ↓gk_0 r5.1, ↓xj_in, xj_nat, Int.toNat_natCast, xj_lt_t, xj_lt_f, xj_le_t, xj_le_f, xj_eq_t, xj_eq_f, xj_lt, xj_le, xj_eq, xj_add, xj_sub, xj_mul, show ¬ xj 1 = xj 0 from by decide]
                exact la
              | succ m ihm =>
                intro j l5 hj
                have lk := lkF_le (fun k => maF tr.2.2 k (of_np S.1)) j
                have t := ihm (j + 1) (.int (xj (maF tr.2.2 (j + 1) (of_np S.1)))) (by omega)
                have e : lkF (fun k => maF tr.2.2 k (of_np S.1)) (j + 1) = if maF tr.2.2 (j + 1) (of_np S.1) < maF tr.2.2 (lkF (fun k => maF tr.2.2 k (of_np S.1)) j) (of_np S.1) then j + 1 else lkF (fun k => maF tr.2.2 k (of_np S.1)) j := rfl
                have m1 := mr (j + 1)
                have m2 := mr (lkF (fun k => maF tr.2.2 k (of_np S.1)) j)
                have mo1 := mo (j + 1) (by omega)
                rw [e] at t
                rw [b129_54]
                by_cases c8 : maF tr.2.2 (j + 1) (of_np S.1) < maF tr.2.2 (lkF (fun k => maF tr.2.2 k (of_np S.1)) j) (of_np S.1)
                · rw [if_pos c8] at t
                  simp (disch := omega) only [b129_56, b129_57, b129_60, b129_63, b129_66, b129_69, b129_70, b129_73, b129_76, b129_79, b129_80, b129_83, b129_85, b129_88, b129_90, b129_91, b129_93, b129_96, b129_98, b129_99, b129_102, b129_104, b129_105, b129_107, b129_108, b129_111, List.getElem?_cons_zero, List.getElem?_cons_succ, List.length_cons, List.length_nil, List.set_cons_zero, List.set_cons_succ, true_and, and_true, Option.toList_some, Option.toList_none, List.cons_append, List.nil_append, ↓reduceIte, not_false_eq_true, not_true_eq_false, Nat.reduceAdd, xj0_01, xj1_01, xb_B, xb_True, xb_False, ↓go_0 ho1, ↓go_1 ho1, ↓go_2 ho1, ↓go_3 ho1, ↓go_4 ho1, ↓go_5 ho1, ↓go_6 ho1, ↓go_7 ho1, ↓go_8 ho1, ↓go_9 ho1, ↓go_10 ho1, ↓go_11 ho1, ↓go_12 ho1, ↓go_13 ho1, ↓go_14 ho1, ↓go_15 ho1, ↓ao_1 ho1, ↓ao_2 ho1, ↓ao_3 ho1, ↓ao_4 ho1, ↓ao_5 ho1, ↓ao_6 ho1, ↓ao_7 ho1, ↓ao_8 ho1, ↓ao_9 ho1, ↓gpn_7 r0, ↓gpn_14 r0, ↓gk_0 r5.1, ↓gor_0 v1, rc_R v1.1, mo1, ↓xj_in, xj_nat, Int.toNat_natCast, xj_lt_t, xj_lt_f, xj_le_t, xj_le_f, xj_eq_t, xj_eq_f, xj_lt, xj_le, xj_eq, xj_add, xj_sub, xj_mul, show ¬ xj 1 = xj 0 from by decide]
                  exact t
                · rw [if_neg c8] at t
                  simp (disch := omega) only [b129_56, b129_57, b129_60, b129_63, b129_66, b129_69, b129_70, b129_73, b129_76, b129_79, b129_80, b129_83, b129_85, b129_88, b129_90, b129_91, b129_93, b129_96, b129_98, b129_99, b129_102, b129_104, b129_105, b129_107, b129_108, b129_111, List.getElem?_cons_zero, List.getElem?_cons_succ, List.length_cons, List.length_nil, List.set_cons_zero, List.set_cons_succ, true_and, and_true, Option.toList_some, Option.toList_none, List.cons_append, List.nil_append, ↓reduceIte, not_false_eq_true, not_true_eq_false, Nat.reduceAdd, xj0_01, xj1_01, xb_B, xb_True, xb_False, ↓go_0 ho1, ↓go_1 ho1, ↓go_2 ho1, ↓go_3 ho1, ↓go_4 ho1, ↓go_5 ho1, ↓go_6 ho1, ↓go_7 ho1, ↓go_8 ho1, ↓go_9 ho1, ↓go_10 ho1, ↓go_11 ho1, ↓go_12 ho1, ↓go_13 ho1, ↓go_14 ho1, ↓go_15 ho1, ↓ao_1 ho1, ↓ao_2 ho1, ↓ao_3 ho1, ↓ao_4 ho1, ↓ao_5 ho1, ↓ao_6 ho1, ↓ao_7 ho1, ↓ao_8 ho1, ↓ao_9 ho1, ↓gpn_7 r0, ↓gpn_14 r0, ↓gk_0 r5.1, ↓gor_0 v1, rc_R v1.1, mo1, ↓xj_in, xj_nat, Int.toNat_natCast, xj_lt_t, xj_lt_f, xj_le_t, xj_le_f, xj_eq_t, xj_eq_f, xj_lt, xj_le, xj_eq, xj_add, xj_sub, xj_mul, show ¬ xj 1 = xj 0 from by decide]
                  exact t
            have mo0 : ∀ K', xk_Cl (D - 1) 51 [.ref (a + 108), .int (xj 0)] (f1, w) K' ↔ K' (some (.int (xj (maF tr.2.2 0 (of_np S.1))))) (f1, w) := mo 0 (by omega)
            have m0 := mr 0
            have lp := loop (of_np S.1 - 1) 0 (.int (xj (maF tr.2.2 0 (of_np S.1)))) (by omega)
            simp (disch := omega) only [b129_45, b129_47, b129_48, b129_50, b129_51, b129_52, List.getElem?_cons_zero, List.getElem?_cons_succ, List.length_cons, List.length_nil, List.set_cons_zero, List.set_cons_succ, true_and, and_true, Option.toList_some, Option.toList_none, List.cons_append, List.nil_append, ↓reduceIte, not_false_eq_true, not_true_eq_false, Nat.reduceAdd, xj0_01, xj1_01, xb_B, xb_True, xb_False]
            rw [b129_54]
            simp (disch := omega) only [b129_56, b129_57, b129_60, b129_63, b129_66, b129_69, b129_70, b129_73, b129_76, b129_79, b129_80, b129_83, b129_85, b129_88, b129_90, b129_91, b129_93, b129_96, b129_98, b129_99, b129_102, b129_104, b129_105, b129_107, b129_108, b129_111, List.getElem?_cons_zero, List.getElem?_cons_succ, List.length_cons, List.length_nil, List.set_cons_zero, List.set_cons_succ, true_and, and_true, Option.toList_some, Option.toList_none, List.cons_append, List.nil_append, ↓reduceIte, not_false_eq_true, not_true_eq_false, Nat.reduceAdd, xj0_01, xj1_01, xb_B, xb_True, xb_False, ↓go_0 ho1, ↓go_1 ho1, ↓go_2 ho1, ↓go_3 ho1, ↓go_4 ho1, ↓go_5 ho1, ↓go_6 ho1, ↓go_7 ho1, ↓go_8 ho1, ↓go_9 ho1, ↓go_10 ho1, ↓go_11 ho1, ↓go_12 ho1, ↓go_13 ho1, ↓go_14 ho1, ↓go_15 ho1, ↓ao_1 ho1, ↓ao_2 ho1, ↓ao_3 ho1, ↓ao_4 ho1, ↓ao_5 ho1, ↓ao_6 ho1, ↓ao_7 ho1, ↓ao_8 ho1, ↓ao_9 ho1, ↓gpn_7 r0, ↓gpn_14 r0, ↓gk_0 r5.1, ↓gor_0 v1, rc_R v1.1, mo0, ↓xj_in, xj_nat, Int.toNat_natCast, xj_lt_t, xj_lt_f, xj_le_t, xj_le_f, xj_eq_t, xj_eq_f, xj_lt, xj_le, xj_eq, xj_add, xj_sub, xj_mul, show ¬ xj 1 = xj 0 from by decide]
            exact lp
      · have ht0 := told01 w1 c3
        have po := no (fun q => c3 q.1)
        simp (disch := omega) only [b129_0, b129_1, b129_4, b129_5, b129_6, b129_9, b129_10, b129_13, b129_16, b129_19, b129_22, b129_23, List.getElem?_cons_zero, List.getElem?_cons_succ, List.length_cons, List.length_nil, List.set_cons_zero, List.set_cons_succ, true_and, and_true, Option.toList_some, Option.toList_none, List.cons_append, List.nil_append, ↓reduceIte, not_false_eq_true, not_true_eq_false, Nat.reduceAdd, xj0_01, xj1_01, xb_B, xb_True, xb_False, ↓go_0 ho, ↓go_1 ho, ↓go_2 ho, ↓go_3 ho, ↓go_4 ho, ↓go_5 ho, ↓go_6 ho, ↓go_7 ho, ↓go_8 ho, ↓go_9 ho, ↓go_10 ho, ↓go_11 ho, ↓go_12 ho, ↓go_13 ho, ↓go_14 ho, ↓go_15 ho, ↓ao_1 ho, ↓ao_2 ho, ↓ao_3 ho, ↓ao_4 ho, ↓ao_5 ho, ↓ao_6 ho, ↓ao_7 ho, ↓ao_8 ho, ↓ao_9 ho, ↓gpn_7 p0, ↓gk_0 p5.1, ht0, ↓xj_in, xj_nat, Int.toNat_natCast, xj_lt_t, xj_lt_f, xj_le_t, xj_le_f, xj_eq_t, xj_eq_f, xj_lt, xj_le, xj_eq, xj_add, xj_sub, xj_mul, show ¬ xj 1 = xj 0 from by decide]
        exact po
    · have po := no (fun q => c2 q.2.2)
      simp (disch := omega) only [b129_0, b129_1, b129_4, b129_5, b129_6, b129_9, b129_10, b129_13, b129_16, b129_19, b129_22, b129_23, List.getElem?_cons_zero, List.getElem?_cons_succ, List.length_cons, List.length_nil, List.set_cons_zero, List.set_cons_succ, true_and, and_true, Option.toList_some, Option.toList_none, List.cons_append, List.nil_append, ↓reduceIte, not_false_eq_true, not_true_eq_false, Nat.reduceAdd, xj0_01, xj1_01, xb_B, xb_True, xb_False, ↓xj_in, xj_nat, Int.toNat_natCast, xj_lt_t, xj_lt_f, xj_le_t, xj_le_f, xj_eq_t, xj_eq_f, xj_lt, xj_le, xj_eq, xj_add, xj_sub, xj_mul, show ¬ xj 1 = xj 0 from by decide]
      exact po
  · have po := no (fun q => c1 q.2.1)
    simp (disch := omega) only [b129_0, b129_1, b129_4, b129_5, b129_6, b129_9, b129_10, b129_13, b129_16, b129_19, b129_22, b129_23, List.getElem?_cons_zero, List.getElem?_cons_succ, List.length_cons, List.length_nil, List.set_cons_zero, List.set_cons_succ, true_and, and_true, Option.toList_some, Option.toList_none, List.cons_append, List.nil_append, ↓reduceIte, not_false_eq_true, not_true_eq_false, Nat.reduceAdd, xj0_01, xj1_01, xb_B, xb_True, xb_False, ↓xj_in, xj_nat, Int.toNat_natCast, xj_lt_t, xj_lt_f, xj_le_t, xj_le_f, xj_eq_t, xj_eq_f, xj_lt, xj_le, xj_eq, xj_add, xj_sub, xj_mul, show ¬ xj 1 = xj 0 from by decide]
    exact po
end XS9b13
