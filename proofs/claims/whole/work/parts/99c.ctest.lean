/-! the class reads tests, facts within facts -/
section XS99c
variable {D a b k p q n r t c v fa d e : Nat} {f g : Nat → xk_C} {w : Nat × Nat × Nat} {K : Option Value → xk_S → Prop} {x y z : Int} {T : Nat → Int} {V : Value → Prop} {F : Int32 → Prop} {s : Ps} {cs : List St}
theorem c_testE {G : Ps → Pr} {s0 : Ps} {fa0 : Nat} {wt : Bool} {l2 l4 l5 : Value} {f0 : Nat → xk_C} (hD : 3 ≤ D) (hta : t + 4 ≤ a) (h : xRd f a t T n s fa) (fr : frRd a t f0 f) (hl : fa = 0 → s.2.2.length + (if wt = true then 1 else 0) ≤ 400) (hG : ∀ s', (fa = 0 → s' = (s.1, s.2.1, s.2.2 ++ wtS wt)) → rdR G s0 fa0 s' fa) (hpost : rdK G T n a t f0 s0 fa0 w K) : xk_B (D - 1) 71 116 [.ref a, .ref t, l2, .int (xj (wI wt)), l4, l5] [] (f, w) K := by
  cases wt with
  | false =>
    have po := hpost f s fa fr h (hG s (fun _ => by show s = (s.1, s.2.1, s.2.2 ++ []); rw [List.append_nil]))
    have e : wI false = 0 := rfl
    rw [e]
    simp (disch := omega) only [b71_116, b71_117, b71_130, List.getElem?_cons_zero, List.getElem?_cons_succ, List.length_cons, List.length_nil, List.set_cons_zero, List.set_cons_succ, true_and, and_true, Option.toList_some, Option.toList_none, List.cons_append, List.nil_append, ↓reduceIte, not_false_eq_true, not_true_eq_false, Nat.reduceAdd, xj0_01, xj1_01, xb_B, xb_True, xb_False, ↓xj_in, xj_nat, Int.toNat_natCast, xj_lt_t, xj_lt_f, xj_le_t, xj_le_f, xj_eq_t, xj_eq_f, xj_lt, xj_le, xj_eq, xj_add, xj_sub, xj_mul, show ¬ xj 1 = xj 0 from by decide]
    exact po
  | true =>
    have e : wI true = 1 := rfl
    rw [if_pos rfl] at hl
    rw [e]
    simp (disch := omega) only [b71_116, b71_117, b71_120, b71_121, b71_124, b71_126, List.getElem?_cons_zero, List.getElem?_cons_succ, List.length_cons, List.length_nil, List.set_cons_zero, List.set_cons_succ, true_and, and_true, Option.toList_some, Option.toList_none, List.cons_append, List.nil_append, ↓reduceIte, not_false_eq_true, not_true_eq_false, Nat.reduceAdd, xj0_01, xj1_01, xb_B, xb_True, xb_False, ↓xj_in, xj_nat, Int.toNat_natCast, xj_lt_t, xj_lt_f, xj_le_t, xj_le_f, xj_eq_t, xj_eq_f, xj_lt, xj_le, xj_eq, xj_add, xj_sub, xj_mul, show ¬ xj 1 = xj 0 from by decide, ↓grd_0 h]
    rw [b71_127, rc_L h.2.2.2, true_and]
    refine u_addR (c := 13) (v := 0) (by omega) hta h (fun f2 g2 h2 => ?_)
    have po := hpost f2 _ fa (frRd_t fr g2) h2 (hG _ (fun h0 => by
      have hl := hl h0
      rw [addC_y (by omega)]
      rfl))
    simp (disch := omega) only [b71_130, List.getElem?_cons_zero, List.getElem?_cons_succ, List.length_cons, List.length_nil, List.set_cons_zero, List.set_cons_succ, true_and, and_true, Option.toList_some, Option.toList_none, List.cons_append, List.nil_append, ↓reduceIte, not_false_eq_true, not_true_eq_false, Nat.reduceAdd, xj0_01, xj1_01, xb_B, xb_True, xb_False]
    exact po
theorem c_testL {G : Ps → Pr} {s0 : Ps} {fa0 : Nat} {f0 : Nat → xk_C} (hF : cFP T n a t e) (hde : d + e = 10) (hD : 3 * e + 9 ≤ D) (hta : t + 4 ≤ a) (hpost : rdK G T n a t f0 s0 fa0 w K) : ∀ (m k : Nat) (wt : Bool) (s : Ps) (fa : Nat) (f : Nat → xk_C) (l5 : Value), n ≤ s.1 + m → k ≤ s.1 → k ≤ 400 → xRd f a t T n s fa → frRd a t f0 f → (fa = 0 → fa0 = 0 ∧ s.2.2.length + (if wt = true then 1 else 0) ≤ s.1 ∧ G s0 = tsF T n (gFact T n e) (m + 1) wt s) → (fa ≠ 0 → ∀ s', rdR G s0 fa0 s' fa) → xk_B (D - 1) 71 11 [.ref a, .ref t, .int (xj (d : Nat)), .int (xj (wI wt)), .int (xj (k : Nat)), l5] [] (f, w) K := by
  intro m
  induction m with
  | zero =>
    intro k wt s fa f l5 h1 h2 h3 h fr hg hb
    obtain ⟨ha, hT, hfa⟩ := rd_rng h
    have hn := hT.1
    have hend : ∀ l, xk_B (D - 1) 71 116 [.ref a, .ref t, .int (xj (d : Nat)), .int (xj (wI wt)), .int (xj (k : Nat)), l] [] (f, w) K := fun l => c_testE (by omega) hta h fr (fun h0 => by have := hg h0; have := ha.1; omega) (fun s' hs => by
      by_cases h0 : fa = 0
      · obtain ⟨q1, q2, q3⟩ := hg h0
        exact ⟨fun _ => Or.inl ⟨h0, by rw [q3, hs h0]; exact ts_end 0 wt s (wd_out (by omega) 18) (wd_out (by omega) 19)⟩, fun q => absurd q1 q⟩
      · exact hb h0 s') hpost
    have i18 := fun K' => s_isW_n (D := D - 1) (K := K') (w := w) (z := 18) (k := 18) (by omega) h.1 (by omega) rfl (wd_out (by omega) 18)
    have i19 := fun K' => s_isW_n (D := D - 1) (K := K') (w := w) (z := 19) (k := 19) (by omega) h.1 (by omega) rfl (wd_out (by omega) 19)
    by_cases c4 : k < 400
    · by_cases h0 : fa = 0
      · simp (disch := omega) only [b71_11, b71_13, b71_16, b71_19, b71_20, b71_23, b71_26, b71_27, b71_29, b71_32, b71_34, b71_36, b71_39, b71_40, b71_42, b71_45, b71_48, List.getElem?_cons_zero, List.getElem?_cons_succ, List.length_cons, List.length_nil, List.set_cons_zero, List.set_cons_succ, true_and, and_true, Option.toList_some, Option.toList_none, List.cons_append, List.nil_append, ↓reduceIte, not_false_eq_true, not_true_eq_false, Nat.reduceAdd, xj0_01, xj1_01, xb_B, xb_True, xb_False, ↓xT_fa h.1, rc_T h.1, i18, i19, ↓xj_in, xj_nat, Int.toNat_natCast, xj_lt_t, xj_lt_f, xj_le_t, xj_le_f, xj_eq_t, xj_eq_f, xj_lt, xj_le, xj_eq, xj_add, xj_sub, xj_mul, show ¬ xj 1 = xj 0 from by decide]
        exact hend _
      · simp (disch := omega) only [b71_11, b71_13, b71_16, b71_19, b71_20, b71_23, List.getElem?_cons_zero, List.getElem?_cons_succ, List.length_cons, List.length_nil, List.set_cons_zero, List.set_cons_succ, true_and, and_true, Option.toList_some, Option.toList_none, List.cons_append, List.nil_append, ↓reduceIte, not_false_eq_true, not_true_eq_false, Nat.reduceAdd, xj0_01, xj1_01, xb_B, xb_True, xb_False, ↓xT_fa h.1, ↓xj_in, xj_nat, Int.toNat_natCast, xj_lt_t, xj_lt_f, xj_le_t, xj_le_f, xj_eq_t, xj_eq_f, xj_lt, xj_le, xj_eq, xj_add, xj_sub, xj_mul, show ¬ xj 1 = xj 0 from by decide]
        exact hend _
    · simp (disch := omega) only [b71_11, b71_13, b71_16, List.getElem?_cons_zero, List.getElem?_cons_succ, List.length_cons, List.length_nil, List.set_cons_zero, List.set_cons_succ, true_and, and_true, Option.toList_some, Option.toList_none, List.cons_append, List.nil_append, ↓reduceIte, not_false_eq_true, not_true_eq_false, Nat.reduceAdd, xj0_01, xj1_01, xb_B, xb_True, xb_False, ↓xj_in, xj_nat, Int.toNat_natCast, xj_lt_t, xj_lt_f, xj_le_t, xj_le_f, xj_eq_t, xj_eq_f, xj_lt, xj_le, xj_eq, xj_add, xj_sub, xj_mul, show ¬ xj 1 = xj 0 from by decide]
      exact hend _
  | succ m ih =>
    intro k wt s fa f l5 h1 h2 h3 h fr hg hb
    obtain ⟨ha, hT, hfa⟩ := rd_rng h
    have hn := hT.1
    have hFr := gFact_rm (T := T) hn e
    by_cases c4 : k < 400
    · by_cases h0 : fa = 0
      · obtain ⟨q1, q2, q3⟩ := hg h0
        rw [tsF_s] at q3
        -- the loop's head behind a fault
        have flt : ∀ (f3 : Nat → xk_C) (s3 : Ps) (fa3 : Nat) (wt3 : Bool) (l5 : Value), xRd f3 a t T n s3 fa3 → frRd a t f0 f3 → fa3 ≠ 0 → (∀ s', rdR G s0 fa0 s' fa3) → xk_B (D - 1) 71 11 [.ref a, .ref t, .int (xj (d : Nat)), .int (xj (wI wt3)), .int (xj (k + 1 : Nat)), l5] [] (f3, w) K := by
          intro f3 s3 fa3 wt3 l5 h3 fr3 h30 hbd
          obtain ⟨_, _, hfa3⟩ := rd_rng h3
          have hend : xk_B (D - 1) 71 116 [.ref a, .ref t, .int (xj (d : Nat)), .int (xj (wI wt3)), .int (xj (k + 1 : Nat)), l5] [] (f3, w) K := c_testE (by omega) hta h3 fr3 (fun q => absurd q h30) (fun s' _ => hbd s') hpost
          by_cases c5 : k + 1 < 400
          · simp (disch := omega) only [b71_11, b71_13, b71_16, b71_19, b71_20, b71_23, List.getElem?_cons_zero, List.getElem?_cons_succ, List.length_cons, List.length_nil, List.set_cons_zero, List.set_cons_succ, true_and, and_true, Option.toList_some, Option.toList_none, List.cons_append, List.nil_append, ↓reduceIte, not_false_eq_true, not_true_eq_false, Nat.reduceAdd, xj0_01, xj1_01, xb_B, xb_True, xb_False, ↓xT_fa h3.1, ↓xj_in, xj_nat, Int.toNat_natCast, xj_lt_t, xj_lt_f, xj_le_t, xj_le_f, xj_eq_t, xj_eq_f, xj_lt, xj_le, xj_eq, xj_add, xj_sub, xj_mul, show ¬ xj 1 = xj 0 from by decide]
            exact hend
          · simp (disch := omega) only [b71_11, b71_13, b71_16, List.getElem?_cons_zero, List.getElem?_cons_succ, List.length_cons, List.length_nil, List.set_cons_zero, List.set_cons_succ, true_and, and_true, Option.toList_some, Option.toList_none, List.cons_append, List.nil_append, ↓reduceIte, not_false_eq_true, not_true_eq_false, Nat.reduceAdd, xj0_01, xj1_01, xb_B, xb_True, xb_False, ↓xj_in, xj_nat, Int.toNat_natCast, xj_lt_t, xj_lt_f, xj_le_t, xj_le_f, xj_eq_t, xj_eq_f, xj_lt, xj_le, xj_eq, xj_add, xj_sub, xj_mul, show ¬ xj 1 = xj 0 from by decide]
            exact hend
        by_cases c18 : wdA T n s.1 = 18
        · rw [if_pos c18] at q3
          have i18 := fun K' => s_isW_y (D := D - 1) (K := K') (w := w) (z := 18) (k := 18) (by omega) h.1 (by omega) rfl c18
          have hsn := (wd_lt (T := T) (n := n) (p := s.1) (by omega)).1
          have nx := nx_rng (T := T) hn hsn
          have go : ∀ (f1 : Nat → xk_C), frRd a t f0 f1 → xRd f1 a t T n (s.1, s.2.1, s.2.2 ++ wtS wt) fa → xk_B (D - 1) 71 70 [.ref a, .ref t, .int (xj (d : Nat)), .int (xj (wI wt)), .int (xj (k : Nat)), .int (xj 1)] [] (f1, w) K := by
            intro f1 fr1 hr1
            have hl2 : (s.2.2 ++ wtS wt).length ≤ s.1 := by rw [List.length_append, wtS_len]; exact q2
            have mid : xk_B (D - 1) 71 85 [.ref a, .ref t, .int (xj (d : Nat)), .int (xj 1), .int (xj (k : Nat)), .int (xj 1)] [] (f1, w) K := by
              simp (disch := omega) only [b71_85, List.getElem?_cons_zero, List.getElem?_cons_succ, List.length_cons, List.length_nil, List.set_cons_zero, List.set_cons_succ, true_and, and_true, Option.toList_some, Option.toList_none, List.cons_append, List.nil_append, ↓reduceIte, not_false_eq_true, not_true_eq_false, Nat.reduceAdd, xj0_01, xj1_01, xb_B, xb_True, xb_False]
              rw [b71_86, rc_T hr1.1, true_and]
              refine u_stepR (by omega) hta hr1 hsn (fun f2 g2 h2 => ?_)
              simp (disch := omega) only [b71_89, b71_90, b71_91, List.getElem?_cons_zero, List.getElem?_cons_succ, List.length_cons, List.length_nil, List.set_cons_zero, List.set_cons_succ, true_and, and_true, Option.toList_some, Option.toList_none, List.cons_append, List.nil_append, ↓reduceIte, not_false_eq_true, not_true_eq_false, Nat.reduceAdd, xj0_01, xj1_01, xb_B, xb_True, xb_False]
              rw [b71_92, rc_Rd h2, true_and]
              refine hF (D - 1) d f2 _ fa w _ hde (by omega) h2 (fun _ => by show (s.2.2 ++ wtS wt).length < nxT T n s.1; omega) (fun f3 s3 fa3 g3 h3 r3 => ?_)
              have fr3 := frRd_t fr1 (frRd_t g2 g3)
              have key : xk_B (D - 1) 71 11 [.ref a, .ref t, .int (xj (d : Nat)), .int (xj (wI true)), .int (xj (k + 1 : Nat)), .int (xj 1)] [] (f3, w) K := by
                rcases r3.1 h0 with ⟨h30, hg3⟩ | ⟨h30, hg3⟩
                · obtain ⟨⟨_, w2, w3, w4⟩, w1⟩ := hFr _ _ hg3
                  have w1 : nxT T n s.1 < s3.1 := w1
                  have w4 : s3.2.2.length + nxT T n s.1 ≤ (s.2.2 ++ wtS wt).length + s3.1 := w4
                  rw [hg3, bdP_R] at q3
                  exact ih (k + 1) true s3 fa3 f3 (.int (xj 1)) (by omega) (by omega) (by omega) h3 fr3 (fun _ => ⟨q1, by rw [if_pos rfl]; omega, q3⟩) (fun q => absurd h30 q)
                · rw [hg3, bdP_L] at q3
                  exact flt f3 s3 fa3 true _ h3 fr3 h30 (fun s' => ⟨fun _ => Or.inr ⟨h30, q3⟩, fun q => absurd q1 q⟩)
              simp (disch := omega) only [b71_95, b71_97, b71_100, b71_101, b71_104, b71_106, b71_107, b71_110, b71_113, List.getElem?_cons_zero, List.getElem?_cons_succ, List.length_cons, List.length_nil, List.set_cons_zero, List.set_cons_succ, true_and, and_true, Option.toList_some, Option.toList_none, List.cons_append, List.nil_append, ↓reduceIte, not_false_eq_true, not_true_eq_false, Nat.reduceAdd, xj0_01, xj1_01, xb_B, xb_True, xb_False, ↓xj_in, xj_nat, Int.toNat_natCast, xj_lt_t, xj_lt_f, xj_le_t, xj_le_f, xj_eq_t, xj_eq_f, xj_lt, xj_le, xj_eq, xj_add, xj_sub, xj_mul, show ¬ xj 1 = xj 0 from by decide]
              exact key
            cases wt with
            | false =>
              have e : wI false = 0 := rfl
              rw [e]
              simp (disch := omega) only [b71_70, b71_71, b71_74, b71_76, b71_79, b71_80, b71_83, b71_84, List.getElem?_cons_zero, List.getElem?_cons_succ, List.length_cons, List.length_nil, List.set_cons_zero, List.set_cons_succ, true_and, and_true, Option.toList_some, Option.toList_none, List.cons_append, List.nil_append, ↓reduceIte, not_false_eq_true, not_true_eq_false, Nat.reduceAdd, xj0_01, xj1_01, xb_B, xb_True, xb_False, ↓xj_in, xj_nat, Int.toNat_natCast, xj_lt_t, xj_lt_f, xj_le_t, xj_le_f, xj_eq_t, xj_eq_f, xj_lt, xj_le, xj_eq, xj_add, xj_sub, xj_mul, show ¬ xj 1 = xj 0 from by decide]
              exact mid
            | true =>
              have e : wI true = 1 := rfl
              rw [e]
              simp (disch := omega) only [b71_70, b71_71, b71_74, b71_76, b71_79, b71_80, b71_83, b71_84, List.getElem?_cons_zero, List.getElem?_cons_succ, List.length_cons, List.length_nil, List.set_cons_zero, List.set_cons_succ, true_and, and_true, Option.toList_some, Option.toList_none, List.cons_append, List.nil_append, ↓reduceIte, not_false_eq_true, not_true_eq_false, Nat.reduceAdd, xj0_01, xj1_01, xb_B, xb_True, xb_False, ↓xj_in, xj_nat, Int.toNat_natCast, xj_lt_t, xj_lt_f, xj_le_t, xj_le_f, xj_eq_t, xj_eq_f, xj_lt, xj_le, xj_eq, xj_add, xj_sub, xj_mul, show ¬ xj 1 = xj 0 from by decide]
              exact mid
          cases wt with
          | false =>
            have g1 := go f fr (by show xRd f a t T n (s.1, s.2.1, s.2.2 ++ []) fa; rw [List.append_nil]; exact h)
            have e : wI false = 0 := rfl
            rw [e] at g1 ⊢
            simp (disch := omega) only [b71_11, b71_13, b71_16, b71_19, b71_20, b71_23, b71_26, b71_27, b71_29, b71_32, b71_34, b71_36, b71_39, b71_40, b71_42, b71_45, b71_48, b71_51, b71_53, b71_56, b71_57, List.getElem?_cons_zero, List.getElem?_cons_succ, List.length_cons, List.length_nil, List.set_cons_zero, List.set_cons_succ, true_and, and_true, Option.toList_some, Option.toList_none, List.cons_append, List.nil_append, ↓reduceIte, not_false_eq_true, not_true_eq_false, Nat.reduceAdd, xj0_01, xj1_01, xb_B, xb_True, xb_False, ↓xT_fa h.1, rc_T h.1, i18, ↓xj_in, xj_nat, Int.toNat_natCast, xj_lt_t, xj_lt_f, xj_le_t, xj_le_f, xj_eq_t, xj_eq_f, xj_lt, xj_le, xj_eq, xj_add, xj_sub, xj_mul, show ¬ xj 1 = xj 0 from by decide]
            exact g1
          | true =>
            have e : wI true = 1 := rfl
            rw [if_pos rfl] at q2
            have lay : xk_Cl (D - 1) 62 [.ref (a + 1), .int (xj 13), .int (xj 0)] (f, w) (fun v σ => xk_B (D - 1) 71 70 [.ref a, .ref t, .int (xj (d : Nat)), .int (xj (wI true)), .int (xj (k : Nat)), .int (xj 1)] (v.toList ++ []) σ K) := by
              refine u_addR (c := 13) (v := 0) (by omega) hta h (fun f2 g2 h2 => ?_)
              have g1 := go f2 (frRd_t fr g2) (by
                have e : addC s.2.2 (13, 0) = s.2.2 ++ wtS true := addC_y (by have := ha.1; omega)
                rw [← e]; exact h2)
              simp only [List.getElem?_cons_zero, List.getElem?_cons_succ, List.length_cons, List.length_nil, List.set_cons_zero, List.set_cons_succ, true_and, and_true, Option.toList_some, Option.toList_none, List.cons_append, List.nil_append, ↓reduceIte, not_false_eq_true, not_true_eq_false, Nat.reduceAdd, xj0_01, xj1_01, xb_B, xb_True, xb_False]
              exact g1
            rw [e] at lay ⊢
            simp (disch := omega) only [b71_11, b71_13, b71_16, b71_19, b71_20, b71_23, b71_26, b71_27, b71_29, b71_32, b71_34, b71_36, b71_39, b71_40, b71_42, b71_45, b71_48, b71_51, b71_53, b71_56, b71_57, b71_60, b71_61, b71_64, b71_66, List.getElem?_cons_zero, List.getElem?_cons_succ, List.length_cons, List.length_nil, List.set_cons_zero, List.set_cons_succ, true_and, and_true, Option.toList_some, Option.toList_none, List.cons_append, List.nil_append, ↓reduceIte, not_false_eq_true, not_true_eq_false, Nat.reduceAdd, xj0_01, xj1_01, xb_B, xb_True, xb_False, ↓xT_fa h.1, rc_T h.1, i18, ↓xj_in, xj_nat, Int.toNat_natCast, xj_lt_t, xj_lt_f, xj_le_t, xj_le_f, xj_eq_t, xj_eq_f, xj_lt, xj_le, xj_eq, xj_add, xj_sub, xj_mul, show ¬ xj 1 = xj 0 from by decide, ↓grd_0 h]
            rw [b71_67, rc_L h.2.2.2, true_and]
            exact lay
        · rw [if_neg c18] at q3
          have i18 := fun K' => s_isW_n (D := D - 1) (K := K') (w := w) (z := 18) (k := 18) (by omega) h.1 (by omega) rfl c18
          by_cases c19 : wdA T n s.1 = 19
          · rw [if_pos c19] at q3
            have i19 := fun K' => s_isW_y (D := D - 1) (K := K') (w := w) (z := 19) (k := 19) (by omega) h.1 (by omega) rfl c19
            have hsn := (wd_lt (T := T) (n := n) (p := s.1) (by omega)).1
            have nx := nx_rng (T := T) hn hsn
            have mid : xk_B (D - 1) 71 85 [.ref a, .ref t, .int (xj (d : Nat)), .int (xj (wI wt)), .int (xj (k : Nat)), .int (xj 0)] [] (f, w) K := by
              simp (disch := omega) only [b71_85, List.getElem?_cons_zero, List.getElem?_cons_succ, List.length_cons, List.length_nil, List.set_cons_zero, List.set_cons_succ, true_and, and_true, Option.toList_some, Option.toList_none, List.cons_append, List.nil_append, ↓reduceIte, not_false_eq_true, not_true_eq_false, Nat.reduceAdd, xj0_01, xj1_01, xb_B, xb_True, xb_False]
              rw [b71_86, rc_T h.1, true_and]
              refine u_stepR (by omega) hta h hsn (fun f2 g2 h2 => ?_)
              simp (disch := omega) only [b71_89, b71_90, b71_91, List.getElem?_cons_zero, List.getElem?_cons_succ, List.length_cons, List.length_nil, List.set_cons_zero, List.set_cons_succ, true_and, and_true, Option.toList_some, Option.toList_none, List.cons_append, List.nil_append, ↓reduceIte, not_false_eq_true, not_true_eq_false, Nat.reduceAdd, xj0_01, xj1_01, xb_B, xb_True, xb_False]
              rw [b71_92, rc_Rd h2, true_and]
              refine hF (D - 1) d f2 _ fa w _ hde (by omega) h2 (fun _ => by show s.2.2.length < nxT T n s.1; omega) (fun f3 s3 fa3 g3 h3 r3 => ?_)
              simp (disch := omega) only [b71_95, b71_97, b71_100, b71_101, b71_104, b71_106, List.getElem?_cons_zero, List.getElem?_cons_succ, List.length_cons, List.length_nil, List.set_cons_zero, List.set_cons_succ, true_and, and_true, Option.toList_some, Option.toList_none, List.cons_append, List.nil_append, ↓reduceIte, not_false_eq_true, not_true_eq_false, Nat.reduceAdd, xj0_01, xj1_01, xb_B, xb_True, xb_False, ↓xj_in, xj_nat, Int.toNat_natCast, xj_lt_t, xj_lt_f, xj_le_t, xj_le_f, xj_eq_t, xj_eq_f, xj_lt, xj_le, xj_eq, xj_add, xj_sub, xj_mul, show ¬ xj 1 = xj 0 from by decide, ↓grd_0 h3]
              rw [b71_107, rc_L h3.2.2.2, true_and]
              refine u_addR (c := 12) (v := 0) (by omega) hta h3 (fun f4 g4 h4 => ?_)
              have fr4 := frRd_t fr (frRd_t g2 (frRd_t g3 g4))
              have key : xk_B (D - 1) 71 11 [.ref a, .ref t, .int (xj (d : Nat)), .int (xj (wI wt)), .int (xj (k + 1 : Nat)), .int (xj 0)] [] (f4, w) K := by
                rcases r3.1 h0 with ⟨h30, hg3⟩ | ⟨h30, hg3⟩
                · obtain ⟨⟨_, w2, w3, w4⟩, w1⟩ := hFr _ _ hg3
                  have w1 : nxT T n s.1 < s3.1 := w1
                  have w4 : s3.2.2.length + nxT T n s.1 ≤ s.2.2.length + s3.1 := w4
                  rw [hg3, bdP_R] at q3
                  have hadd : addC s3.2.2 (12, 0) = s3.2.2 ++ [(12, 0)] := addC_y (by omega)
                  rw [hadd] at h4
                  refine ih (k + 1) wt (s3.1, s3.2.1, s3.2.2 ++ [(12, 0)]) fa3 f4 (.int (xj 0)) (by show n ≤ s3.1 + m; omega) (by show k + 1 ≤ s3.1; omega) (by omega) h4 fr4 (fun _ => ⟨q1, ?_, q3⟩) (fun q => absurd h30 q)
                  show (s3.2.2 ++ [(12, 0)]).length + _ ≤ s3.1
                  rw [List.length_append]
                  show s3.2.2.length + 1 + _ ≤ s3.1
                  omega
                · rw [hg3, bdP_L] at q3
                  exact flt f4 _ fa3 wt _ h4 fr4 h30 (fun s' => ⟨fun _ => Or.inr ⟨h30, q3⟩, fun q => absurd q1 q⟩)
              simp (disch := omega) only [b71_110, b71_113, List.getElem?_cons_zero, List.getElem?_cons_succ, List.length_cons, List.length_nil, List.set_cons_zero, List.set_cons_succ, true_and, and_true, Option.toList_some, Option.toList_none, List.cons_append, List.nil_append, ↓reduceIte, not_false_eq_true, not_true_eq_false, Nat.reduceAdd, xj0_01, xj1_01, xb_B, xb_True, xb_False, ↓xj_in, xj_nat, Int.toNat_natCast, xj_lt_t, xj_lt_f, xj_le_t, xj_le_f, xj_eq_t, xj_eq_f, xj_lt, xj_le, xj_eq, xj_add, xj_sub, xj_mul, show ¬ xj 1 = xj 0 from by decide]
              exact key
            cases wt with
            | false =>
              have e : wI false = 0 := rfl
              rw [e] at mid ⊢
              simp (disch := omega) only [b71_11, b71_13, b71_16, b71_19, b71_20, b71_23, b71_26, b71_27, b71_29, b71_32, b71_34, b71_36, b71_39, b71_40, b71_42, b71_45, b71_48, b71_51, b71_53, b71_56, b71_57, b71_60, b71_61, b71_64, b71_66, b71_67, b71_70, b71_71, b71_74, b71_76, b71_79, b71_80, b71_83, b71_84, List.getElem?_cons_zero, List.getElem?_cons_succ, List.length_cons, List.length_nil, List.set_cons_zero, List.set_cons_succ, true_and, and_true, Option.toList_some, Option.toList_none, List.cons_append, List.nil_append, ↓reduceIte, not_false_eq_true, not_true_eq_false, Nat.reduceAdd, xj0_01, xj1_01, xb_B, xb_True, xb_False, ↓xT_fa h.1, rc_T h.1, i18, i19, ↓xj_in, xj_nat, Int.toNat_natCast, xj_lt_t, xj_lt_f, xj_le_t, xj_le_f, xj_eq_t, xj_eq_f, xj_lt, xj_le, xj_eq, xj_add, xj_sub, xj_mul, show ¬ xj 1 = xj 0 from by decide]
              exact mid
            | true =>
              have e : wI true = 1 := rfl
              rw [e] at mid ⊢
              simp (disch := omega) only [b71_11, b71_13, b71_16, b71_19, b71_20, b71_23, b71_26, b71_27, b71_29, b71_32, b71_34, b71_36, b71_39, b71_40, b71_42, b71_45, b71_48, b71_51, b71_53, b71_56, b71_57, b71_60, b71_61, b71_64, b71_66, b71_67, b71_70, b71_71, b71_74, b71_76, b71_79, b71_80, b71_83, b71_84, List.getElem?_cons_zero, List.getElem?_cons_succ, List.length_cons, List.length_nil, List.set_cons_zero, List.set_cons_succ, true_and, and_true, Option.toList_some, Option.toList_none, List.cons_append, List.nil_append, ↓reduceIte, not_false_eq_true, not_true_eq_false, Nat.reduceAdd, xj0_01, xj1_01, xb_B, xb_True, xb_False, ↓xT_fa h.1, rc_T h.1, i18, i19, ↓xj_in, xj_nat, Int.toNat_natCast, xj_lt_t, xj_lt_f, xj_le_t, xj_le_f, xj_eq_t, xj_eq_f, xj_lt, xj_le, xj_eq, xj_add, xj_sub, xj_mul, show ¬ xj 1 = xj 0 from by decide]
              exact mid
          · rw [if_neg c19] at q3
            have i19 := fun K' => s_isW_n (D := D - 1) (K := K') (w := w) (z := 19) (k := 19) (by omega) h.1 (by omega) rfl c19
            have hend : ∀ l, xk_B (D - 1) 71 116 [.ref a, .ref t, .int (xj (d : Nat)), .int (xj (wI wt)), .int (xj (k : Nat)), l] [] (f, w) K := fun l => c_testE (by omega) hta h fr (fun _ => by have := ha.1; omega) (fun s' hs => ⟨fun _ => Or.inl ⟨h0, by rw [q3, hs h0]⟩, fun q => absurd q1 q⟩) hpost
            simp (disch := omega) only [b71_11, b71_13, b71_16, b71_19, b71_20, b71_23, b71_26, b71_27, b71_29, b71_32, b71_34, b71_36, b71_39, b71_40, b71_42, b71_45, b71_48, List.getElem?_cons_zero, List.getElem?_cons_succ, List.length_cons, List.length_nil, List.set_cons_zero, List.set_cons_succ, true_and, and_true, Option.toList_some, Option.toList_none, List.cons_append, List.nil_append, ↓reduceIte, not_false_eq_true, not_true_eq_false, Nat.reduceAdd, xj0_01, xj1_01, xb_B, xb_True, xb_False, ↓xT_fa h.1, rc_T h.1, i18, i19, ↓xj_in, xj_nat, Int.toNat_natCast, xj_lt_t, xj_lt_f, xj_le_t, xj_le_f, xj_eq_t, xj_eq_f, xj_lt, xj_le, xj_eq, xj_add, xj_sub, xj_mul, show ¬ xj 1 = xj 0 from by decide]
            exact hend _
      · have hend : ∀ l, xk_B (D - 1) 71 116 [.ref a, .ref t, .int (xj (d : Nat)), .int (xj (wI wt)), .int (xj (k : Nat)), l] [] (f, w) K := fun l => c_testE (by omega) hta h fr (fun q => absurd q h0) (fun s' _ => hb h0 s') hpost
        simp (disch := omega) only [b71_11, b71_13, b71_16, b71_19, b71_20, b71_23, List.getElem?_cons_zero, List.getElem?_cons_succ, List.length_cons, List.length_nil, List.set_cons_zero, List.set_cons_succ, true_and, and_true, Option.toList_some, Option.toList_none, List.cons_append, List.nil_append, ↓reduceIte, not_false_eq_true, not_true_eq_false, Nat.reduceAdd, xj0_01, xj1_01, xb_B, xb_True, xb_False, ↓xT_fa h.1, ↓xj_in, xj_nat, Int.toNat_natCast, xj_lt_t, xj_lt_f, xj_le_t, xj_le_f, xj_eq_t, xj_eq_f, xj_lt, xj_le, xj_eq, xj_add, xj_sub, xj_mul, show ¬ xj 1 = xj 0 from by decide]
        exact hend _
    · have hend : ∀ l, xk_B (D - 1) 71 116 [.ref a, .ref t, .int (xj (d : Nat)), .int (xj (wI wt)), .int (xj (k : Nat)), l] [] (f, w) K := fun l => c_testE (by omega) hta h fr (fun h0 => by have := hg h0; have := ha.1; omega) (fun s' hs => by
        by_cases h0 : fa = 0
        · obtain ⟨q1, q2, q3⟩ := hg h0
          have := ha.1
          exact ⟨fun _ => Or.inl ⟨h0, by rw [q3, hs h0]; exact ts_end (m + 1) wt s (wd_out (by omega) 18) (wd_out (by omega) 19)⟩, fun q => absurd q1 q⟩
        · exact hb h0 s') hpost
      simp (disch := omega) only [b71_11, b71_13, b71_16, List.getElem?_cons_zero, List.getElem?_cons_succ, List.length_cons, List.length_nil, List.set_cons_zero, List.set_cons_succ, true_and, and_true, Option.toList_some, Option.toList_none, List.cons_append, List.nil_append, ↓reduceIte, not_false_eq_true, not_true_eq_false, Nat.reduceAdd, xj0_01, xj1_01, xb_B, xb_True, xb_False, ↓xj_in, xj_nat, Int.toNat_natCast, xj_lt_t, xj_lt_f, xj_le_t, xj_le_f, xj_eq_t, xj_eq_f, xj_lt, xj_le, xj_eq, xj_add, xj_sub, xj_mul, show ¬ xj 1 = xj 0 from by decide]
      exact hend _
theorem c_test (hta : t + 4 ≤ a) (hF : cFP T n a t e) : cTP T n a t e := by
  intro D d f s fa w K hde hD h hr hpost
  rw [e71 (by omega)]
  obtain ⟨ha, hT, hfa⟩ := rd_rng h
  have hn := hT.1
  simp (disch := omega) only [b71_0, b71_1, b71_2, b71_3, b71_4, List.getElem?_cons_zero, List.getElem?_cons_succ, List.length_cons, List.length_nil, List.set_cons_zero, List.set_cons_succ, true_and, and_true, Option.toList_some, Option.toList_none, List.cons_append, List.nil_append, ↓reduceIte, not_false_eq_true, not_true_eq_false, Nat.reduceAdd, xj0_01, xj1_01, xb_B, xb_True, xb_False]
  rw [b71_5, rc_Rd h, true_and]
  refine hF (D - 1) d f s fa w _ hde (by omega) h hr (fun f1 s1 fa1 g1 h1 r1 => ?_)
  simp (disch := omega) only [b71_8, b71_9, List.getElem?_cons_zero, List.getElem?_cons_succ, List.length_cons, List.length_nil, List.set_cons_zero, List.set_cons_succ, true_and, and_true, Option.toList_some, Option.toList_none, List.cons_append, List.nil_append, ↓reduceIte, not_false_eq_true, not_true_eq_false, Nat.reduceAdd, xj0_01, xj1_01, xb_B, xb_True, xb_False]
  refine c_testL (G := gTest T n (gFact T n e)) (s0 := s) (fa0 := fa) hF hde hD hta hpost 400 0 false s1 fa1 f1 _ (by omega) (by omega) (by omega) h1 g1 (fun h0 => ?_) (fun h0 s' => ?_)
  · obtain ⟨q1, q2⟩ := rdR_nf r1 h0
    obtain ⟨⟨_, w2, w3, w4⟩, w1⟩ := gFact_rm (T := T) hn e _ _ q2
    have := hr q1
    refine ⟨q1, by rw [if_neg (by decide)]; omega, ?_⟩
    show bdP (gFact T n e s) (tsF T n (gFact T n e) 401 false) = _
    rw [q2, bdP_R]
  · exact rdR_bd (G := gFact T n e) (H := gTest T n (gFact T n e)) rfl r1 h0 s'
/-- the head of a fact: whether it holds others -/
theorem c_factH (hD : 4 ≤ D) (hta : t + 4 ≤ a) (h : xRd f a t T n s fa) (hin : wdA T n s.1 = 20 ∨ seeF T n s.1 = 91 → xk_Cl (D - 1) 73 [.ref a, .ref t, .int (xj (d : Nat))] (f, w) (fun v σ => xk_B (D - 1) 72 24 [.ref a, .ref t, .int (xj (d : Nat)), xk_dd] (v.toList ++ []) σ K)) (hout : wdA T n s.1 ≠ 20 → seeF T n s.1 ≠ 91 → xk_B (D - 1) 72 25 [.ref a, .ref t, .int (xj (d : Nat)), xk_dd] [] (f, w) K) : xk_Cl D 72 [.ref a, .ref t, .int (xj (d : Nat))] (f, w) K := by
  rw [e72 (by omega)]
  have i91 := fun K' => s_isMark (D := D - 1) (K := K') (w := w) (z := 91) (by omega) h.1 (Or.inr (Or.inl rfl))
  by_cases c : wdA T n s.1 = 20
  · have i20 := fun K' => s_isW_y (D := D - 1) (K := K') (w := w) (z := 20) (k := 20) (by omega) h.1 (by omega) rfl c
    simp (disch := omega) only [b72_0, b72_1, b72_3, b72_6, b72_9, b72_10, b72_12, b72_15, b72_18, b72_19, b72_20, List.getElem?_cons_zero, List.getElem?_cons_succ, List.length_cons, List.length_nil, List.set_cons_zero, List.set_cons_succ, true_and, and_true, Option.toList_some, Option.toList_none, List.cons_append, List.nil_append, ↓reduceIte, not_false_eq_true, not_true_eq_false, Nat.reduceAdd, xj0_01, xj1_01, xb_B, xb_True, xb_False, rc_T h.1, i20, ↓xj_in, xj_nat, Int.toNat_natCast, xj_lt_t, xj_lt_f, xj_le_t, xj_le_f, xj_eq_t, xj_eq_f, xj_lt, xj_le, xj_eq, xj_add, xj_sub, xj_mul, show ¬ xj 1 = xj 0 from by decide]
    rw [b72_21, rc_Rd h, true_and]
    exact hin (Or.inl c)
  · have i20 := fun K' => s_isW_n (D := D - 1) (K := K') (w := w) (z := 20) (k := 20) (by omega) h.1 (by omega) rfl c
    by_cases c2 : seeF T n s.1 = 91
    · have x91 : ∀ i, @xb (seeF T n s.1 = 91) i = xj 1 := fun i => xb_T c2
      simp only [x91] at i91
      simp (disch := omega) only [b72_0, b72_1, b72_3, b72_6, b72_9, b72_10, b72_12, b72_15, b72_18, b72_19, b72_20, List.getElem?_cons_zero, List.getElem?_cons_succ, List.length_cons, List.length_nil, List.set_cons_zero, List.set_cons_succ, true_and, and_true, Option.toList_some, Option.toList_none, List.cons_append, List.nil_append, ↓reduceIte, not_false_eq_true, not_true_eq_false, Nat.reduceAdd, xj0_01, xj1_01, xb_B, xb_True, xb_False, rc_T h.1, i20, i91, ↓xj_in, xj_nat, Int.toNat_natCast, xj_lt_t, xj_lt_f, xj_le_t, xj_le_f, xj_eq_t, xj_eq_f, xj_lt, xj_le, xj_eq, xj_add, xj_sub, xj_mul, show ¬ xj 1 = xj 0 from by decide]
      rw [b72_21, rc_Rd h, true_and]
      exact hin (Or.inr c2)
    · have x91 : ∀ i, @xb (seeF T n s.1 = 91) i = xj 0 := fun i => xb_F c2
      simp only [x91] at i91
      simp (disch := omega) only [b72_0, b72_1, b72_3, b72_6, b72_9, b72_10, b72_12, b72_15, List.getElem?_cons_zero, List.getElem?_cons_succ, List.length_cons, List.length_nil, List.set_cons_zero, List.set_cons_succ, true_and, and_true, Option.toList_some, Option.toList_none, List.cons_append, List.nil_append, ↓reduceIte, not_false_eq_true, not_true_eq_false, Nat.reduceAdd, xj0_01, xj1_01, xb_B, xb_True, xb_False, rc_T h.1, i20, i91, ↓xj_in, xj_nat, Int.toNat_natCast, xj_lt_t, xj_lt_f, xj_le_t, xj_le_f, xj_eq_t, xj_eq_f, xj_lt, xj_le, xj_eq, xj_add, xj_sub, xj_mul, show ¬ xj 1 = xj 0 from by decide]
      exact hout c c2
theorem c_fact (hta : t + 4 ≤ a) : ∀ e, cFP T n a t e := by
  intro e
  induction e with
  | zero =>
    intro D d f s fa w K hde hD h hr hpost
    have hd10 : d = 10 := by omega
    refine c_factH (by omega) hta h (fun hc => ?_) (fun c1 c2 => ?_)
    · have hg : gFact T n 0 s = .inl (1 + 8 * s.1 + 2) := by
        show (if wdA T n s.1 = 20 then .inl (1 + 8 * s.1 + 2) else if seeF T n s.1 = 91 then .inl (1 + 8 * s.1 + 2) else gCmp T n s) = _
        by_cases c1 : wdA T n s.1 = 20
        · rw [if_pos c1]
        · rw [if_neg c1, if_pos (hc.resolve_left c1)]
      subst hd10
      rw [e73 (by omega)]
      simp (disch := omega) only [b73_0, b73_1, b73_3, b73_6, b73_7, List.getElem?_cons_zero, List.getElem?_cons_succ, List.length_cons, List.length_nil, List.set_cons_zero, List.set_cons_succ, true_and, and_true, Option.toList_some, Option.toList_none, List.cons_append, List.nil_append, ↓reduceIte, not_false_eq_true, not_true_eq_false, Nat.reduceAdd, xj0_01, xj1_01, xb_B, xb_True, xb_False, ↓xj_in, xj_nat, Int.toNat_natCast, xj_lt_t, xj_lt_f, xj_le_t, xj_le_f, xj_eq_t, xj_eq_f, xj_lt, xj_le, xj_eq, xj_add, xj_sub, xj_mul, show ¬ xj 1 = xj 0 from by decide]
      rw [b73_8, rc_T h.1, true_and]
      refine u_failR (k := 2) (by omega) hta h (by omega) (fun f1 g1 h1 => ?_)
      have po := hpost f1 s _ g1 h1 (rdR_no hg)
      simp (disch := omega) only [b73_11, b72_24, List.getElem?_cons_zero, List.getElem?_cons_succ, List.length_cons, List.length_nil, List.set_cons_zero, List.set_cons_succ, true_and, and_true, Option.toList_some, Option.toList_none, List.cons_append, List.nil_append, ↓reduceIte, not_false_eq_true, not_true_eq_false, Nat.reduceAdd, xj0_01, xj1_01, xb_B, xb_True, xb_False]
      exact po
    · have hg : gFact T n 0 s = gCmp T n s := by
        show (if wdA T n s.1 = 20 then .inl (1 + 8 * s.1 + 2) else if seeF T n s.1 = 91 then .inl (1 + 8 * s.1 + 2) else gCmp T n s) = _
        rw [if_neg c1, if_neg c2]
      refine c_cmp (by omega) hta h hr (fun f1 s1 fa1 g1 h1 r1 => hpost f1 s1 fa1 g1 h1 ?_)
      unfold rdR at r1 ⊢
      rw [hg]
      exact r1
  | succ e ih =>
    intro D d f s fa w K hde hD h hr hpost
    obtain ⟨ha, hT, hfa⟩ := rd_rng h
    have hn := hT.1
    have hTe := c_test hta ih
    have ed : ((d : Nat) : Int) + 1 = ((d + 1 : Nat) : Int) := by omega
    refine c_factH (by omega) hta h (fun hc => ?_) (fun c1 c2 => ?_)
    · rw [e73 (by omega)]
      by_cases c1 : wdA T n s.1 = 20
      · have i20 := fun K' => s_isW_y (D := D - 1 - 1) (K := K') (w := w) (z := 20) (k := 20) (by omega) h.1 (by omega) rfl c1
        have hsn := (wd_lt (T := T) (n := n) (p := s.1) (by omega)).1
        have nx := nx_rng (T := T) hn hsn
        have hg : gFact T n (e + 1) s = bdP (gFact T n e (nxT T n s.1, s.2)) (fun s1 => .inr (s1.1, s1.2.1, s1.2.2 ++ [(14, 0)])) := by
          show (if wdA T n s.1 = 20 then _ else _) = _
          rw [if_pos c1]
        simp (disch := omega) only [b73_0, b73_1, b73_3, b73_6, b73_7, b73_8, b73_11, b73_12, b73_13, b73_15, b73_18, b73_19, List.getElem?_cons_zero, List.getElem?_cons_succ, List.length_cons, List.length_nil, List.set_cons_zero, List.set_cons_succ, true_and, and_true, Option.toList_some, Option.toList_none, List.cons_append, List.nil_append, ↓reduceIte, not_false_eq_true, not_true_eq_false, Nat.reduceAdd, xj0_01, xj1_01, xb_B, xb_True, xb_False, rc_T h.1, i20, ↓xj_in, xj_nat, Int.toNat_natCast, xj_lt_t, xj_lt_f, xj_le_t, xj_le_f, xj_eq_t, xj_eq_f, xj_lt, xj_le, xj_eq, xj_add, xj_sub, xj_mul, show ¬ xj 1 = xj 0 from by decide]
        rw [b73_20, rc_T h.1, true_and]
        refine u_stepR (by omega) hta h hsn (fun f2 g2 h2 => ?_)
        simp (disch := omega) only [b73_23, b73_24, b73_27, b73_28, b73_29, b73_30, b73_31, List.getElem?_cons_zero, List.getElem?_cons_succ, List.length_cons, List.length_nil, List.set_cons_zero, List.set_cons_succ, true_and, and_true, Option.toList_some, Option.toList_none, List.cons_append, List.nil_append, ↓reduceIte, not_false_eq_true, not_true_eq_false, Nat.reduceAdd, xj0_01, xj1_01, xb_B, xb_True, xb_False, ↓xj_in, xj_nat, Int.toNat_natCast, xj_lt_t, xj_lt_f, xj_le_t, xj_le_f, xj_eq_t, xj_eq_f, xj_lt, xj_le, xj_eq, xj_add, xj_sub, xj_mul, show ¬ xj 1 = xj 0 from by decide, ed]
        rw [b73_32, rc_Rd h2, true_and]
        refine ih (D - 1 - 1) (d + 1) f2 _ fa w _ (by omega) (by omega) h2 (fun q => by show s.2.2.length < nxT T n s.1; have := hr q; omega) (fun f3 s3 fa3 g3 h3 r3 => ?_)
        simp (disch := omega) only [b73_35, b73_36, b73_39, b73_41, List.getElem?_cons_zero, List.getElem?_cons_succ, List.length_cons, List.length_nil, List.set_cons_zero, List.set_cons_succ, true_and, and_true, Option.toList_some, Option.toList_none, List.cons_append, List.nil_append, ↓reduceIte, not_false_eq_true, not_true_eq_false, Nat.reduceAdd, xj0_01, xj1_01, xb_B, xb_True, xb_False, ↓xj_in, xj_nat, Int.toNat_natCast, xj_lt_t, xj_lt_f, xj_le_t, xj_le_f, xj_eq_t, xj_eq_f, xj_lt, xj_le, xj_eq, xj_add, xj_sub, xj_mul, show ¬ xj 1 = xj 0 from by decide, ↓grd_0 h3]
        rw [b73_42, rc_L h3.2.2.2, true_and]
        refine u_addR (c := 14) (v := 0) (by omega) hta h3 (fun f4 g4 h4 => ?_)
        have po := hpost f4 _ fa3 (frRd_t g2 (frRd_t g3 g4)) h4 (by
          refine ⟨fun q => ?_, r3.2⟩
          rcases r3.1 q with ⟨q1, q2⟩ | ⟨q1, q2⟩
          · obtain ⟨⟨_, w2, w3, w4⟩, w1⟩ := gFact_rm (T := T) hn e _ _ q2
            have w1 : nxT T n s.1 < s3.1 := w1
            have w4 : s3.2.2.length + nxT T n s.1 ≤ s.2.2.length + s3.1 := w4
            have := hr q
            exact Or.inl ⟨q1, by rw [hg, q2, addC_y (by omega)]; rfl⟩
          · exact Or.inr ⟨q1, by rw [hg, q2]; rfl⟩)
        simp (disch := omega) only [b73_45, b73_62, b72_24, List.getElem?_cons_zero, List.getElem?_cons_succ, List.length_cons, List.length_nil, List.set_cons_zero, List.set_cons_succ, true_and, and_true, Option.toList_some, Option.toList_none, List.cons_append, List.nil_append, ↓reduceIte, not_false_eq_true, not_true_eq_false, Nat.reduceAdd, xj0_01, xj1_01, xb_B, xb_True, xb_False]
        exact po
      · have i20 := fun K' => s_isW_n (D := D - 1 - 1) (K := K') (w := w) (z := 20) (k := 20) (by omega) h.1 (by omega) rfl c1
        have c2 := hc.resolve_left c1
        have hsn := see_lt (T := T) (n := n) (p := s.1) (by omega)
        have nx := nx_rng (T := T) hn hsn
        have hg : gFact T n (e + 1) s = bdP (gTest T n (gFact T n e) (nxT T n s.1, s.2)) (fun s1 => if seeF T n s1.1 = 93 then .inr (nxT T n s1.1, s1.2) else .inl (1 + 8 * s1.1)) := by
          show (if wdA T n s.1 = 20 then _ else if seeF T n s.1 = 91 then _ else _) = _
          rw [if_neg c1, if_pos c2]
        simp (disch := omega) only [b73_0, b73_1, b73_3, b73_6, b73_7, b73_8, b73_11, b73_12, b73_13, b73_15, b73_18, b73_19, List.getElem?_cons_zero, List.getElem?_cons_succ, List.length_cons, List.length_nil, List.set_cons_zero, List.set_cons_succ, true_and, and_true, Option.toList_some, Option.toList_none, List.cons_append, List.nil_append, ↓reduceIte, not_false_eq_true, not_true_eq_false, Nat.reduceAdd, xj0_01, xj1_01, xb_B, xb_True, xb_False, rc_T h.1, i20, ↓xj_in, xj_nat, Int.toNat_natCast, xj_lt_t, xj_lt_f, xj_le_t, xj_le_f, xj_eq_t, xj_eq_f, xj_lt, xj_le, xj_eq, xj_add, xj_sub, xj_mul, show ¬ xj 1 = xj 0 from by decide]
        rw [b73_20, rc_T h.1, true_and]
        refine u_stepR (by omega) hta h hsn (fun f2 g2 h2 => ?_)
        simp (disch := omega) only [b73_23, b73_24, b73_48, b73_49, b73_50, b73_51, b73_52, List.getElem?_cons_zero, List.getElem?_cons_succ, List.length_cons, List.length_nil, List.set_cons_zero, List.set_cons_succ, true_and, and_true, Option.toList_some, Option.toList_none, List.cons_append, List.nil_append, ↓reduceIte, not_false_eq_true, not_true_eq_false, Nat.reduceAdd, xj0_01, xj1_01, xb_B, xb_True, xb_False, ↓xj_in, xj_nat, Int.toNat_natCast, xj_lt_t, xj_lt_f, xj_le_t, xj_le_f, xj_eq_t, xj_eq_f, xj_lt, xj_le, xj_eq, xj_add, xj_sub, xj_mul, show ¬ xj 1 = xj 0 from by decide, ed]
        rw [b73_53, rc_Rd h2, true_and]
        refine hTe (D - 1 - 1) (d + 1) f2 _ fa w _ (by omega) (by omega) h2 (fun q => by show s.2.2.length < nxT T n s.1; have := hr q; omega) (fun f3 s3 fa3 g3 h3 r3 => ?_)
        have bad := fun q s' => rdR_bd (G := fun s => gTest T n (gFact T n e) (nxT T n s.1, s.2)) (H := gFact T n (e + 1)) (s := s) (s1 := s3) (fa := fa) (fa1 := fa3) hg r3 q s'
        have good : fa3 = 0 → fa = 0 ∧ gFact T n (e + 1) s = (if seeF T n s3.1 = 93 then .inr (nxT T n s3.1, s3.2) else .inl (1 + 8 * s3.1)) := fun q => by
          obtain ⟨q1, q2⟩ := rdR_nf r3 q
          refine ⟨q1, ?_⟩
          rw [hg, q2]
          rfl
        simp (disch := omega) only [b73_56, b73_57, List.getElem?_cons_zero, List.getElem?_cons_succ, List.length_cons, List.length_nil, List.set_cons_zero, List.set_cons_succ, true_and, and_true, Option.toList_some, Option.toList_none, List.cons_append, List.nil_append, ↓reduceIte, not_false_eq_true, not_true_eq_false, Nat.reduceAdd, xj0_01, xj1_01, xb_B, xb_True, xb_False, ↓xj_in, xj_nat, Int.toNat_natCast, xj_lt_t, xj_lt_f, xj_le_t, xj_le_f, xj_eq_t, xj_eq_f, xj_lt, xj_le, xj_eq, xj_add, xj_sub, xj_mul, show ¬ xj 1 = xj 0 from by decide]
        rw [b73_59, rc_T h3.1, true_and]
        refine u_markR (by omega) hta h3 (Or.inr (Or.inr rfl)) (fun c3 f4 g4 h4 => ?_) (fun c3 f4 g4 h4 => ?_)
        · have po := hpost f4 _ fa3 (frRd_t g2 (frRd_t g3 g4)) h4 (by
            by_cases q : fa3 = 0
            · obtain ⟨q1, q2⟩ := good q
              exact ⟨fun _ => Or.inl ⟨q, by rw [q2, if_pos c3]⟩, fun q3 => absurd q1 q3⟩
            · exact bad q _)
          simp (disch := omega) only [b73_62, b72_24, List.getElem?_cons_zero, List.getElem?_cons_succ, List.length_cons, List.length_nil, List.set_cons_zero, List.set_cons_succ, true_and, and_true, Option.toList_some, Option.toList_none, List.cons_append, List.nil_append, ↓reduceIte, not_false_eq_true, not_true_eq_false, Nat.reduceAdd, xj0_01, xj1_01, xb_B, xb_True, xb_False]
          exact po
        · have po := hpost f4 _ _ (frRd_t g2 (frRd_t g3 g4)) h4 (rdR_f (by omega) (fun q => ⟨(good q).1, by rw [(good q).2, if_neg c3]⟩) bad)
          simp (disch := omega) only [b73_62, b72_24, List.getElem?_cons_zero, List.getElem?_cons_succ, List.length_cons, List.length_nil, List.set_cons_zero, List.set_cons_succ, true_and, and_true, Option.toList_some, Option.toList_none, List.cons_append, List.nil_append, ↓reduceIte, not_false_eq_true, not_true_eq_false, Nat.reduceAdd, xj0_01, xj1_01, xb_B, xb_True, xb_False]
          exact po
    · have hg : gFact T n (e + 1) s = gCmp T n s := by
        show (if wdA T n s.1 = 20 then _ else if seeF T n s.1 = 91 then _ else gCmp T n s) = _
        rw [if_neg c1, if_neg c2]
      refine c_cmp (by omega) hta h hr (fun f1 s1 fa1 g1 h1 r1 => hpost f1 s1 fa1 g1 h1 ?_)
      unfold rdR at r1 ⊢
      rw [hg]
      exact r1
end XS99c
