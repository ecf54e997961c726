/-! the class reads a rule to its end; a rule copied -/
/-- the class's steps of a clause, of a rule -/
def flc (x : Cl) : List St := clF x ++ [(if x.2.isSome = true then 16 else 15, 0)]
def flC : Ru → List St
  | [] => []
  | c :: r => flc c ++ flC r
theorem flC_snoc : ∀ (r : Ru) (c : Cl), flC (r ++ [c]) = flC r ++ flc c := by
  intro r c
  induction r with
  | nil => show flc c ++ [] = _; rw [List.append_nil]; rfl
  | cons x r ih => show flc x ++ flC (r ++ [c]) = (flc x ++ flC r) ++ flc c; rw [ih, List.append_assoc]
theorem kd0_iff {T : Nat → Int} {n p : Nat} : kdT T n p = 0 ↔ n ≤ p := by
  constructor
  · intro h
    apply Classical.byContradiction
    intro c
    unfold kdT at h
    rw [if_neg c] at h
    split at h
    · omega
    · split at h <;> omega
  · exact kd_0
theorem see_out {T : Nat → Int} {n p : Nat} (h : n ≤ p) : seeF T n p = -1 := by unfold seeF; rw [if_neg (by omega)]
theorem mpP_inr {cs : List St} {r : Pr} {s : Ps} (h : mpP cs r = .inr s) : ∃ u : Ps, r = .inr u ∧ s = (u.1, u.2.1, cs ++ u.2.2) := by
  cases r with
  | inl e => cases h
  | inr u => exact ⟨u, rfl, (Sum.inr.inj h).symm⟩
theorem mpP_inl {cs : List St} {r : Pr} {e : Nat} (h : mpP cs r = .inl e) : r = .inl e := by
  cases r with
  | inl e' => exact congrArg Sum.inl (Sum.inl.inj h)
  | inr u => cases h
section XS99d
variable {D a b k p q n r t c v fa d e : Nat} {f g : Nat → xk_C} {w : Nat × Nat × Nat} {K : Option Value → xk_S → Prop} {x y z : Int} {T : Nat → Int} {V : Value → Prop} {F : Int32 → Prop} {s : Ps} {cs cs2 : List St} {ru : Ru}
/-- one clause, behind the loop's test -/
theorem c_clause {l3 : Value} (hD : 42 ≤ D) (hta : t + 4 ≤ a) (hk : k ≤ 12) (h : xRd f a t T n (p, c, cs) 0) (hl : cs.length ≤ p) (hpost : ∀ f' s' fa' l3', frRd a t f f' → xRd f' a t T n s' fa' → (fa' = 0 → ∃ q, gRC T n k p c = .inr q ∧ s' = (q.1, q.2.1, cs ++ flc q.2.2) ∧ (cs ++ flc q.2.2).length ≤ q.1) → (fa' ≠ 0 → gRC T n k p c = .inl fa') → xk_B (D - 1) 70 108 [.ref a, .ref t, .int (xj (k : Nat)), l3'] [] (f', w) K) : xk_B (D - 1) 70 28 [.ref a, .ref t, .int (xj (k : Nat)), l3] [] (f, w) K := by
  obtain ⟨ha, hT, _⟩ := rd_rng h
  have ha : atP T n p := ha
  have hn := hT.1
  by_cases cw : wdA T n p = 16
  · have i16 := fun K' => s_isW_y (D := D - 1) (K := K') (w := w) (z := 16) (k := 16) (by omega) h.1 (by omega) rfl cw
    have hsn := (wd_lt (T := T) (n := n) (p := p) (by omega)).1
    have nx := nx_rng (T := T) hn hsn
    by_cases c12 : k = 12
    · have hg : gRC T n k p c = .inl (1 + 8 * p + 4) := by unfold gRC; rw [if_pos cw, if_pos c12]
      subst c12
      simp (disch := omega) only [b70_28, b70_29, b70_31, b70_34, b70_37, b70_38, b70_39, b70_42, b70_45, b70_46, b70_48, b70_51, b70_52, List.getElem?_cons_zero, List.getElem?_cons_succ, List.length_cons, List.length_nil, List.set_cons_zero, List.set_cons_succ, true_and, and_true, Option.toList_some, Option.toList_none, List.cons_append, List.nil_append, ↓reduceIte, not_false_eq_true, not_true_eq_false, Nat.reduceAdd, xj0_01, xj1_01, xb_B, xb_True, xb_False, rc_T h.1, i16, ↓xj_in, xj_nat, Int.toNat_natCast, xj_lt_t, xj_lt_f, xj_le_t, xj_le_f, xj_eq_t, xj_eq_f, xj_lt, xj_le, xj_eq, xj_add, xj_sub, xj_mul, show ¬ xj 1 = xj 0 from by decide]
      rw [b70_53, rc_T h.1, true_and]
      refine u_failR (k := 4) (by omega) hta h (by omega) (fun f1 g1 h1 => ?_)
      rw [if_pos rfl] at h1
      have po := hpost f1 (p, c, cs) _ l3 g1 h1 (fun q => absurd q (by omega)) (fun _ => hg)
      simp (disch := omega) only [b70_56, List.getElem?_cons_zero, List.getElem?_cons_succ, List.length_cons, List.length_nil, List.set_cons_zero, List.set_cons_succ, true_and, and_true, Option.toList_some, Option.toList_none, List.cons_append, List.nil_append, ↓reduceIte, not_false_eq_true, not_true_eq_false, Nat.reduceAdd, xj0_01, xj1_01, xb_B, xb_True, xb_False]
      exact po
    · have hg : gRC T n k p c = gCl T n p c := by unfold gRC; rw [if_pos cw, if_neg c12]
      simp (disch := omega) only [b70_28, b70_29, b70_31, b70_34, b70_37, b70_38, b70_39, b70_42, b70_45, b70_46, b70_48, b70_51, b70_52, b70_53, b70_56, b70_59, List.getElem?_cons_zero, List.getElem?_cons_succ, List.length_cons, List.length_nil, List.set_cons_zero, List.set_cons_succ, true_and, and_true, Option.toList_some, Option.toList_none, List.cons_append, List.nil_append, ↓reduceIte, not_false_eq_true, not_true_eq_false, Nat.reduceAdd, xj0_01, xj1_01, xb_B, xb_True, xb_False, rc_T h.1, i16, ↓xj_in, xj_nat, Int.toNat_natCast, xj_lt_t, xj_lt_f, xj_le_t, xj_le_f, xj_eq_t, xj_eq_f, xj_lt, xj_le, xj_eq, xj_add, xj_sub, xj_mul, show ¬ xj 1 = xj 0 from by decide]
      rw [b70_60, rc_T h.1, true_and]
      refine u_stepR (by omega) hta h hsn (fun f1 g1 h1 => ?_)
      simp (disch := omega) only [b70_63, b70_64, List.getElem?_cons_zero, List.getElem?_cons_succ, List.length_cons, List.length_nil, List.set_cons_zero, List.set_cons_succ, true_and, and_true, Option.toList_some, Option.toList_none, List.cons_append, List.nil_append, ↓reduceIte, not_false_eq_true, not_true_eq_false, Nat.reduceAdd, xj0_01, xj1_01, xb_B, xb_True, xb_False]
      rw [b70_65, rc_Rd h1, true_and]
      refine c_sum (by omega) hta h1 (fun _ => by show cs.length < nxT T n p; omega) (fun f2 s2 fa2 g2 h2 r2 => ?_)
      obtain ⟨ha2, _, hfa2⟩ := rd_rng h2
      have sh := gSum_sh T n (nxT T n p) c cs []
      rw [List.append_nil] at sh
      -- the sum read, where there is no fault
      have good : fa2 = 0 → ∃ u : Ps, gSum T n (nxT T n p, c, []) = .inr u ∧ s2 = (u.1, u.2.1, cs ++ u.2.2) ∧ s2.2.2.length + nxT T n p ≤ cs.length + s2.1 ∧ nxT T n p < s2.1 := fun q => by
        obtain ⟨_, q2⟩ := rdR_nf r2 q
        have q2 : gSum T n (nxT T n p, c, cs) = .inr s2 := q2
        obtain ⟨⟨_, _, _, w4⟩, w5⟩ := gSum_rm hn q2
        rw [q2] at sh
        obtain ⟨u, e1, e2⟩ := mpP_inr sh.symm
        exact ⟨u, e1, e2, w4, w5⟩
      have bad : fa2 ≠ 0 → gCl T n p c = .inl fa2 := fun q => by
        rcases r2.1 rfl with ⟨q1, _⟩ | ⟨_, q2⟩
        · exact absurd q1 q
        · have q2 : gSum T n (nxT T n p, c, cs) = .inl fa2 := q2
          rw [q2] at sh
          unfold gCl
          rw [mpP_inl sh.symm]
      by_cases cw2 : wdA T n s2.1 = 17
      · have i17 := fun K' => s_isW_y (D := D - 1) (K := K') (w := w) (z := 17) (k := 17) (by omega) h2.1 (by omega) rfl cw2
        have hsn2 := (wd_lt (T := T) (n := n) (p := s2.1) (by omega)).1
        have nx2 := nx_rng (T := T) hn hsn2
        simp (disch := omega) only [b70_68, b70_69, b70_71, b70_74, b70_75, b70_76, b70_79, List.getElem?_cons_zero, List.getElem?_cons_succ, List.length_cons, List.length_nil, List.set_cons_zero, List.set_cons_succ, true_and, and_true, Option.toList_some, Option.toList_none, List.cons_append, List.nil_append, ↓reduceIte, not_false_eq_true, not_true_eq_false, Nat.reduceAdd, xj0_01, xj1_01, xb_B, xb_True, xb_False, rc_T h2.1, i17, ↓xj_in, xj_nat, Int.toNat_natCast, xj_lt_t, xj_lt_f, xj_le_t, xj_le_f, xj_eq_t, xj_eq_f, xj_lt, xj_le, xj_eq, xj_add, xj_sub, xj_mul, show ¬ xj 1 = xj 0 from by decide]
        rw [b70_80, rc_T h2.1, true_and]
        refine u_stepR (by omega) hta h2 hsn2 (fun f3 g3 h3 => ?_)
        simp (disch := omega) only [b70_83, b70_84, b70_85, List.getElem?_cons_zero, List.getElem?_cons_succ, List.length_cons, List.length_nil, List.set_cons_zero, List.set_cons_succ, true_and, and_true, Option.toList_some, Option.toList_none, List.cons_append, List.nil_append, ↓reduceIte, not_false_eq_true, not_true_eq_false, Nat.reduceAdd, xj0_01, xj1_01, xb_B, xb_True, xb_False]
        rw [b70_86, rc_Rd h3, true_and]
        refine c_test hta (c_fact hta 10) (D - 1) 0 f3 _ fa2 w _ (by omega) (by omega) h3 (fun q => by show s2.2.2.length < nxT T n s2.1; obtain ⟨u, _, _, q3, q4⟩ := good q; omega) (fun f4 s4 fa4 g4 h4 r4 => ?_)
        simp (disch := omega) only [b70_89, b70_90, b70_93, b70_94, b70_97, b70_99, b70_102, b70_104, List.getElem?_cons_zero, List.getElem?_cons_succ, List.length_cons, List.length_nil, List.set_cons_zero, List.set_cons_succ, true_and, and_true, Option.toList_some, Option.toList_none, List.cons_append, List.nil_append, ↓reduceIte, not_false_eq_true, not_true_eq_false, Nat.reduceAdd, xj0_01, xj1_01, xb_B, xb_True, xb_False, ↓xj_in, xj_nat, Int.toNat_natCast, xj_lt_t, xj_lt_f, xj_le_t, xj_le_f, xj_eq_t, xj_eq_f, xj_lt, xj_le, xj_eq, xj_add, xj_sub, xj_mul, show ¬ xj 1 = xj 0 from by decide, ↓grd_0 h4]
        rw [b70_105, rc_L h4.2.2.2, true_and]
        refine u_addR (c := 16) (v := 0) (by omega) hta h4 (fun f5 g5 h5 => ?_)
        have po := hpost f5 _ fa4 (.int (xj 1)) (frRd_t g1 (frRd_t g2 (frRd_t g3 (frRd_t g4 g5)))) h5 (fun q => by
          obtain ⟨q1, q2⟩ := rdR_nf r4 q
          obtain ⟨u, q3, q4, q5, q6⟩ := good q1
          have q2 : gT T n (nxT T n s2.1, s2.2) = .inr s4 := q2
          obtain ⟨⟨_, _, _, w4⟩, w5⟩ := gT_rm hn q2
          have w4 : s4.2.2.length + nxT T n s2.1 ≤ s2.2.2.length + s4.1 := w4
          have w5 : nxT T n s2.1 < s4.1 := w5
          have a4 := (rd_rng h4).1.1
          subst q4
          have sh2 := gT_sh T n (nxT T n u.1) u.2.1 (cs ++ u.2.2) []
          rw [List.append_nil] at sh2
          have q2 : gT T n (nxT T n u.1, u.2.1, cs ++ u.2.2) = .inr s4 := q2
          rw [q2] at sh2
          obtain ⟨u2, e1, e2⟩ := mpP_inr sh2.symm
          have cw2 : wdA T n u.1 = 17 := cw2
          refine ⟨(u2.1, u2.2.1, (u.2.2, some u2.2.2)), ?_, ?_, ?_⟩
          · rw [hg]
            unfold gCl
            rw [q3]
            show gC2 T n u = _
            unfold gC2
            rw [if_pos cw2, e1]
            rfl
          · rw [addC_y (by omega), e2]
            show (u2.1, u2.2.1, ((cs ++ u.2.2) ++ u2.2.2) ++ [(16, 0)]) = (u2.1, u2.2.1, cs ++ ((u.2.2 ++ u2.2.2) ++ [(16, 0)]))
            rw [List.append_assoc, List.append_assoc, List.append_assoc]
          · have e3 : s4.2.2 = (cs ++ u.2.2) ++ u2.2.2 := by rw [e2]
            have e4 : s4.1 = u2.1 := by rw [e2]
            rw [e3] at w4
            show (cs ++ ((u.2.2 ++ u2.2.2) ++ [(16, 0)])).length ≤ u2.1
            have q5 : (cs ++ u.2.2).length + nxT T n p ≤ cs.length + u.1 := q5
            simp only [List.length_append] at w4 q5 ⊢
            show cs.length + ((u.2.2.length + u2.2.2.length) + 1) ≤ u2.1
            have nx2 : u.1 < nxT T n u.1 := nx2.1
            have w4 : cs.length + u.2.2.length + u2.2.2.length + nxT T n u.1 ≤ cs.length + u.2.2.length + s4.1 := w4
            have q6 : nxT T n p < u.1 := q6
            omega) (fun q => by
          rw [hg]
          by_cases q1 : fa2 = 0
          · obtain ⟨u, q3, q4, q5, q6⟩ := good q1
            rcases r4.1 q1 with ⟨q2, _⟩ | ⟨_, q2⟩
            · exact absurd q2 q
            · subst q4
              have q2 : gT T n (nxT T n u.1, u.2.1, cs ++ u.2.2) = .inl fa4 := q2
              have sh2 := gT_sh T n (nxT T n u.1) u.2.1 (cs ++ u.2.2) []
              rw [List.append_nil, q2] at sh2
              have cw2 : wdA T n u.1 = 17 := cw2
              unfold gCl
              rw [q3]
              show gC2 T n u = _
              unfold gC2
              rw [if_pos cw2, mpP_inl sh2.symm]
              rfl
          · rw [r4.2 q1]
            exact bad q1)
        exact po
      · have i17 := fun K' => s_isW_n (D := D - 1) (K := K') (w := w) (z := 17) (k := 17) (by omega) h2.1 (by omega) rfl cw2
        simp (disch := omega) only [b70_68, b70_69, b70_71, b70_74, b70_75, b70_76, b70_89, b70_90, b70_93, b70_94, b70_97, b70_99, b70_102, b70_104, List.getElem?_cons_zero, List.getElem?_cons_succ, List.length_cons, List.length_nil, List.set_cons_zero, List.set_cons_succ, true_and, and_true, Option.toList_some, Option.toList_none, List.cons_append, List.nil_append, ↓reduceIte, not_false_eq_true, not_true_eq_false, Nat.reduceAdd, xj0_01, xj1_01, xb_B, xb_True, xb_False, rc_T h2.1, i17, ↓xj_in, xj_nat, Int.toNat_natCast, xj_lt_t, xj_lt_f, xj_le_t, xj_le_f, xj_eq_t, xj_eq_f, xj_lt, xj_le, xj_eq, xj_add, xj_sub, xj_mul, show ¬ xj 1 = xj 0 from by decide, ↓grd_0 h2]
        rw [b70_105, rc_L h2.2.2.2, true_and]
        refine u_addR (c := 15) (v := 0) (by omega) hta h2 (fun f5 g5 h5 => ?_)
        have po := hpost f5 _ fa2 (.int (xj 0)) (frRd_t g1 (frRd_t g2 g5)) h5 (fun q => by
          obtain ⟨u, q3, q4, q5, q6⟩ := good q
          have a2 := ha2.1
          subst q4
          have cw2 : ¬ wdA T n u.1 = 17 := cw2
          have q5 : (cs ++ u.2.2).length + nxT T n p ≤ cs.length + u.1 := q5
          refine ⟨(u.1, u.2.1, (u.2.2, none)), ?_, ?_, ?_⟩
          · rw [hg]
            unfold gCl
            rw [q3]
            show gC2 T n u = _
            unfold gC2
            rw [if_neg cw2]
          · have hl3 : (cs ++ u.2.2).length < 400 := by have a2 : u.1 ≤ n := a2; have q6 : nxT T n p < u.1 := q6; omega
            show (u.1, u.2.1, addC (cs ++ u.2.2) (15, 0)) = _
            rw [addC_y hl3]
            show (u.1, u.2.1, (cs ++ u.2.2) ++ [(15, 0)]) = (u.1, u.2.1, cs ++ ((u.2.2 ++ []) ++ [(15, 0)]))
            rw [List.append_nil, List.append_assoc]
          · show (cs ++ ((u.2.2 ++ []) ++ [(15, 0)])).length ≤ u.1
            rw [List.append_nil]
            simp only [List.length_append] at q5 ⊢
            show cs.length + (u.2.2.length + 1) ≤ u.1
            have q6 : nxT T n p < u.1 := q6
            omega) (fun q => by rw [hg]; exact bad q)
        exact po
  · have i16 := fun K' => s_isW_n (D := D - 1) (K := K') (w := w) (z := 16) (k := 16) (by omega) h.1 (by omega) rfl cw
    have hg : gRC T n k p c = .inl (1 + 8 * p) := by unfold gRC; rw [if_neg cw]
    simp (disch := omega) only [b70_28, b70_29, b70_31, b70_34, b70_37, b70_38, List.getElem?_cons_zero, List.getElem?_cons_succ, List.length_cons, List.length_nil, List.set_cons_zero, List.set_cons_succ, true_and, and_true, Option.toList_some, Option.toList_none, List.cons_append, List.nil_append, ↓reduceIte, not_false_eq_true, not_true_eq_false, Nat.reduceAdd, xj0_01, xj1_01, xb_B, xb_True, xb_False, rc_T h.1, i16, ↓xj_in, xj_nat, Int.toNat_natCast, xj_lt_t, xj_lt_f, xj_le_t, xj_le_f, xj_eq_t, xj_eq_f, xj_lt, xj_le, xj_eq, xj_add, xj_sub, xj_mul, show ¬ xj 1 = xj 0 from by decide]
    rw [b70_39, rc_T h.1, true_and]
    refine u_failR (k := 0) (by omega) hta h (by omega) (fun f1 g1 h1 => ?_)
    rw [if_pos rfl] at h1
    have po := hpost f1 (p, c, cs) _ l3 g1 h1 (fun q => absurd q (by omega)) (fun _ => hg)
    simp (disch := omega) only [b70_42, List.getElem?_cons_zero, List.getElem?_cons_succ, List.length_cons, List.length_nil, List.set_cons_zero, List.set_cons_succ, true_and, and_true, Option.toList_some, Option.toList_none, List.cons_append, List.nil_append, ↓reduceIte, not_false_eq_true, not_true_eq_false, Nat.reduceAdd, xj0_01, xj1_01, xb_B, xb_True, xb_False]
    exact po
theorem c_readL {f0 : Nat → xk_C} (hD : 42 ≤ D) (hta : t + 4 ≤ a) : ∀ (fu : Nat) (ru : Ru) (p c : Nat) (f : Nat → xk_C) (l3 : Value), ru.length + fu = 13 → ru.length ≤ 12 → xRd f a t T n (p, c, flC ru) 0 → frRd a t f0 f → (flC ru).length ≤ p → (∀ f' s' fa', frRd a t f0 f' → xRd f' a t T n s' fa' → (fa' = 0 → ∃ ru', gRu T n fu p c ru = .inr ru' ∧ s'.2.2 = flC ru') → (fa' ≠ 0 → gRu T n fu p c ru = .inl fa') → K none (f', w)) → xk_B (D - 1) 70 14 [.ref a, .ref t, .int (xj (ru.length : Nat)), l3] [] (f, w) K := by
  intro fu
  induction fu with
  | zero => intro ru p c f l3 h1 h2; omega
  | succ fu ih =>
    intro ru p c f l3 h1 h2 h fr hl hpost
    obtain ⟨ha, hT, _⟩ := rd_rng h
    have hn := hT.1
    have hg : gRu T n (fu + 1) p c ru = gRq T n fu ru (gRC T n ru.length p c) := gRu_s
    rw [hg] at hpost
    simp (disch := omega) only [b70_14, b70_15, b70_18, b70_21, b70_22, b70_25, List.getElem?_cons_zero, List.getElem?_cons_succ, List.length_cons, List.length_nil, List.set_cons_zero, List.set_cons_succ, true_and, and_true, Option.toList_some, Option.toList_none, List.cons_append, List.nil_append, ↓reduceIte, not_false_eq_true, not_true_eq_false, Nat.reduceAdd, xj0_01, xj1_01, xb_B, xb_True, xb_False, ↓xT_fa h.1, ↓xj_in, xj_nat, Int.toNat_natCast, xj_lt_t, xj_lt_f, xj_le_t, xj_le_f, xj_eq_t, xj_eq_f, xj_lt, xj_le, xj_eq, xj_add, xj_sub, xj_mul, show ¬ xj 1 = xj 0 from by decide]
    refine c_clause hD hta h2 h hl (fun f1 s1 fa1 l1 g1 h1' hy hx => ?_)
    obtain ⟨ha1, _, hfa1⟩ := rd_rng h1'
    have fr1 := frRd_t fr g1
    have e1 : ((ru.length : Nat) : Int) + 1 = ((ru.length + 1 : Nat) : Int) := by omega
    -- the loop's head behind a fault
    have out : ∀ (f2 : Nat → xk_C) (s2 : Ps) (fa2 : Nat), frRd a t f0 f2 → xRd f2 a t T n s2 fa2 → fa2 ≠ 0 → gRq T n fu ru (gRC T n ru.length p c) = .inl fa2 → xk_B (D - 1) 70 14 [.ref a, .ref t, .int (xj (ru.length + 1 : Nat)), l1] [] (f2, w) K := by
      intro f2 s2 fa2 fr2 hr2 h0 hq
      obtain ⟨_, _, hfa2⟩ := rd_rng hr2
      have po := hpost f2 s2 fa2 fr2 hr2 (fun q => absurd q h0) (fun _ => hq)
      simp (disch := omega) only [b70_14, b70_15, b70_18, b70_21, b70_22, b70_25, b70_135, List.getElem?_cons_zero, List.getElem?_cons_succ, List.length_cons, List.length_nil, List.set_cons_zero, List.set_cons_succ, true_and, and_true, Option.toList_some, Option.toList_none, List.cons_append, List.nil_append, ↓reduceIte, not_false_eq_true, not_true_eq_false, Nat.reduceAdd, xj0_01, xj1_01, xb_B, xb_True, xb_False, ↓xT_fa hr2.1, ↓xj_in, xj_nat, Int.toNat_natCast, xj_lt_t, xj_lt_f, xj_le_t, xj_le_f, xj_eq_t, xj_eq_f, xj_lt, xj_le, xj_eq, xj_add, xj_sub, xj_mul, show ¬ xj 1 = xj 0 from by decide]
      exact po
    by_cases c0 : fa1 = 0
    · obtain ⟨q, hq, e2, hl2⟩ := hy c0
      rw [hq] at hpost out
      have hpost : ∀ f' s' fa', frRd a t f0 f' → xRd f' a t T n s' fa' → (fa' = 0 → ∃ ru', gRe T n fu q.1 q.2.1 (ru ++ [q.2.2]) = .inr ru' ∧ s'.2.2 = flC ru') → (fa' ≠ 0 → gRe T n fu q.1 q.2.1 (ru ++ [q.2.2]) = .inl fa') → K none (f', w) := hpost
      have out : ∀ (f2 : Nat → xk_C) (s2 : Ps) (fa2 : Nat), frRd a t f0 f2 → xRd f2 a t T n s2 fa2 → fa2 ≠ 0 → gRe T n fu q.1 q.2.1 (ru ++ [q.2.2]) = .inl fa2 → xk_B (D - 1) 70 14 [.ref a, .ref t, .int (xj (ru.length + 1 : Nat)), l1] [] (f2, w) K := out
      subst e2
      have hr1 : xRd f1 a t T n (q.1, q.2.1, flC (ru ++ [q.2.2])) fa1 := by rw [flC_snoc]; exact h1'
      have hl3 : (flC (ru ++ [q.2.2])).length ≤ q.1 := by rw [flC_snoc]; exact hl2
      by_cases ck : kdT T n q.1 = 0
      · have hge : gRe T n fu q.1 q.2.1 (ru ++ [q.2.2]) = .inr (ru ++ [q.2.2]) := by
          have hs := see_out (T := T) (kd0_iff.mp ck)
          unfold gRe
          rw [if_neg (by rw [hs]; decide), if_pos hs]
        have po := hpost f1 _ fa1 fr1 hr1 (fun _ => ⟨_, hge, rfl⟩) (fun q => absurd c0 q)
        simp (disch := omega) only [b70_108, b70_109, b70_112, b70_115, b70_116, b70_119, b70_122, List.getElem?_cons_zero, List.getElem?_cons_succ, List.length_cons, List.length_nil, List.set_cons_zero, List.set_cons_succ, true_and, and_true, Option.toList_some, Option.toList_none, List.cons_append, List.nil_append, ↓reduceIte, not_false_eq_true, not_true_eq_false, Nat.reduceAdd, xj0_01, xj1_01, xb_B, xb_True, xb_False, ↓xT_fa hr1.1, rc_T hr1.1, s_kind _ hr1.1, ck, ↓xj_in, xj_nat, Int.toNat_natCast, xj_lt_t, xj_lt_f, xj_le_t, xj_le_f, xj_eq_t, xj_eq_f, xj_lt, xj_le, xj_eq, xj_add, xj_sub, xj_mul, show ¬ xj 1 = xj 0 from by decide]
        exact po
      · have hkr := kd_rng T n q.1
        have hp := kd_lt (T := T) ck
        have nx := nx_rng (T := T) hn hp
        simp (disch := omega) only [b70_108, b70_109, b70_112, b70_115, b70_116, b70_119, b70_122, b70_123, b70_124, List.getElem?_cons_zero, List.getElem?_cons_succ, List.length_cons, List.length_nil, List.set_cons_zero, List.set_cons_succ, true_and, and_true, Option.toList_some, Option.toList_none, List.cons_append, List.nil_append, ↓reduceIte, not_false_eq_true, not_true_eq_false, Nat.reduceAdd, xj0_01, xj1_01, xb_B, xb_True, xb_False, ↓xT_fa hr1.1, rc_T hr1.1, s_kind _ hr1.1, ↓xj_in, xj_nat, Int.toNat_natCast, xj_lt_t, xj_lt_f, xj_le_t, xj_le_f, xj_eq_t, xj_eq_f, xj_lt, xj_le, xj_eq, xj_add, xj_sub, xj_mul, show ¬ xj 1 = xj 0 from by decide]
        rw [b70_126, rc_T hr1.1, true_and]
        refine u_markR (by omega) hta hr1 (Or.inl rfl) (fun c3 f2 g2 h2' => ?_) (fun c3 f2 g2 h2' => ?_)
        · have c3 : seeF T n q.1 = 59 := c3
          have hge : gRe T n fu q.1 q.2.1 (ru ++ [q.2.2]) = gRu T n fu (nxT T n q.1) q.2.1 (ru ++ [q.2.2]) := by unfold gRe; rw [if_pos c3]
          rw [hge] at hpost
          have hk12 : ru.length ≠ 12 := fun e => by
            have : gRC T n ru.length p c = (if wdA T n p = 16 then (if ru.length = 12 then .inl (1 + 8 * p + 4) else gCl T n p c) else .inl (1 + 8 * p)) := rfl
            rw [hq] at this
            split at this
            · first | cases this | (rw [if_pos e] at this; cases this)
            · cases this
          have hlen : (ru ++ [q.2.2]).length = ru.length + 1 := by rw [List.length_append]; rfl
          subst c0
          have po := ih (ru ++ [q.2.2]) (nxT T n q.1) q.2.1 f2 l1 (by omega) (by omega) h2' (frRd_t fr1 g2) (by omega) hpost
          rw [hlen] at po
          simp (disch := omega) only [b70_129, b70_132, List.getElem?_cons_zero, List.getElem?_cons_succ, List.length_cons, List.length_nil, List.set_cons_zero, List.set_cons_succ, true_and, and_true, Option.toList_some, Option.toList_none, List.cons_append, List.nil_append, ↓reduceIte, not_false_eq_true, not_true_eq_false, Nat.reduceAdd, xj0_01, xj1_01, xb_B, xb_True, xb_False, ↓xj_in, xj_nat, Int.toNat_natCast, xj_lt_t, xj_lt_f, xj_le_t, xj_le_f, xj_eq_t, xj_eq_f, xj_lt, xj_le, xj_eq, xj_add, xj_sub, xj_mul, show ¬ xj 1 = xj 0 from by decide, e1]
          exact po
        · have c3 : ¬ seeF T n q.1 = 59 := c3
          have cm : ¬ seeF T n q.1 = -1 := fun e => by
            have := see_m1 (fun i hi => (hT.2 i hi).1) e
            omega
          have hge : gRe T n fu q.1 q.2.1 (ru ++ [q.2.2]) = .inl (1 + 8 * q.1) := by unfold gRe; rw [if_neg c3, if_neg cm]
          rw [if_pos c0] at h2'
          have po := out f2 _ _ (frRd_t fr1 g2) h2' (by show 1 + 8 * q.1 ≠ 0; omega) hge
          simp (disch := omega) only [b70_129, b70_132, List.getElem?_cons_zero, List.getElem?_cons_succ, List.length_cons, List.length_nil, List.set_cons_zero, List.set_cons_succ, true_and, and_true, Option.toList_some, Option.toList_none, List.cons_append, List.nil_append, ↓reduceIte, not_false_eq_true, not_true_eq_false, Nat.reduceAdd, xj0_01, xj1_01, xb_B, xb_True, xb_False, ↓xj_in, xj_nat, Int.toNat_natCast, xj_lt_t, xj_lt_f, xj_le_t, xj_le_f, xj_eq_t, xj_eq_f, xj_lt, xj_le, xj_eq, xj_add, xj_sub, xj_mul, show ¬ xj 1 = xj 0 from by decide, e1]
          exact po
    · have hq := hx c0
      rw [hq] at out
      simp (disch := omega) only [b70_108, b70_109, b70_112, b70_115, b70_116, b70_119, b70_122, b70_123, b70_124, List.getElem?_cons_zero, List.getElem?_cons_succ, List.length_cons, List.length_nil, List.set_cons_zero, List.set_cons_succ, true_and, and_true, Option.toList_some, Option.toList_none, List.cons_append, List.nil_append, ↓reduceIte, not_false_eq_true, not_true_eq_false, Nat.reduceAdd, xj0_01, xj1_01, xb_B, xb_True, xb_False, ↓xT_fa h1'.1, ↓xj_in, xj_nat, Int.toNat_natCast, xj_lt_t, xj_lt_f, xj_le_t, xj_le_f, xj_eq_t, xj_eq_f, xj_lt, xj_le, xj_eq, xj_add, xj_sub, xj_mul, show ¬ xj 1 = xj 0 from by decide]
      rw [b70_126, rc_T h1'.1, true_and]
      refine u_markR (by omega) hta h1' (Or.inl rfl) (fun c3 f2 g2 h2' => ?_) (fun c3 f2 g2 h2' => ?_)
      · have po := out f2 _ _ (frRd_t fr1 g2) h2' c0 rfl
        simp (disch := omega) only [b70_129, b70_132, List.getElem?_cons_zero, List.getElem?_cons_succ, List.length_cons, List.length_nil, List.set_cons_zero, List.set_cons_succ, true_and, and_true, Option.toList_some, Option.toList_none, List.cons_append, List.nil_append, ↓reduceIte, not_false_eq_true, not_true_eq_false, Nat.reduceAdd, xj0_01, xj1_01, xb_B, xb_True, xb_False, ↓xj_in, xj_nat, Int.toNat_natCast, xj_lt_t, xj_lt_f, xj_le_t, xj_le_f, xj_eq_t, xj_eq_f, xj_lt, xj_le, xj_eq, xj_add, xj_sub, xj_mul, show ¬ xj 1 = xj 0 from by decide, e1]
        exact po
      · rw [if_neg c0] at h2'
        have po := out f2 _ _ (frRd_t fr1 g2) h2' c0 rfl
        simp (disch := omega) only [b70_129, b70_132, List.getElem?_cons_zero, List.getElem?_cons_succ, List.length_cons, List.length_nil, List.set_cons_zero, List.set_cons_succ, true_and, and_true, Option.toList_some, Option.toList_none, List.cons_append, List.nil_append, ↓reduceIte, not_false_eq_true, not_true_eq_false, Nat.reduceAdd, xj0_01, xj1_01, xb_B, xb_True, xb_False, ↓xj_in, xj_nat, Int.toNat_natCast, xj_lt_t, xj_lt_f, xj_le_t, xj_le_f, xj_eq_t, xj_eq_f, xj_lt, xj_le, xj_eq, xj_add, xj_sub, xj_mul, show ¬ xj 1 = xj 0 from by decide, e1]
        exact po
theorem c_read {c0 : Nat} (hD : 42 ≤ D) (hta : t + 4 ≤ a) (hT : xT f t T n p 0) (h0 : f a = .inr (8, [.ref (a + 1), .int (xj (c0 : Nat))])) (hL : xL f (a + 1) cs) (hpost : ∀ f' s' fa', frRd a t f f' → xRd f' a t T n s' fa' → (fa' = 0 → ∃ ru', gRu T n 13 p 0 [] = .inr ru' ∧ s'.2.2 = flC ru') → (fa' ≠ 0 → gRu T n 13 p 0 [] = .inl fa') → K none (f', w)) : xk_Cl D 70 [.ref a, .ref t] (f, w) K := by
  rw [e70 (by omega)]
  have p1 : ∀ v G, xk_PF f a 8 1 v G ↔ G (va_up f a (.inr (8, [.ref (a + 1), v]))) := fun v G => pf_R h0 (by show 1 < 2; decide)
  have k1 : va_up f a (.inr (8, [.ref (a + 1), .int (xj 0)])) a = .inr (8, [.ref (a + 1), .int (xj 0)]) := up_s _ _ _
  have g0 : ∀ V, xk_GF (va_up f a (.inr (8, [.ref (a + 1), .int (xj 0)]))) a 8 0 V ↔ V (.ref (a + 1)) := fun V => gf_R k1 rfl
  have hL1 : xL (va_up f a (.inr (8, [.ref (a + 1), .int (xj 0)]))) (a + 1) cs := xL_fr hL (fun x h1 h2 => up_ne (by omega))
  simp (disch := omega) only [b70_0, b70_1, b70_2, b70_5, b70_6, List.getElem?_cons_zero, List.getElem?_cons_succ, List.length_cons, List.length_nil, List.set_cons_zero, List.set_cons_succ, true_and, and_true, Option.toList_some, Option.toList_none, List.cons_append, List.nil_append, ↓reduceIte, not_false_eq_true, not_true_eq_false, Nat.reduceAdd, xj0_01, xj1_01, xb_B, xb_True, xb_False, ↓p1, ↓g0]
  rw [b70_9, rc_L hL1, true_and]
  refine u_Rclear (by omega) hL1 (fun f2 e2 h2 => ?_)
  have hf2 : ∀ x, (x < a ∨ a + 1 + 3 ≤ x) → f2 x = f x := fun x hx => by rw [e2 x (by omega), up_ne (by omega)]
  have hr2 : xRd f2 a t T n (p, 0, flC []) 0 := ⟨xT_fr hT (fun x h1 h2 => hf2 x (by omega)), by rw [e2 a (by omega)]; exact k1, Nat.zero_le _, h2⟩
  simp (disch := omega) only [b70_12, b70_13, List.getElem?_cons_zero, List.getElem?_cons_succ, List.length_cons, List.length_nil, List.set_cons_zero, List.set_cons_succ, true_and, and_true, Option.toList_some, Option.toList_none, List.cons_append, List.nil_append, ↓reduceIte, not_false_eq_true, not_true_eq_false, Nat.reduceAdd, xj0_01, xj1_01, xb_B, xb_True, xb_False]
  exact c_readL hD hta 13 [] p 0 f2 _ rfl (Nat.zero_le _) hr2 (fun x _ h2 => hf2 x (by omega)) (Nat.zero_le _) hpost
theorem mix_in {n : Nat} {g h : Nat → Int} {i : Nat} (hi : i < n) : mixI n g h i = g i := if_pos hi
theorem u_Rcopy (hD : 2 ≤ D) (h : xL f r cs) (h2 : xL f q cs2) (hd : r + 3 ≤ q ∨ q + 3 ≤ r) (hpost : ∀ f', (∀ x, (x < r ∨ r + 3 ≤ x) → f' x = f x) → xL f' r cs2 → K none (f', w)) : xk_Cl D 60 [.ref r, .ref q] (f, w) K := by
  rw [e60 (by omega)]
  obtain ⟨st, op, a0, a1, a2, a3, a4⟩ := h
  obtain ⟨st2, op2, c0, c1, c2, c3, c4⟩ := h2
  have p2 : ∀ v G, xk_PF f r 7 2 v G ↔ G (va_up f r (.inr (7, [.ref (r + 1), .ref (r + 2), v, .ref (r + 3)]))) := fun v G => pf_R a0 (by show 2 < 4; decide)
  have gq2 : ∀ V, xk_GF f q 7 2 V ↔ V (.int (xj (cs2.length : Nat))) := fun V => gf_R c0 rfl
  generalize hf1 : va_up f r (.inr (7, [.ref (r + 1), .ref (r + 2), .int (xj (cs2.length : Nat)), .ref (r + 3)])) = f1 at *
  have e1 : ∀ x, x ≠ r → f1 x = f x := fun x hx => by rw [← hf1]; exact up_ne hx
  have r1 : f1 r = .inr (7, [.ref (r + 1), .ref (r + 2), .int (xj (cs2.length : Nat)), .ref (r + 3)]) := by rw [← hf1]; exact up_s _ _ _
  have q1 : f1 q = .inr (7, [.ref (q + 1), .ref (q + 2), .int (xj (cs2.length : Nat)), .ref (q + 3)]) := (e1 q (by omega)).trans c0
  have gq0 : ∀ V, xk_GF f1 q 7 0 V ↔ V (.ref (q + 1)) := fun V => gf_R q1 rfl
  have gr0 : ∀ V, xk_GF f1 r 7 0 V ↔ V (.ref (r + 1)) := fun V => gf_R r1 rfl
  have cr1 := fun K' => s_copyRow (D := D - 1) (w := w) (K := K') (by omega) ((e1 (q + 1) (by omega)).trans c1) ((e1 (r + 1) (by omega)).trans a1) (by omega) (by decide)
  generalize hf2 : va_up f1 (r + 1) (xa_I 400 (mixI 400 st2 st)) = f2 at *
  have e2 : ∀ x, x ≠ r + 1 → f2 x = f1 x := fun x hx => by rw [← hf2]; exact up_ne hx
  have gq1 : ∀ V, xk_GF f2 q 7 1 V ↔ V (.ref (q + 2)) := fun V => gf_R ((e2 q (by omega)).trans q1) rfl
  have gr1 : ∀ V, xk_GF f2 r 7 1 V ↔ V (.ref (r + 2)) := fun V => gf_R ((e2 r (by omega)).trans r1) rfl
  have cr2 := fun K' => s_copyRow (D := D - 1) (w := w) (K := K') (by omega) ((e2 (q + 2) (by omega)).trans ((e1 (q + 2) (by omega)).trans c2)) ((e2 (r + 2) (by omega)).trans ((e1 (r + 2) (by omega)).trans a2)) (by omega) (by decide)
  have po := hpost (va_up f2 (r + 2) (xa_I 400 (mixI 400 op2 op))) (fun x hx => by rw [up_ne (by omega), e2 x (by omega), e1 x (by omega)]) ⟨mixI 400 st2 st, mixI 400 op2 op, by rw [up_ne (by omega), e2 r (by omega)]; exact r1, by rw [up_ne (by omega), ← hf2]; exact up_s _ _ _, up_s _ _ _, c3, fun i c hi => by
    have hi2 : i < cs2.length := (List.getElem?_eq_some_iff.mp hi).1
    rw [mix_in (by omega), mix_in (by omega)]
    exact c4 i c hi⟩
  simp (disch := omega) only [b60_0, b60_1, b60_2, b60_5, b60_8, b60_9, b60_12, b60_13, b60_16, b60_19, b60_20, b60_23, b60_24, b60_27, b60_30, List.getElem?_cons_zero, List.getElem?_cons_succ, List.length_cons, List.length_nil, List.set_cons_zero, List.set_cons_succ, true_and, and_true, Option.toList_some, Option.toList_none, List.cons_append, List.nil_append, ↓reduceIte, not_false_eq_true, not_true_eq_false, Nat.reduceAdd, xj0_01, xj1_01, xb_B, xb_True, xb_False, ↓p2, ↓gq2, hf1, ↓gq0, ↓gr0, cr1, hf2, ↓gq1, ↓gr1, cr2]
  exact po
end XS99d
