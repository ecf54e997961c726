/-! the class reads facts, tests -/
def wI (wt : Bool) : Int := if wt = true then 1 else 0
def wtS (wt : Bool) : List St := if wt = true then [(13, 0)] else []
theorem wtS_len (wt : Bool) : (wtS wt).length = if wt = true then 1 else 0 := by cases wt <;> rfl
theorem rdR_f {G : Ps → Pr} {s s' : Ps} {fa fa1 e : Nat} (he : e ≠ 0) (h0 : fa1 = 0 → fa = 0 ∧ G s = .inl e) (hb : fa1 ≠ 0 → ∀ s', rdR G s fa s' fa1) : rdR G s fa s' (if fa1 = 0 then e else fa1) := by
  by_cases c : fa1 = 0
  · rw [if_pos c]
    obtain ⟨h1, h2⟩ := h0 c
    exact ⟨fun _ => Or.inr ⟨he, h2⟩, fun q => absurd h1 q⟩
  · rw [if_neg c]
    exact hb c s'
/-- what was read, and what is read behind it -/
theorem rdR_nf {G : Ps → Pr} {s s1 : Ps} {fa fa1 : Nat} (r : rdR G s fa s1 fa1) (h : fa1 = 0) : fa = 0 ∧ G s = .inr s1 := by
  by_cases c : fa = 0
  · rcases r.1 c with ⟨_, q⟩ | ⟨q, _⟩
    · exact ⟨c, q⟩
    · exact absurd h q
  · have := r.2 c
    omega
theorem rdR_bd {G H : Ps → Pr} {k : Ps → Pr} {s s1 : Ps} {fa fa1 : Nat} (hH : H s = bdP (G s) k) (r : rdR G s fa s1 fa1) (h : fa1 ≠ 0) (s' : Ps) : rdR H s fa s' fa1 := by
  refine ⟨fun c => ?_, r.2⟩
  rcases r.1 c with ⟨q, _⟩ | ⟨_, q⟩
  · exact absurd q h
  · exact Or.inr ⟨h, by rw [hH, q]; rfl⟩
section XS99b
variable {D a b k p q n r t c v fa : Nat} {f g : Nat → xk_C} {w : Nat × Nat × Nat} {K : Option Value → xk_S → Prop} {x y z : Int} {T : Nat → Int} {V : Value → Prop} {F : Int32 → Prop} {s : Ps} {cs : List St}
theorem opC_le (T : Nat → Int) (n p : Nat) : opC T n p ≤ 11 ∧ (opC T n p ≠ 0 → 7 ≤ opC T n p) := by
  unfold opC
  repeat' split
  all_goals omega
theorem s_signNext (hD : 2 ≤ D) (h : xT f t T n p fa) : xk_Cl D 74 [.ref a, .ref t] (f, w) K ↔ K (some (.int (xj (if opC T n p = 0 then -1 else (opC T n p : Nat))))) (f, w) := by
  rw [e74 (by omega)]
  have hv := va_rng (p := p) (xT_at h).2.1
  have hkr := kd_rng T n p
  by_cases c : kdT T n p = 3
  · have mC : ∀ v : Int, vaT T n p = v → opC T n p = (if v = 60 then 7 else if v = 316 then 8 else if v = 61 then 9 else if v = 318 then 10 else if v = 62 then 11 else 0) := fun v hv => by unfold opC; rw [if_pos c, hv]
    by_cases d1 : vaT T n p = 60
    · rw [show opC T n p = 7 from mC _ d1, if_neg (by decide)]
      (simp (disch := omega) only [b74_0, b74_1, b74_4, b74_5, b74_8, b74_9, b74_10, b74_11, b74_14, b74_64, b74_66, b74_67, b74_69, b74_70, b74_72, b74_73, b74_75, b74_76, b74_78, b74_79, b74_80, List.getElem?_cons_zero, List.getElem?_cons_succ, List.length_cons, List.length_nil, List.set_cons_zero, List.set_cons_succ, true_and, and_true, Option.toList_some, Option.toList_none, List.cons_append, List.nil_append, ↓reduceIte, not_false_eq_true, not_true_eq_false, Nat.reduceAdd, xj0_01, xj1_01, xb_B, xb_True, xb_False, rc_T h, s_kind _ h, s_value _ h, c, d1, ↓xj_in, xj_nat, Int.toNat_natCast, xj_lt_t, xj_lt_f, xj_le_t, xj_le_f, xj_eq_t, xj_eq_f, xj_lt, xj_le, xj_eq, xj_add, xj_sub, xj_mul, show ¬ xj 1 = xj 0 from by decide]) <;> rfl
    · by_cases d2 : vaT T n p = 316
      · rw [show opC T n p = 8 from mC _ d2, if_neg (by decide)]
        (simp (disch := omega) only [b74_0, b74_1, b74_4, b74_5, b74_8, b74_9, b74_10, b74_11, b74_14, b74_64, b74_66, b74_67, b74_69, b74_70, b74_72, b74_73, b74_75, b74_76, b74_78, b74_79, b74_80, List.getElem?_cons_zero, List.getElem?_cons_succ, List.length_cons, List.length_nil, List.set_cons_zero, List.set_cons_succ, true_and, and_true, Option.toList_some, Option.toList_none, List.cons_append, List.nil_append, ↓reduceIte, not_false_eq_true, not_true_eq_false, Nat.reduceAdd, xj0_01, xj1_01, xb_B, xb_True, xb_False, rc_T h, s_kind _ h, s_value _ h, c, d2, ↓xj_in, xj_nat, Int.toNat_natCast, xj_lt_t, xj_lt_f, xj_le_t, xj_le_f, xj_eq_t, xj_eq_f, xj_lt, xj_le, xj_eq, xj_add, xj_sub, xj_mul, show ¬ xj 1 = xj 0 from by decide]) <;> rfl
      · by_cases d3 : vaT T n p = 61
        · rw [show opC T n p = 9 from mC _ d3, if_neg (by decide)]
          (simp (disch := omega) only [b74_0, b74_1, b74_4, b74_5, b74_8, b74_9, b74_10, b74_11, b74_14, b74_64, b74_66, b74_67, b74_69, b74_70, b74_72, b74_73, b74_75, b74_76, b74_78, b74_79, b74_80, List.getElem?_cons_zero, List.getElem?_cons_succ, List.length_cons, List.length_nil, List.set_cons_zero, List.set_cons_succ, true_and, and_true, Option.toList_some, Option.toList_none, List.cons_append, List.nil_append, ↓reduceIte, not_false_eq_true, not_true_eq_false, Nat.reduceAdd, xj0_01, xj1_01, xb_B, xb_True, xb_False, rc_T h, s_kind _ h, s_value _ h, c, d3, ↓xj_in, xj_nat, Int.toNat_natCast, xj_lt_t, xj_lt_f, xj_le_t, xj_le_f, xj_eq_t, xj_eq_f, xj_lt, xj_le, xj_eq, xj_add, xj_sub, xj_mul, show ¬ xj 1 = xj 0 from by decide]) <;> rfl
        · by_cases d4 : vaT T n p = 318
          · rw [show opC T n p = 10 from mC _ d4, if_neg (by decide)]
            (simp (disch := omega) only [b74_0, b74_1, b74_4, b74_5, b74_8, b74_9, b74_10, b74_11, b74_14, b74_64, b74_66, b74_67, b74_69, b74_70, b74_72, b74_73, b74_75, b74_76, b74_78, b74_79, b74_80, List.getElem?_cons_zero, List.getElem?_cons_succ, List.length_cons, List.length_nil, List.set_cons_zero, List.set_cons_succ, true_and, and_true, Option.toList_some, Option.toList_none, List.cons_append, List.nil_append, ↓reduceIte, not_false_eq_true, not_true_eq_false, Nat.reduceAdd, xj0_01, xj1_01, xb_B, xb_True, xb_False, rc_T h, s_kind _ h, s_value _ h, c, d4, ↓xj_in, xj_nat, Int.toNat_natCast, xj_lt_t, xj_lt_f, xj_le_t, xj_le_f, xj_eq_t, xj_eq_f, xj_lt, xj_le, xj_eq, xj_add, xj_sub, xj_mul, show ¬ xj 1 = xj 0 from by decide]) <;> rfl
          · by_cases d5 : vaT T n p = 62
            · rw [show opC T n p = 11 from mC _ d5, if_neg (by decide)]
              (simp (disch := omega) only [b74_0, b74_1, b74_4, b74_5, b74_8, b74_9, b74_10, b74_11, b74_14, b74_64, b74_66, b74_67, b74_69, b74_70, b74_72, b74_73, b74_75, b74_76, b74_78, b74_79, b74_80, List.getElem?_cons_zero, List.getElem?_cons_succ, List.length_cons, List.length_nil, List.set_cons_zero, List.set_cons_succ, true_and, and_true, Option.toList_some, Option.toList_none, List.cons_append, List.nil_append, ↓reduceIte, not_false_eq_true, not_true_eq_false, Nat.reduceAdd, xj0_01, xj1_01, xb_B, xb_True, xb_False, rc_T h, s_kind _ h, s_value _ h, c, d5, ↓xj_in, xj_nat, Int.toNat_natCast, xj_lt_t, xj_lt_f, xj_le_t, xj_le_f, xj_eq_t, xj_eq_f, xj_lt, xj_le, xj_eq, xj_add, xj_sub, xj_mul, show ¬ xj 1 = xj 0 from by decide]) <;> rfl
            · have m0 : opC T n p = 0 := by rw [mC _ rfl, if_neg d1, if_neg d2, if_neg d3, if_neg d4, if_neg d5]
              rw [m0, if_pos rfl]
              (simp (disch := omega) only [b74_0, b74_1, b74_4, b74_5, b74_8, b74_9, b74_10, b74_11, b74_14, b74_64, b74_66, b74_67, b74_69, b74_70, b74_72, b74_73, b74_75, b74_76, b74_78, b74_79, b74_80, List.getElem?_cons_zero, List.getElem?_cons_succ, List.length_cons, List.length_nil, List.set_cons_zero, List.set_cons_succ, true_and, and_true, Option.toList_some, Option.toList_none, List.cons_append, List.nil_append, ↓reduceIte, not_false_eq_true, not_true_eq_false, Nat.reduceAdd, xj0_01, xj1_01, xb_B, xb_True, xb_False, rc_T h, s_kind _ h, s_value _ h, c, ↓xj_in, xj_nat, Int.toNat_natCast, xj_lt_t, xj_lt_f, xj_le_t, xj_le_f, xj_eq_t, xj_eq_f, xj_lt, xj_le, xj_eq, xj_add, xj_sub, xj_mul, show ¬ xj 1 = xj 0 from by decide]) <;> rfl
  · have m0 : opC T n p = 0 := by unfold opC; rw [if_neg c]
    rw [m0, if_pos rfl]
    simp (disch := omega) only [b74_0, b74_1, b74_4, b74_5, b74_8, b74_9, List.getElem?_cons_zero, List.getElem?_cons_succ, List.length_cons, List.length_nil, List.set_cons_zero, List.set_cons_succ, true_and, and_true, Option.toList_some, Option.toList_none, List.cons_append, List.nil_append, ↓reduceIte, not_false_eq_true, not_true_eq_false, Nat.reduceAdd, xj0_01, xj1_01, xb_B, xb_True, xb_False, rc_T h, s_kind _ h, ↓xj_in, xj_nat, Int.toNat_natCast, xj_lt_t, xj_lt_f, xj_le_t, xj_le_f, xj_eq_t, xj_eq_f, xj_lt, xj_le, xj_eq, xj_add, xj_sub, xj_mul, show ¬ xj 1 = xj 0 from by decide]
theorem c_cmp {l2 l3 : Value} (hD : 6 ≤ D) (hta : t + 4 ≤ a) (h : xRd f a t T n s fa) (hr : fa = 0 → s.2.2.length < s.1) (hpost : rdK (gCmp T n) T n a t f s fa w K) : xk_B (D - 1) 72 25 [.ref a, .ref t, l2, l3] [] (f, w) K := by
  simp (disch := omega) only [b72_25, b72_26, List.getElem?_cons_zero, List.getElem?_cons_succ, List.length_cons, List.length_nil, List.set_cons_zero, List.set_cons_succ, true_and, and_true, Option.toList_some, Option.toList_none, List.cons_append, List.nil_append, ↓reduceIte, not_false_eq_true, not_true_eq_false, Nat.reduceAdd, xj0_01, xj1_01, xb_B, xb_True, xb_False]
  rw [b72_27, rc_Rd h, true_and]
  refine c_sum (by omega) hta h hr (fun f1 s1 fa1 g1 h1 r1 => ?_)
  obtain ⟨ha1, hT, hfa1⟩ := rd_rng h1
  have hn := hT.1
  have hc := opC_le T n s1.1
  have hm1 := h1.2.2.1
  have hG : gCmp T n s = bdP (gSum T n s) (fun s1 => if opC T n s1.1 = 0 then .inl (1 + 8 * s1.1) else if 60 ≤ s1.2.1 then .inl (1 + 8 * s1.1 + 3) else bdP (gSum T n (nxT T n s1.1, s1.2.1 + 1, s1.2.2)) (fun s2 => .inr (s2.1, s2.2.1, s2.2.2 ++ [(opC T n s1.1, 0)]))) := rfl
  have bad := fun q s' => rdR_bd hG r1 q s'
  have good : fa1 = 0 → fa = 0 ∧ gCmp T n s = (if opC T n s1.1 = 0 then .inl (1 + 8 * s1.1) else if 60 ≤ s1.2.1 then .inl (1 + 8 * s1.1 + 3) else bdP (gSum T n (nxT T n s1.1, s1.2.1 + 1, s1.2.2)) (fun s2 => .inr (s2.1, s2.2.1, s2.2.2 ++ [(opC T n s1.1, 0)]))) := fun q => by
    obtain ⟨q1, q2⟩ := rdR_nf r1 q
    refine ⟨q1, ?_⟩
    rw [hG, q2]
    rfl
  by_cases c : opC T n s1.1 = 0
  · have e : (if opC T n s1.1 = 0 then (-1 : Int) else (opC T n s1.1 : Nat)) = -1 := if_pos c
    simp (disch := omega) only [b72_30, b72_31, b72_32, b72_35, b72_36, b72_37, b72_38, b72_41, b72_42, List.getElem?_cons_zero, List.getElem?_cons_succ, List.length_cons, List.length_nil, List.set_cons_zero, List.set_cons_succ, true_and, and_true, Option.toList_some, Option.toList_none, List.cons_append, List.nil_append, ↓reduceIte, not_false_eq_true, not_true_eq_false, Nat.reduceAdd, xj0_01, xj1_01, xb_B, xb_True, xb_False, rc_Rd h1, s_signNext _ h1.1, e, ↓xj_in, xj_nat, Int.toNat_natCast, xj_lt_t, xj_lt_f, xj_le_t, xj_le_f, xj_eq_t, xj_eq_f, xj_lt, xj_le, xj_eq, xj_add, xj_sub, xj_mul, show ¬ xj 1 = xj 0 from by decide]
    rw [b72_43, rc_T h1.1, true_and]
    refine u_failR (k := 0) (by omega) hta h1 (by omega) (fun f2 g2 h2 => ?_)
    have po := hpost f2 s1 _ (frRd_t g1 g2) h2 (rdR_f (by omega) (fun q => ⟨(good q).1, by rw [(good q).2, if_pos c]; rfl⟩) bad)
    simp (disch := omega) only [b72_46, b72_49, b72_50, b72_53, b72_55, b72_58, b72_59, b72_60, b72_63, b72_66, b72_67, b72_68, b72_71, b72_72, b72_73, b72_76, b72_77, b72_80, b72_81, b72_82, b72_85, b72_86, b72_89, b72_90, b72_91, b72_94, List.getElem?_cons_zero, List.getElem?_cons_succ, List.length_cons, List.length_nil, List.set_cons_zero, List.set_cons_succ, true_and, and_true, Option.toList_some, Option.toList_none, List.cons_append, List.nil_append, ↓reduceIte, not_false_eq_true, not_true_eq_false, Nat.reduceAdd, xj0_01, xj1_01, xb_B, xb_True, xb_False]
    exact po
  · have e : (if opC T n s1.1 = 0 then (-1 : Int) else (opC T n s1.1 : Nat)) = (opC T n s1.1 : Nat) := if_neg c
    by_cases c2 : 60 ≤ s1.2.1
    · simp (disch := omega) only [b72_30, b72_31, b72_32, b72_35, b72_36, b72_37, b72_38, b72_41, b72_42, b72_43, b72_46, b72_49, b72_50, b72_53, b72_55, b72_58, b72_59, List.getElem?_cons_zero, List.getElem?_cons_succ, List.length_cons, List.length_nil, List.set_cons_zero, List.set_cons_succ, true_and, and_true, Option.toList_some, Option.toList_none, List.cons_append, List.nil_append, ↓reduceIte, not_false_eq_true, not_true_eq_false, Nat.reduceAdd, xj0_01, xj1_01, xb_B, xb_True, xb_False, rc_Rd h1, s_signNext _ h1.1, e, ↓xj_in, xj_nat, Int.toNat_natCast, xj_lt_t, xj_lt_f, xj_le_t, xj_le_f, xj_eq_t, xj_eq_f, xj_lt, xj_le, xj_eq, xj_add, xj_sub, xj_mul, show ¬ xj 1 = xj 0 from by decide, ↓grd_1 h1]
      rw [b72_60, rc_T h1.1, true_and]
      refine u_failR (k := 3) (by omega) hta h1 (by omega) (fun f2 g2 h2 => ?_)
      have po := hpost f2 s1 _ (frRd_t g1 g2) h2 (rdR_f (by omega) (fun q => ⟨(good q).1, by rw [(good q).2, if_neg c, if_pos c2]⟩) bad)
      simp (disch := omega) only [b72_63, b72_66, b72_67, b72_68, b72_71, b72_72, b72_73, b72_76, b72_77, b72_80, b72_81, b72_82, b72_85, b72_86, b72_89, b72_90, b72_91, b72_94, List.getElem?_cons_zero, List.getElem?_cons_succ, List.length_cons, List.length_nil, List.set_cons_zero, List.set_cons_succ, true_and, and_true, Option.toList_some, Option.toList_none, List.cons_append, List.nil_append, ↓reduceIte, not_false_eq_true, not_true_eq_false, Nat.reduceAdd, xj0_01, xj1_01, xb_B, xb_True, xb_False]
      exact po
    · have hsn := opC_kd c
      have nx := nx_rng (T := T) hn hsn
      have e1 : ((s1.2.1 : Nat) : Int) + 1 = ((s1.2.1 + 1 : Nat) : Int) := by omega
      obtain ⟨h2, g2⟩ := xRd_1 hta h1 (by omega)
      simp (disch := omega) only [b72_30, b72_31, b72_32, b72_35, b72_36, b72_37, b72_38, b72_41, b72_42, b72_43, b72_46, b72_49, b72_50, b72_53, b72_55, b72_58, b72_59, b72_60, b72_63, b72_66, b72_67, b72_68, b72_71, b72_72, b72_73, b72_76, List.getElem?_cons_zero, List.getElem?_cons_succ, List.length_cons, List.length_nil, List.set_cons_zero, List.set_cons_succ, true_and, and_true, Option.toList_some, Option.toList_none, List.cons_append, List.nil_append, ↓reduceIte, not_false_eq_true, not_true_eq_false, Nat.reduceAdd, xj0_01, xj1_01, xb_B, xb_True, xb_False, rc_Rd h1, s_signNext _ h1.1, e, ↓xj_in, xj_nat, Int.toNat_natCast, xj_lt_t, xj_lt_f, xj_le_t, xj_le_f, xj_eq_t, xj_eq_f, xj_lt, xj_le, xj_eq, xj_add, xj_sub, xj_mul, show ¬ xj 1 = xj 0 from by decide, ↓grd_1 h1, ↓prd_1 h1, e1]
      rw [b72_77, rc_T h2.1, true_and]
      refine u_stepR (by omega) hta h2 hsn (fun f3 g3 h3 => ?_)
      simp (disch := omega) only [b72_80, b72_81, List.getElem?_cons_zero, List.getElem?_cons_succ, List.length_cons, List.length_nil, List.set_cons_zero, List.set_cons_succ, true_and, and_true, Option.toList_some, Option.toList_none, List.cons_append, List.nil_append, ↓reduceIte, not_false_eq_true, not_true_eq_false, Nat.reduceAdd, xj0_01, xj1_01, xb_B, xb_True, xb_False]
      rw [b72_82, rc_Rd h3, true_and]
      refine c_sum (by omega) hta h3 (fun q => ?_) (fun f4 s4 fa4 g4 h4 r4 => ?_)
      · obtain ⟨q1, q2⟩ := rdR_nf r1 q
        obtain ⟨⟨_, _, _, w4⟩, w5⟩ := gSum_rm hn q2
        have := hr q1
        show s1.2.2.length < nxT T n s1.1
        omega
      · simp (disch := omega) only [b72_85, b72_86, b72_89, b72_90, List.getElem?_cons_zero, List.getElem?_cons_succ, List.length_cons, List.length_nil, List.set_cons_zero, List.set_cons_succ, true_and, and_true, Option.toList_some, Option.toList_none, List.cons_append, List.nil_append, ↓reduceIte, not_false_eq_true, not_true_eq_false, Nat.reduceAdd, xj0_01, xj1_01, xb_B, xb_True, xb_False, ↓grd_0 h4]
        rw [b72_91, rc_L h4.2.2.2, true_and]
        refine u_addR (v := 0) (by omega) hta h4 (fun f5 g5 h5 => ?_)
        have po := hpost f5 _ fa4 (frRd_t g1 (frRd_t g2 (frRd_t g3 (frRd_t g4 g5)))) h5 (by
          by_cases q : fa1 = 0
          · obtain ⟨q1, q2⟩ := good q
            rw [if_neg c, if_neg c2] at q2
            refine ⟨fun _ => ?_, fun q3 => absurd q1 q3⟩
            rcases r4.1 q with ⟨q3, q4⟩ | ⟨q3, q4⟩
            · obtain ⟨_, q5⟩ := rdR_nf r1 q
              obtain ⟨⟨_, _, _, w4⟩, w5⟩ := gSum_rm hn q5
              obtain ⟨⟨_, u2, _, u4⟩, u5⟩ := gSum_rm hn q4
              have u4 : s4.2.2.length + nxT T n s1.1 ≤ s1.2.2.length + s4.1 := u4
              have := hr q1
              refine Or.inl ⟨q3, ?_⟩
              rw [q2, q4, addC_y (by omega)]
              rfl
            · exact Or.inr ⟨q3, by rw [q2, q4]; rfl⟩
          · have e4 := r4.2 q
            rw [e4]
            exact bad q _)
        simp (disch := omega) only [b72_94, List.getElem?_cons_zero, List.getElem?_cons_succ, List.length_cons, List.length_nil, List.set_cons_zero, List.set_cons_succ, true_and, and_true, Option.toList_some, Option.toList_none, List.cons_append, List.nil_append, ↓reduceIte, not_false_eq_true, not_true_eq_false, Nat.reduceAdd, xj0_01, xj1_01, xb_B, xb_True, xb_False]
        exact po
/-- a fact at the depth 10 less e -/
def cFP (T : Nat → Int) (n a t e : Nat) : Prop := ∀ (D d : Nat) (f : Nat → xk_C) (s : Ps) (fa : Nat) (w : Nat × Nat × Nat) (K : Option Value → xk_S → Prop), d + e = 10 → 3 * e + 8 ≤ D → xRd f a t T n s fa → (fa = 0 → s.2.2.length < s.1) → rdK (gFact T n e) T n a t f s fa w K → xk_Cl D 72 [.ref a, .ref t, .int (xj (d : Nat))] (f, w) K
def cTP (T : Nat → Int) (n a t e : Nat) : Prop := ∀ (D d : Nat) (f : Nat → xk_C) (s : Ps) (fa : Nat) (w : Nat × Nat × Nat) (K : Option Value → xk_S → Prop), d + e = 10 → 3 * e + 9 ≤ D → xRd f a t T n s fa → (fa = 0 → s.2.2.length < s.1) → rdK (gTest T n (gFact T n e)) T n a t f s fa w K → xk_Cl D 71 [.ref a, .ref t, .int (xj (d : Nat))] (f, w) K
theorem tsF_s (T : Nat → Int) (n : Nat) (F : Ps → Pr) (m : Nat) (wt : Bool) (s : Ps) : tsF T n F (m + 1) wt s = if wdA T n s.1 = 18 then bdP (F (nxT T n s.1, s.2.1, s.2.2 ++ wtS wt)) (tsF T n F m true) else if wdA T n s.1 = 19 then bdP (F (nxT T n s.1, s.2)) (fun s1 => tsF T n F m wt (s1.1, s1.2.1, s1.2.2 ++ [(12, 0)])) else .inr (s.1, s.2.1, s.2.2 ++ wtS wt) := rfl
theorem ts_end {F : Ps → Pr} {T : Nat → Int} {n : Nat} (m : Nat) (wt : Bool) (s : Ps) (h1 : wdA T n s.1 ≠ 18) (h2 : wdA T n s.1 ≠ 19) : tsF T n F (m + 1) wt s = .inr (s.1, s.2.1, s.2.2 ++ wtS wt) := by
  rw [tsF_s, if_neg h1, if_neg h2]
theorem s_isW_y (hD : 2 ≤ D) (h : xT f t T n p fa) (hk : k < 1000) (hz : z = (k : Nat)) (hc : wdA T n p = k) : xk_Cl D 92 [.ref t, .int (xj z)] (f, w) K ↔ K (some (.int (xj 1))) (f, w) := by
  rw [hz, s_isWord hD h hk, xb_t hc]
theorem s_isW_n (hD : 2 ≤ D) (h : xT f t T n p fa) (hk : k < 1000) (hz : z = (k : Nat)) (hc : ¬ wdA T n p = k) : xk_Cl D 92 [.ref t, .int (xj z)] (f, w) K ↔ K (some (.int (xj 0))) (f, w) := by
  rw [hz, s_isWord hD h hk, xb_f hc]
theorem wd_out {T : Nat → Int} {n p : Nat} (h : n ≤ p) (k : Nat) : wdA T n p ≠ k := fun q => by
  have := (wd_lt (T := T) (n := n) (p := p) (by omega)).1
  omega
end XS99b
