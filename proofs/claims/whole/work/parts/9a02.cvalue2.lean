/-! the class reckons by a rule: all steps -/
section XS9a02
variable {D a b k p q n r t c v fa s : Nat} {f : Nat → xk_C} {w : Nat × Nat × Nat} {K : Option Value → xk_S → Prop} {x y z : Int} {g0 wv wd : Nat → Int64} {cs : List St}
theorem u_valueFor (hD : 3 ≤ D) (h : xL f r cs) (hst : f (r + 3) = .inl (3, 64, .inr (.inl g0))) (hwa : f a = .inl (3, 13, .inr (.inl wv))) (har : a ≠ r + 3) (hwd : ∀ i, i < 13 → wv i = wd i) (hok : ∀ c, c ∈ cs → stOK c) (hpc : pcF cs ≤ 60) (hpost : ∀ g', K (some (.long (mcF wd cs []))) (xq f r g', w)) : xk_Cl D 63 [.ref r, .ref a] (f, w) K := by
  rw [e63 (by omega)]
  have hx := h
  obtain ⟨st_, op_, h0, h1, h2, h3, h4⟩ := h
  have loop : ∀ (rest : List St) (k : Nat) (st : List Int64) (g : Nat → Int64) (l4 : Value), k + rest.length = cs.length → (∀ i c, rest[i]? = some c → cs[k + i]? = some c) → (∀ c, c ∈ rest → stOK c) → sk g st → st.length + pcF rest ≤ 64 → mcF wd rest st = mcF wd cs [] → xk_B (D - 1) 63 4 [.ref r, .ref a, .int (xj (st.length : Nat)), .int (xj (k : Nat)), l4] [] (xq f r g, w) K := by
    intro rest
    induction rest with
    | nil =>
      intro k st g l4 e1 e2 e3 e4 e5 e6
      have hk : k = cs.length := e1
      have gs : ∀ V, xk_GF (xq f r g) r 7 2 V ↔ V (.int (xj (cs.length : Nat))) := fun V => gf_R ((xq_ne (by omega)).trans h0) rfl
      have po := hpost g
      rw [← e6] at po
      simp (disch := omega) only [b63_4, b63_5, b63_6, b63_9, b63_182, b63_183, List.getElem?_cons_zero, List.getElem?_cons_succ, List.length_cons, List.length_nil, List.set_cons_zero, List.set_cons_succ, true_and, and_true, Option.toList_some, Option.toList_none, List.cons_append, List.nil_append, ↓reduceIte, not_false_eq_true, not_true_eq_false, Nat.reduceAdd, xj0_01, xj1_01, xb_B, xb_True, xb_False, ↓gs, ↓xj_in, xj_nat, Int.toNat_natCast, xj_lt_t, xj_lt_f, xj_le_t, xj_le_f, xj_eq_t, xj_eq_f, xj_lt, xj_le, xj_eq, xj_add, xj_sub, xj_mul, show ¬ xj 1 = xj 0 from by decide]
      exact po
    | cons c rest ih =>
      intro k st g l4 e1 e2 e3 e4 e5 e6
      have hl : (c :: rest).length = rest.length + 1 := List.length_cons
      have gs : ∀ V, xk_GF (xq f r g) r 7 2 V ↔ V (.int (xj (cs.length : Nat))) := fun V => gf_R ((xq_ne (by omega)).trans h0) rfl
      have q0 : ∀ V, xk_GF (xq f r g) r 7 0 V ↔ V (.ref (r + 1)) := fun V => gf_R ((xq_ne (by omega)).trans h0) rfl
      have q1 : ∀ V, xk_GF (xq f r g) r 7 1 V ↔ V (.ref (r + 2)) := fun V => gf_R ((xq_ne (by omega)).trans h0) rfl
      have k1 : xq f r g (r + 1) = xa_I 400 st_ := (xq_ne (by omega)).trans h1
      have k2 : xq f r g (r + 2) = xa_I 400 op_ := (xq_ne (by omega)).trans h2
      have ka : xq f r g a = .inl (3, 13, .inr (.inl wv)) := (xq_ne har).trans hwa
      have hck := h4 k c (e2 0 c rfl)
      obtain ⟨o1, o2, o3⟩ := e3 c List.mem_cons_self
      have e2' : ∀ i c', rest[i]? = some c' → cs[k + 1 + i]? = some c' := fun i c' hi => by
        have := e2 (i + 1) c' hi
        rw [show k + 1 + i = k + (i + 1) by omega]
        exact this
      have e3' : ∀ c', c' ∈ rest → stOK c' := fun c' hc => e3 c' (List.mem_cons_of_mem _ hc)
      have ek : ((k : Nat) : Int) + 1 = ((k + 1 : Nat) : Int) := by omega
      have e5 : st.length + ((if c.1 ≤ 1 then 1 else 0) + pcF rest) ≤ 64 := e5
      have e6 : (if c.1 = 15 then topE st else if c.1 = 16 then (if topE st ≠ 0 then topE (st.drop 1) else mcF wd rest []) else mcF wd rest (ev1 wd c st)) = mcF wd cs [] := e6
      rw [b63_4]
      by_cases c0 : c.1 = 0
      · have s0 : st_ k = 0 := by rw [hck.1, c0]; rfl
        have p0 := hck.2
        have b0 := o2 c0
        rw [if_pos (by omega)] at e5
        rw [if_neg (by omega), if_neg (by omega)] at e6
        have ev : ev1 wd c st = jx (c.2 : Nat) :: st := by unfold ev1; rw [if_pos c0]
        rw [ev] at e6
        have hsl : (jx (c.2 : Nat) :: st).length = st.length + 1 := List.length_cons
        have po := ih (k + 1) (jx (c.2 : Nat) :: st) (va_up g st.length (jx (c.2 : Nat))) (.int (xj 0)) (by omega) e2' e3' (sk_push e4) (by omega) e6
        rw [hsl] at po
        have es : ((st.length : Nat) : Int) + 1 = ((st.length + 1 : Nat) : Int) := by omega
        simp (disch := omega) only [b63_5, b63_6, b63_9, b63_12, b63_13, b63_16, b63_17, b63_18, b63_20, b63_22, b63_25, b63_27, b63_28, b63_31, b63_32, b63_33, b63_36, b63_37, b63_40, b63_41, b63_44, b63_45, b63_47, b63_50, b63_51, b63_54, b63_55, b63_56, b63_57, b63_60, b63_61, b63_62, b63_65, b63_66, b63_67, b63_70, b63_71, b63_74, b63_77, b63_79, b63_81, b63_84, b63_85, b63_86, b63_87, b63_88, b63_91, b63_94, b63_96, b63_98, b63_101, b63_102, b63_103, b63_104, b63_105, b63_108, b63_109, b63_111, b63_113, b63_116, b63_117, b63_118, b63_119, b63_120, b63_123, b63_124, b63_125, b63_128, b63_129, b63_130, b63_131, b63_132, b63_135, b63_136, b63_137, b63_138, b63_141, b63_142, b63_143, b63_146, b63_149, b63_150, b63_153, b63_154, b63_155, b63_156, b63_158, b63_159, b63_162, b63_163, b63_164, b63_165, b63_166, b63_167, b63_170, b63_171, b63_172, b63_175, b63_176, b63_179, List.getElem?_cons_zero, List.getElem?_cons_succ, List.length_cons, List.length_nil, List.set_cons_zero, List.set_cons_succ, true_and, and_true, Option.toList_some, Option.toList_none, List.cons_append, List.nil_append, ↓reduceIte, not_false_eq_true, not_true_eq_false, Nat.reduceAdd, xj0_01, xj1_01, xb_B, xb_True, xb_False, ↓gs, ↓q0, ↓q1, ↓gq_3 hx, ↓al_I k1, ↓al_I k2, ↓lq_, ↓sq_, s0, p0, ↓xj_in, xj_nat, Int.toNat_natCast, xj_lt_t, xj_lt_f, xj_le_t, xj_le_f, xj_eq_t, xj_eq_f, xj_lt, xj_le, xj_eq, xj_add, xj_sub, xj_mul, show ¬ xj 1 = xj 0 from by decide, jx_i2l, ek, es]
        exact po
      · by_cases c1 : c.1 = 1
        · have s0 : st_ k = 1 := by rw [hck.1, c1]; rfl
          have p0 := hck.2
          have b0 := o3 c1
          rw [if_pos (by omega)] at e5
          rw [if_neg (by omega), if_neg (by omega)] at e6
          have ev : ev1 wd c st = wd c.2 :: st := by unfold ev1; rw [if_neg c0, if_pos c1]
          rw [ev] at e6
          have hsl : (wd c.2 :: st).length = st.length + 1 := List.length_cons
          have po := ih (k + 1) (wd c.2 :: st) (va_up g st.length (wd c.2)) (.int (xj 1)) (by omega) e2' e3' (sk_push e4) (by omega) e6
          rw [hsl] at po
          have es : ((st.length : Nat) : Int) + 1 = ((st.length + 1 : Nat) : Int) := by omega
          have ew := hwd c.2 b0
          simp (disch := omega) only [b63_5, b63_6, b63_9, b63_12, b63_13, b63_16, b63_17, b63_18, b63_20, b63_22, b63_25, b63_27, b63_28, b63_31, b63_32, b63_33, b63_36, b63_37, b63_40, b63_41, b63_44, b63_45, b63_47, b63_50, b63_51, b63_54, b63_55, b63_56, b63_57, b63_60, b63_61, b63_62, b63_65, b63_66, b63_67, b63_70, b63_71, b63_74, b63_77, b63_79, b63_81, b63_84, b63_85, b63_86, b63_87, b63_88, b63_91, b63_94, b63_96, b63_98, b63_101, b63_102, b63_103, b63_104, b63_105, b63_108, b63_109, b63_111, b63_113, b63_116, b63_117, b63_118, b63_119, b63_120, b63_123, b63_124, b63_125, b63_128, b63_129, b63_130, b63_131, b63_132, b63_135, b63_136, b63_137, b63_138, b63_141, b63_142, b63_143, b63_146, b63_149, b63_150, b63_153, b63_154, b63_155, b63_156, b63_158, b63_159, b63_162, b63_163, b63_164, b63_165, b63_166, b63_167, b63_170, b63_171, b63_172, b63_175, b63_176, b63_179, List.getElem?_cons_zero, List.getElem?_cons_succ, List.length_cons, List.length_nil, List.set_cons_zero, List.set_cons_succ, true_and, and_true, Option.toList_some, Option.toList_none, List.cons_append, List.nil_append, ↓reduceIte, not_false_eq_true, not_true_eq_false, Nat.reduceAdd, xj0_01, xj1_01, xb_B, xb_True, xb_False, ↓gs, ↓q0, ↓q1, ↓gq_3 hx, ↓al_I k1, ↓al_I k2, ↓lq_, ↓sq_, s0, p0, ↓xj_in, xj_nat, Int.toNat_natCast, xj_lt_t, xj_lt_f, xj_le_t, xj_le_f, xj_eq_t, xj_eq_f, xj_lt, xj_le, xj_eq, xj_add, xj_sub, xj_mul, show ¬ xj 1 = xj 0 from by decide, s_Rword _ ka, ew, ek, es]
          exact po
        · rw [if_neg (by omega)] at e5
          have s0 := hck.1
          by_cases c14 : c.1 = 14
          · rw [if_neg (by omega), if_neg (by omega)] at e6
            have s14 : st_ k = 14 := by rw [hck.1, c14]; rfl
            have ev : ev1 wd c st = (match st with | x :: t => (1 - x) :: t | [] => []) := by unfold ev1; rw [if_neg c0, if_neg c1, if_pos c14]; cases st <;> rfl
            rw [ev] at e6
            cases st with
            | nil =>
              have po := ih (k + 1) [] g (.int (xj 14)) (by omega) e2' e3' trivial (by show 0 + _ ≤ 64; have e5 : 0 + _ ≤ 64 := e5; omega) e6
              have z0 : ((([] : List Int64).length : Nat) : Int) - 1 = -1 := rfl
              simp (disch := omega) only [b63_5, b63_6, b63_9, b63_12, b63_13, b63_16, b63_17, b63_18, b63_20, b63_22, b63_25, b63_27, b63_28, b63_31, b63_32, b63_33, b63_36, b63_37, b63_40, b63_41, b63_44, b63_45, b63_47, b63_50, b63_51, b63_54, b63_55, b63_56, b63_57, b63_60, b63_61, b63_62, b63_65, b63_66, b63_67, b63_70, b63_71, b63_74, b63_77, b63_79, b63_81, b63_84, b63_85, b63_86, b63_87, b63_88, b63_91, b63_94, b63_96, b63_98, b63_101, b63_102, b63_103, b63_104, b63_105, b63_108, b63_109, b63_111, b63_113, b63_116, b63_117, b63_118, b63_119, b63_120, b63_123, b63_124, b63_125, b63_128, b63_129, b63_130, b63_131, b63_132, b63_135, b63_136, b63_137, b63_138, b63_141, b63_142, b63_143, b63_146, b63_149, b63_150, b63_153, b63_154, b63_155, b63_156, b63_158, b63_159, b63_162, b63_163, b63_164, b63_165, b63_166, b63_167, b63_170, b63_171, b63_172, b63_175, b63_176, b63_179, List.getElem?_cons_zero, List.getElem?_cons_succ, List.length_cons, List.length_nil, List.set_cons_zero, List.set_cons_succ, true_and, and_true, Option.toList_some, Option.toList_none, List.cons_append, List.nil_append, ↓reduceIte, not_false_eq_true, not_true_eq_false, Nat.reduceAdd, xj0_01, xj1_01, xb_B, xb_True, xb_False, ↓gs, ↓q0, ↓al_I k1, s14, ↓xj_in, xj_nat, Int.toNat_natCast, xj_lt_t, xj_lt_f, xj_le_t, xj_le_f, xj_eq_t, xj_eq_f, xj_lt, xj_le, xj_eq, xj_add, xj_sub, xj_mul, show ¬ xj 1 = xj 0 from by decide, rq_7 hx, z0, s_flip_no, ek]
              exact po
            | cons u tl =>
              have hsl : (u :: tl).length = tl.length + 1 := List.length_cons
              have hsl2 : ((1 - u) :: tl).length = tl.length + 1 := List.length_cons
              have po := ih (k + 1) ((1 - u) :: tl) (va_up g tl.length (1 - u)) (.int (xj 14)) (by omega) e2' e3' (sk_push e4.2) (by omega) e6
              have z0 : ((tl.length + 1 : Nat) : Int) - 1 = (tl.length : Nat) := by omega
              have hu := e4.1
              rw [hsl2] at po
              rw [hsl]
              simp (disch := omega) only [b63_5, b63_6, b63_9, b63_12, b63_13, b63_16, b63_17, b63_18, b63_20, b63_22, b63_25, b63_27, b63_28, b63_31, b63_32, b63_33, b63_36, b63_37, b63_40, b63_41, b63_44, b63_45, b63_47, b63_50, b63_51, b63_54, b63_55, b63_56, b63_57, b63_60, b63_61, b63_62, b63_65, b63_66, b63_67, b63_70, b63_71, b63_74, b63_77, b63_79, b63_81, b63_84, b63_85, b63_86, b63_87, b63_88, b63_91, b63_94, b63_96, b63_98, b63_101, b63_102, b63_103, b63_104, b63_105, b63_108, b63_109, b63_111, b63_113, b63_116, b63_117, b63_118, b63_119, b63_120, b63_123, b63_124, b63_125, b63_128, b63_129, b63_130, b63_131, b63_132, b63_135, b63_136, b63_137, b63_138, b63_141, b63_142, b63_143, b63_146, b63_149, b63_150, b63_153, b63_154, b63_155, b63_156, b63_158, b63_159, b63_162, b63_163, b63_164, b63_165, b63_166, b63_167, b63_170, b63_171, b63_172, b63_175, b63_176, b63_179, List.getElem?_cons_zero, List.getElem?_cons_succ, List.length_cons, List.length_nil, List.set_cons_zero, List.set_cons_succ, true_and, and_true, Option.toList_some, Option.toList_none, List.cons_append, List.nil_append, ↓reduceIte, not_false_eq_true, not_true_eq_false, Nat.reduceAdd, xj0_01, xj1_01, xb_B, xb_True, xb_False, ↓gs, ↓q0, ↓al_I k1, s14, ↓xj_in, xj_nat, Int.toNat_natCast, xj_lt_t, xj_lt_f, xj_le_t, xj_le_f, xj_eq_t, xj_eq_f, xj_lt, xj_le, xj_eq, xj_add, xj_sub, xj_mul, show ¬ xj 1 = xj 0 from by decide, rq_7 hx, z0, s_flip (k := tl.length) _ hx _ rfl, hu, ek]
              exact po
          · by_cases c15 : c.1 = 15
            · have s15 : st_ k = 15 := by rw [hck.1, c15]; rfl
              rw [if_pos c15] at e6
              have po := hpost g
              rw [← e6] at po
              cases st with
              | nil =>
                have z0 : ((([] : List Int64).length : Nat) : Int) - 1 = -1 := rfl
                simp (disch := omega) only [b63_5, b63_6, b63_9, b63_12, b63_13, b63_16, b63_17, b63_18, b63_20, b63_22, b63_25, b63_27, b63_28, b63_31, b63_32, b63_33, b63_36, b63_37, b63_40, b63_41, b63_44, b63_45, b63_47, b63_50, b63_51, b63_54, b63_55, b63_56, b63_57, b63_60, b63_61, b63_62, b63_65, b63_66, b63_67, b63_70, b63_71, b63_74, b63_77, b63_79, b63_81, b63_84, b63_85, b63_86, b63_87, b63_88, b63_91, b63_94, b63_96, b63_98, b63_101, b63_102, b63_103, b63_104, b63_105, b63_108, List.getElem?_cons_zero, List.getElem?_cons_succ, List.length_cons, List.length_nil, List.set_cons_zero, List.set_cons_succ, true_and, and_true, Option.toList_some, Option.toList_none, List.cons_append, List.nil_append, ↓reduceIte, not_false_eq_true, not_true_eq_false, Nat.reduceAdd, xj0_01, xj1_01, xb_B, xb_True, xb_False, ↓gs, ↓q0, ↓al_I k1, s15, ↓xj_in, xj_nat, Int.toNat_natCast, xj_lt_t, xj_lt_f, xj_le_t, xj_le_f, xj_eq_t, xj_eq_f, xj_lt, xj_le, xj_eq, xj_add, xj_sub, xj_mul, show ¬ xj 1 = xj 0 from by decide, rq_7 hx, z0, s_onSt_no]
                exact po
              | cons u tl =>
                have hsl : (u :: tl).length = tl.length + 1 := List.length_cons
                have z0 : ((tl.length + 1 : Nat) : Int) - 1 = (tl.length : Nat) := by omega
                have hu := e4.1
                rw [hsl] at e5 ⊢
                simp (disch := omega) only [b63_5, b63_6, b63_9, b63_12, b63_13, b63_16, b63_17, b63_18, b63_20, b63_22, b63_25, b63_27, b63_28, b63_31, b63_32, b63_33, b63_36, b63_37, b63_40, b63_41, b63_44, b63_45, b63_47, b63_50, b63_51, b63_54, b63_55, b63_56, b63_57, b63_60, b63_61, b63_62, b63_65, b63_66, b63_67, b63_70, b63_71, b63_74, b63_77, b63_79, b63_81, b63_84, b63_85, b63_86, b63_87, b63_88, b63_91, b63_94, b63_96, b63_98, b63_101, b63_102, b63_103, b63_104, b63_105, b63_108, List.getElem?_cons_zero, List.getElem?_cons_succ, List.length_cons, List.length_nil, List.set_cons_zero, List.set_cons_succ, true_and, and_true, Option.toList_some, Option.toList_none, List.cons_append, List.nil_append, ↓reduceIte, not_false_eq_true, not_true_eq_false, Nat.reduceAdd, xj0_01, xj1_01, xb_B, xb_True, xb_False, ↓gs, ↓q0, ↓al_I k1, s15, ↓xj_in, xj_nat, Int.toNat_natCast, xj_lt_t, xj_lt_f, xj_le_t, xj_le_f, xj_eq_t, xj_eq_f, xj_lt, xj_le, xj_eq, xj_add, xj_sub, xj_mul, show ¬ xj 1 = xj 0 from by decide, rq_7 hx, z0, s_onSt (k := tl.length) _ hx _ rfl, hu]
                exact po
            · rw [if_neg c15] at e6
              by_cases c16 : c.1 = 16
              · have s16 : st_ k = 16 := by rw [hck.1, c16]; rfl
                rw [if_pos c16] at e6
                have go : topE st = 0 → ∀ l2 : Nat, xk_B (D - 1) 63 136 [.ref r, .ref a, .int (xj (l2 : Nat)), .int (xj (k : Nat)), .int (xj 16)] [] (xq f r g, w) K := fun q l2 => by
                  rw [if_neg (fun q2 => q2 q)] at e6
                  have po := ih (k + 1) [] g (.int (xj 16)) (by omega) e2' e3' trivial (by show 0 + _ ≤ 64; omega) e6
                  simp (disch := omega) only [b63_136, b63_137, b63_138, b63_141, b63_142, b63_143, b63_146, b63_149, b63_150, b63_153, b63_154, b63_155, b63_156, b63_158, b63_159, b63_162, b63_163, b63_164, b63_165, b63_166, b63_167, b63_170, b63_171, b63_172, b63_175, b63_176, b63_179, List.getElem?_cons_zero, List.getElem?_cons_succ, List.length_cons, List.length_nil, List.set_cons_zero, List.set_cons_succ, true_and, and_true, Option.toList_some, Option.toList_none, List.cons_append, List.nil_append, ↓reduceIte, not_false_eq_true, not_true_eq_false, Nat.reduceAdd, xj0_01, xj1_01, xb_B, xb_True, xb_False, ↓xj_in, xj_nat, Int.toNat_natCast, xj_lt_t, xj_lt_f, xj_le_t, xj_le_f, xj_eq_t, xj_eq_f, xj_lt, xj_le, xj_eq, xj_add, xj_sub, xj_mul, show ¬ xj 1 = xj 0 from by decide, ek]
                  exact po
                cases st with
                | nil =>
                  have z0 : ((([] : List Int64).length : Nat) : Int) - 1 = -1 := rfl
                  have g1 := go rfl 0
                  simp (disch := omega) only [b63_5, b63_6, b63_9, b63_12, b63_13, b63_16, b63_17, b63_18, b63_20, b63_22, b63_25, b63_27, b63_28, b63_31, b63_32, b63_33, b63_36, b63_37, b63_40, b63_41, b63_44, b63_45, b63_47, b63_50, b63_51, b63_54, b63_55, b63_56, b63_57, b63_60, b63_61, b63_62, b63_65, b63_66, b63_67, b63_70, b63_71, b63_74, b63_77, b63_79, b63_81, b63_84, b63_85, b63_86, b63_87, b63_88, b63_91, b63_94, b63_96, b63_98, b63_101, b63_102, b63_103, b63_104, b63_105, b63_108, b63_109, b63_111, b63_113, b63_116, b63_117, b63_118, b63_119, b63_120, b63_123, b63_124, b63_125, List.getElem?_cons_zero, List.getElem?_cons_succ, List.length_cons, List.length_nil, List.set_cons_zero, List.set_cons_succ, true_and, and_true, Option.toList_some, Option.toList_none, List.cons_append, List.nil_append, ↓reduceIte, not_false_eq_true, not_true_eq_false, Nat.reduceAdd, xj0_01, xj1_01, xb_B, xb_True, xb_False, ↓gs, ↓q0, ↓al_I k1, s16, ↓xj_in, xj_nat, Int.toNat_natCast, xj_lt_t, xj_lt_f, xj_le_t, xj_le_f, xj_eq_t, xj_eq_f, xj_lt, xj_le, xj_eq, xj_add, xj_sub, xj_mul, show ¬ xj 1 = xj 0 from by decide, rq_7 hx, z0, s_onSt_no, lc_eq]
                  exact g1
                | cons u tl =>
                  have hsl : (u :: tl).length = tl.length + 1 := List.length_cons
                  have z0 : ((tl.length + 1 : Nat) : Int) - 1 = (tl.length : Nat) := by omega
                  have hu := e4.1
                  rw [hsl] at e5 ⊢
                  by_cases cu : u = 0
                  · have g1 := go cu (tl.length + 1)
                    simp (disch := omega) only [b63_5, b63_6, b63_9, b63_12, b63_13, b63_16, b63_17, b63_18, b63_20, b63_22, b63_25, b63_27, b63_28, b63_31, b63_32, b63_33, b63_36, b63_37, b63_40, b63_41, b63_44, b63_45, b63_47, b63_50, b63_51, b63_54, b63_55, b63_56, b63_57, b63_60, b63_61, b63_62, b63_65, b63_66, b63_67, b63_70, b63_71, b63_74, b63_77, b63_79, b63_81, b63_84, b63_85, b63_86, b63_87, b63_88, b63_91, b63_94, b63_96, b63_98, b63_101, b63_102, b63_103, b63_104, b63_105, b63_108, b63_109, b63_111, b63_113, b63_116, b63_117, b63_118, b63_119, b63_120, b63_123, b63_124, b63_125, List.getElem?_cons_zero, List.getElem?_cons_succ, List.length_cons, List.length_nil, List.set_cons_zero, List.set_cons_succ, true_and, and_true, Option.toList_some, Option.toList_none, List.cons_append, List.nil_append, ↓reduceIte, not_false_eq_true, not_true_eq_false, Nat.reduceAdd, xj0_01, xj1_01, xb_B, xb_True, xb_False, ↓gs, ↓q0, ↓al_I k1, s16, ↓xj_in, xj_nat, Int.toNat_natCast, xj_lt_t, xj_lt_f, xj_le_t, xj_le_f, xj_eq_t, xj_eq_f, xj_lt, xj_le, xj_eq, xj_add, xj_sub, xj_mul, show ¬ xj 1 = xj 0 from by decide, rq_7 hx, z0, s_onSt (k := tl.length) _ hx _ rfl, hu, lc_eq, cu]
                    exact g1
                  · rw [if_pos (show topE (u :: tl) ≠ 0 from cu)] at e6
                    have po := hpost g
                    rw [← e6] at po
                    have po : K (some (.long (topE tl))) (xq f r g, w) := po
                    cases tl with
                    | nil =>
                      have z1 : ((1 : Nat) : Int) - 2 = -1 := rfl
                      have z0 : ((1 : Nat) : Int) - 1 = ((0 : Nat) : Int) := rfl
                      have hu : g 0 = u := hu
                      simp (disch := omega) only [b63_5, b63_6, b63_9, b63_12, b63_13, b63_16, b63_17, b63_18, b63_20, b63_22, b63_25, b63_27, b63_28, b63_31, b63_32, b63_33, b63_36, b63_37, b63_40, b63_41, b63_44, b63_45, b63_47, b63_50, b63_51, b63_54, b63_55, b63_56, b63_57, b63_60, b63_61, b63_62, b63_65, b63_66, b63_67, b63_70, b63_71, b63_74, b63_77, b63_79, b63_81, b63_84, b63_85, b63_86, b63_87, b63_88, b63_91, b63_94, b63_96, b63_98, b63_101, b63_102, b63_103, b63_104, b63_105, b63_108, b63_109, b63_111, b63_113, b63_116, b63_117, b63_118, b63_119, b63_120, b63_123, b63_124, b63_125, b63_128, b63_129, b63_130, b63_131, b63_132, b63_135, List.getElem?_cons_zero, List.getElem?_cons_succ, List.length_cons, List.length_nil, List.set_cons_zero, List.set_cons_succ, true_and, and_true, Option.toList_some, Option.toList_none, List.cons_append, List.nil_append, ↓reduceIte, not_false_eq_true, not_true_eq_false, Nat.reduceAdd, xj0_01, xj1_01, xb_B, xb_True, xb_False, ↓gs, ↓q0, ↓al_I k1, s16, ↓xj_in, xj_nat, Int.toNat_natCast, xj_lt_t, xj_lt_f, xj_le_t, xj_le_f, xj_eq_t, xj_eq_f, xj_lt, xj_le, xj_eq, xj_add, xj_sub, xj_mul, show ¬ xj 1 = xj 0 from by decide, rq_7 hx, z0, s_onSt (k := 0) _ hx (by decide) rfl, hu, lc_eq, cu, z1, s_onSt_no]
                      exact po
                    | cons u2 tl2 =>
                      have hsl2 : (u2 :: tl2).length = tl2.length + 1 := List.length_cons
                      have hu2 := e4.2.1
                      rw [hsl2] at e5 z0 hu ⊢
                      have z1 : ((tl2.length + 1 + 1 : Nat) : Int) - 2 = (tl2.length : Nat) := by omega
                      simp (disch := omega) only [b63_5, b63_6, b63_9, b63_12, b63_13, b63_16, b63_17, b63_18, b63_20, b63_22, b63_25, b63_27, b63_28, b63_31, b63_32, b63_33, b63_36, b63_37, b63_40, b63_41, b63_44, b63_45, b63_47, b63_50, b63_51, b63_54, b63_55, b63_56, b63_57, b63_60, b63_61, b63_62, b63_65, b63_66, b63_67, b63_70, b63_71, b63_74, b63_77, b63_79, b63_81, b63_84, b63_85, b63_86, b63_87, b63_88, b63_91, b63_94, b63_96, b63_98, b63_101, b63_102, b63_103, b63_104, b63_105, b63_108, b63_109, b63_111, b63_113, b63_116, b63_117, b63_118, b63_119, b63_120, b63_123, b63_124, b63_125, b63_128, b63_129, b63_130, b63_131, b63_132, b63_135, List.getElem?_cons_zero, List.getElem?_cons_succ, List.length_cons, List.length_nil, List.set_cons_zero, List.set_cons_succ, true_and, and_true, Option.toList_some, Option.toList_none, List.cons_append, List.nil_append, ↓reduceIte, not_false_eq_true, not_true_eq_false, Nat.reduceAdd, xj0_01, xj1_01, xb_B, xb_True, xb_False, ↓gs, ↓q0, ↓al_I k1, s16, ↓xj_in, xj_nat, Int.toNat_natCast, xj_lt_t, xj_lt_f, xj_le_t, xj_le_f, xj_eq_t, xj_eq_f, xj_lt, xj_le, xj_eq, xj_add, xj_sub, xj_mul, show ¬ xj 1 = xj 0 from by decide, rq_7 hx, z0, s_onSt (k := tl2.length + 1) _ hx _ rfl, hu, lc_eq, cu, z1, s_onSt (k := tl2.length) _ hx _ rfl, hu2]
                      exact po
              · rw [if_neg c16] at e6
                have ev : ev1 wd c st = (match st with | y :: x :: t => jn c.1 x y :: t | _ => st) := by unfold ev1; rw [if_neg c0, if_neg c1, if_neg c14]; (cases st with | nil => rfl | cons y st => cases st <;> rfl)
                rw [ev] at e6
                have small : st.length ≤ 1 → mcF wd rest st = mcF wd cs [] → xk_B (D - 1) 63 5 [.ref r, .ref a, .int (xj (st.length : Nat)), .int (xj (k : Nat)), l4] [.int (xj (k : Nat))] (xq f r g, w) K := fun q q2 => by
                  have po := ih (k + 1) st g (.int (xj (c.1 : Nat))) (by omega) e2' e3' e4 (by omega) q2
                  simp (disch := omega) only [b63_5, b63_6, b63_9, b63_12, b63_13, b63_16, b63_17, b63_18, b63_20, b63_22, b63_25, b63_27, b63_28, b63_31, b63_32, b63_33, b63_36, b63_37, b63_40, b63_41, b63_44, b63_45, b63_47, b63_50, b63_51, b63_54, b63_55, b63_56, b63_57, b63_60, b63_61, b63_62, b63_65, b63_66, b63_67, b63_70, b63_71, b63_74, b63_77, b63_79, b63_81, b63_84, b63_85, b63_86, b63_87, b63_88, b63_91, b63_94, b63_96, b63_98, b63_101, b63_102, b63_103, b63_104, b63_105, b63_108, b63_109, b63_111, b63_113, b63_116, b63_117, b63_118, b63_119, b63_120, b63_123, b63_124, b63_125, b63_128, b63_129, b63_130, b63_131, b63_132, b63_135, b63_136, b63_137, b63_138, b63_141, b63_142, b63_143, b63_176, b63_179, List.getElem?_cons_zero, List.getElem?_cons_succ, List.length_cons, List.length_nil, List.set_cons_zero, List.set_cons_succ, true_and, and_true, Option.toList_some, Option.toList_none, List.cons_append, List.nil_append, ↓reduceIte, not_false_eq_true, not_true_eq_false, Nat.reduceAdd, xj0_01, xj1_01, xb_B, xb_True, xb_False, ↓gs, ↓q0, ↓al_I k1, s0, ↓xj_in, xj_nat, Int.toNat_natCast, xj_lt_t, xj_lt_f, xj_le_t, xj_le_f, xj_eq_t, xj_eq_f, xj_lt, xj_le, xj_eq, xj_add, xj_sub, xj_mul, show ¬ xj 1 = xj 0 from by decide, ek]
                  exact po
                cases st with
                | nil => exact small (by show 0 ≤ 1; omega) e6
                | cons u tl => cases tl with
                  | nil => exact small (by show 1 ≤ 1; omega) e6
                  | cons u2 tl2 =>
                    have hsl : (u :: u2 :: tl2).length = tl2.length + 1 + 1 := by rw [List.length_cons, List.length_cons]
                    have hsl2 : (jn c.1 u2 u :: tl2).length = tl2.length + 1 := List.length_cons
                    have hsl3 : (u2 :: tl2).length = tl2.length + 1 := List.length_cons
                    rw [hsl] at e5 ⊢
                    have hu := e4.1
                    rw [hsl3] at hu
                    have hu2 := e4.2.1
                    have po := ih (k + 1) (jn c.1 u2 u :: tl2) (va_up g tl2.length (jn c.1 u2 u)) (.int (xj (c.1 : Nat))) (by omega) e2' e3' (sk_push e4.2.2) (by omega) e6
                    rw [hsl2] at po
                    have z0 : ((tl2.length + 1 + 1 : Nat) : Int) + -1 = (tl2.length + 1 : Nat) := by omega
                    have z1 : ((tl2.length + 1 : Nat) : Int) - 1 = (tl2.length : Nat) := by omega
                    simp (disch := omega) only [b63_5, b63_6, b63_9, b63_12, b63_13, b63_16, b63_17, b63_18, b63_20, b63_22, b63_25, b63_27, b63_28, b63_31, b63_32, b63_33, b63_36, b63_37, b63_40, b63_41, b63_44, b63_45, b63_47, b63_50, b63_51, b63_54, b63_55, b63_56, b63_57, b63_60, b63_61, b63_62, b63_65, b63_66, b63_67, b63_70, b63_71, b63_74, b63_77, b63_79, b63_81, b63_84, b63_85, b63_86, b63_87, b63_88, b63_91, b63_94, b63_96, b63_98, b63_101, b63_102, b63_103, b63_104, b63_105, b63_108, b63_109, b63_111, b63_113, b63_116, b63_117, b63_118, b63_119, b63_120, b63_123, b63_124, b63_125, b63_128, b63_129, b63_130, b63_131, b63_132, b63_135, b63_136, b63_137, b63_138, b63_141, b63_142, b63_143, b63_146, b63_149, b63_150, b63_153, b63_154, b63_155, b63_156, b63_158, b63_159, b63_162, b63_163, b63_164, b63_165, b63_166, b63_167, b63_170, b63_171, b63_172, b63_175, b63_176, b63_179, List.getElem?_cons_zero, List.getElem?_cons_succ, List.length_cons, List.length_nil, List.set_cons_zero, List.set_cons_succ, true_and, and_true, Option.toList_some, Option.toList_none, List.cons_append, List.nil_append, ↓reduceIte, not_false_eq_true, not_true_eq_false, Nat.reduceAdd, xj0_01, xj1_01, xb_B, xb_True, xb_False, ↓gs, ↓q0, ↓gq_3 hx, ↓al_I k1, ↓aq_, ↓sq_, s0, ↓xj_in, xj_nat, Int.toNat_natCast, xj_lt_t, xj_lt_f, xj_le_t, xj_le_f, xj_eq_t, xj_eq_f, xj_lt, xj_le, xj_eq, xj_add, xj_sub, xj_mul, show ¬ xj 1 = xj 0 from by decide, z0, z1, hu, hu2, s_joined, ek]
                    exact po
  have l0 := loop cs 0 [] g0 xk_dd (by omega) (fun i c hi => by rw [Nat.zero_add]; exact hi) hok trivial (by show 0 + _ ≤ 64; omega) rfl
  have e : xq f r g0 = f := up_id hst
  rw [e] at l0
  simp (disch := omega) only [b63_0, b63_1, b63_2, b63_3, List.getElem?_cons_zero, List.getElem?_cons_succ, List.length_cons, List.length_nil, List.set_cons_zero, List.set_cons_succ, true_and, and_true, Option.toList_some, Option.toList_none, List.cons_append, List.nil_append, ↓reduceIte, not_false_eq_true, not_true_eq_false, Nat.reduceAdd, xj0_01, xj1_01, xb_B, xb_True, xb_False]
  exact l0
end XS9a02
