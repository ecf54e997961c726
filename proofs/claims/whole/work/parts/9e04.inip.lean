/-! what is made: the pen -/
theorem dv_11 : xk_dv 11 = [.null, .int (xj 0), .null, .null, .null, .null, .int (xj 0), .null, .null, .null, .null, .null, .null, .null, .null] := rfl
section XS9e04
variable {D o s t : Nat} {f h : Nat → xk_C} {K : Option Value → xk_S → Prop} {fs : List Value}
def ruP (g : Nat → xk_C) (o j : Nat) : Prop := g (o + 21) = .inl (4, 6, .inr (.inr (.inr (.inr (fun i => if i < j then some (o + 112 + 4 * i) else none))))) ∧ ∀ k, k < j → xL g (o + 112 + 4 * k) [] ∧ g (o + 112 + 4 * k + 3) = .inl (3, 64, .inr (.inl (fun _ => 0)))
theorem ru_loop (hD : 6 ≤ D) (ho : h o = .inr (11, fs)) (hf : fs[5]? = some (.ref (o + 21))) (hpost : ∀ g, (∀ x, x < o + 112 → x ≠ o + 21 → g x = h x) → ruP g o 6 → xk_B (D - 1) 98 166 [.ref o, .int (xj 6)] [] (g, (o + 136, s + 5208, t)) K) : ∀ (m j : Nat) (g : Nat → xk_C), j + m = 6 → (∀ x, x < o + 112 → x ≠ o + 21 → g x = h x) → ruP g o j → xk_B (D - 1) 98 138 [.ref o, .int (xj (j : Nat))] [] (g, (o + 112 + 4 * j, s + 868 * j, t)) K := by
  intro m
  induction m with
  | zero =>
    intro j g hj fr hP
    have hj : j = 6 := by omega
    subst hj
    have po := hpost g fr hP
    have ln : ∀ F, xk_LN g (o + 21) F ↔ F (xj (6 : Nat)) := fun F => ln_4 hP.1 (by decide)
    have g0 : ∀ V, xk_GF g o 11 5 V ↔ V (.ref (o + 21)) := fun V => gf_R ((fr o (by omega) (by omega)).trans ho) hf
    simp (disch := omega) only [b98_138, b98_139, b98_140, b98_143, b98_144, List.getElem?_cons_zero, List.getElem?_cons_succ, List.length_cons, List.length_nil, List.set_cons_zero, List.set_cons_succ, true_and, and_true, Option.toList_some, Option.toList_none, List.cons_append, List.nil_append, ↓reduceIte, not_false_eq_true, not_true_eq_false, Nat.reduceAdd, xj0_01, xj1_01, xb_B, xb_True, xb_False, ↓ln, ↓g0, ↓xj_in, xj_nat, Int.toNat_natCast, xj_lt_t, xj_lt_f, xj_le_t, xj_le_f, xj_eq_t, xj_eq_f, xj_lt, xj_le, xj_eq, xj_add, xj_sub, xj_mul, show ¬ xj 1 = xj 0 from by decide]
    exact po
  | succ m ih =>
    intro j g hj fr hP
    obtain ⟨h1, h2⟩ := hP
    have ln : ∀ F, xk_LN g (o + 21) F ↔ F (xj (6 : Nat)) := fun F => ln_4 h1 (by decide)
    have g0 : ∀ V, xk_GF g o 11 5 V ↔ V (.ref (o + 21)) := fun V => gf_R ((fr o (by omega) (by omega)).trans ho) hf
    have nf : xk_nf 7 = 4 := rfl
    rw [b98_138]
    simp (disch := omega) only [b98_139, b98_140, b98_143, b98_144, b98_147, b98_148, b98_151, b98_152, b98_155, List.getElem?_cons_zero, List.getElem?_cons_succ, List.length_cons, List.length_nil, List.set_cons_zero, List.set_cons_succ, true_and, and_true, Option.toList_some, Option.toList_none, List.cons_append, List.nil_append, ↓reduceIte, not_false_eq_true, not_true_eq_false, Nat.reduceAdd, xj0_01, xj1_01, xb_B, xb_True, xb_False, ↓ln, ↓g0, ↓xj_in, xj_nat, Int.toNat_natCast, xj_lt_t, xj_lt_f, xj_le_t, xj_le_f, xj_eq_t, xj_eq_f, xj_lt, xj_le, xj_eq, xj_add, xj_sub, xj_mul, show ¬ xj 1 = xj 0 from by decide]
    rw [b98_156, nf]
    refine i_Rule (by omega) (up_s _ _ _) (fun g2 e2 l2 st2 => ?_)
    have vo := l2.choose_spec.choose_spec.1
    have v : xL g2 (o + 112 + 4 * j) [] ∧ g2 (o + 112 + 4 * j + 3) = .inl (3, 64, .inr (.inl (fun _ => 0))) := ⟨l2, st2⟩
    have a1 : g2 (o + 21) = .inl (4, 6, .inr (.inr (.inr (.inr (fun i => if i < j then some (o + 112 + 4 * i) else none))))) := by rw [e2 _ (by omega), up_ne (by omega)]; exact h1
    have aq : ∀ G, xk_ASQ g2 (o + 21) (o + 112 + 4 * j) (xj (j : Nat)) G ↔ G (va_up g2 (o + 21) (.inl (4, 6, .inr (.inr (.inr (.inr (fun i => if i < j + 1 then some (o + 112 + 4 * i) else none))))))) := fun G => by
      rw [as_q a1 vo rfl (by omega) (by decide), up_row rfl rfl]
    have lo : ∀ x, x < o + 112 + 4 * j → x ≠ o + 21 → va_up g2 (o + 21) (.inl (4, 6, .inr (.inr (.inr (.inr (fun i => if i < j + 1 then some (o + 112 + 4 * i) else none)))))) x = g x := fun x hx hy => by rw [up_ne hy, e2 x hx, up_ne (by omega)]
    have nx := ih (j + 1) (va_up g2 (o + 21) (.inl (4, 6, .inr (.inr (.inr (.inr (fun i => if i < j + 1 then some (o + 112 + 4 * i) else none))))))) (by omega) (fun x hx hy => (lo x (by omega) hy).trans (fr x hx hy)) ⟨up_s _ _ _, fun k hk => ?_⟩
    · have ew : (o + 112 + 4 * (j + 1), s + 868 * (j + 1), t) = ((o + 112 + 4 * j + 4, s + 868 * j + 4 + 864, t) : Nat × Nat × Nat) := by
        refine Prod.ext (by show _ = o + 112 + 4 * j + 4; omega) (Prod.ext (by show s + 868 * (j + 1) = s + 868 * j + 4 + 864; omega) rfl)
      rw [ew] at nx
      simp (disch := omega) only [b98_159, b98_160, b98_163, List.getElem?_cons_zero, List.getElem?_cons_succ, List.length_cons, List.length_nil, List.set_cons_zero, List.set_cons_succ, true_and, and_true, Option.toList_some, Option.toList_none, List.cons_append, List.nil_append, ↓reduceIte, not_false_eq_true, not_true_eq_false, Nat.reduceAdd, xj0_01, xj1_01, xb_B, xb_True, xb_False, ↓aq, ↓xj_in, xj_nat, Int.toNat_natCast, xj_lt_t, xj_lt_f, xj_le_t, xj_le_f, xj_eq_t, xj_eq_f, xj_lt, xj_le, xj_eq, xj_add, xj_sub, xj_mul, show ¬ xj 1 = xj 0 from by decide]
      exact nx
    · by_cases ck : k = j
      · subst ck
        exact ⟨xL_fr v.1 (fun x q1 q2 => up_ne (by omega)), (up_ne (by omega)).trans v.2⟩
      · have q := h2 k (by omega)
        exact ⟨xL_fr q.1 (fun x q1 q2 => lo x (by omega) (by omega)), (lo _ (by omega) (by omega)).trans q.2⟩
def imP (g : Nat → xk_C) (o j : Nat) : Prop := g (o + 39) = .inl (5, 4, .inr (.inr (.inr (.inr (fun i => if i < j then some (o + 136 + 17 * i) else none))))) ∧ ∀ k, k < j → xv_Dk g (o + 136 + 17 * k) dk0
theorem im_loop (hD : 6 ≤ D) (ho : h o = .inr (11, fs)) (hf : fs[8]? = some (.ref (o + 39))) (hpost : ∀ g, (∀ x, x < o + 136 → x ≠ o + 39 → g x = h x) → imP g o 4 → xk_B (D - 1) 98 196 [.ref o, .int (xj 4)] [] (g, (o + 204, s + 480, t)) K) : ∀ (m j : Nat) (g : Nat → xk_C), j + m = 4 → (∀ x, x < o + 136 → x ≠ o + 39 → g x = h x) → imP g o j → xk_B (D - 1) 98 168 [.ref o, .int (xj (j : Nat))] [] (g, (o + 136 + 17 * j, s + 120 * j, t)) K := by
  intro m
  induction m with
  | zero =>
    intro j g hj fr hP
    have hj : j = 4 := by omega
    subst hj
    have po := hpost g fr hP
    have ln : ∀ F, xk_LN g (o + 39) F ↔ F (xj (4 : Nat)) := fun F => ln_4 hP.1 (by decide)
    have g0 : ∀ V, xk_GF g o 11 8 V ↔ V (.ref (o + 39)) := fun V => gf_R ((fr o (by omega) (by omega)).trans ho) hf
    simp (disch := omega) only [b98_168, b98_169, b98_170, b98_173, b98_174, List.getElem?_cons_zero, List.getElem?_cons_succ, List.length_cons, List.length_nil, List.set_cons_zero, List.set_cons_succ, true_and, and_true, Option.toList_some, Option.toList_none, List.cons_append, List.nil_append, ↓reduceIte, not_false_eq_true, not_true_eq_false, Nat.reduceAdd, xj0_01, xj1_01, xb_B, xb_True, xb_False, ↓ln, ↓g0, ↓xj_in, xj_nat, Int.toNat_natCast, xj_lt_t, xj_lt_f, xj_le_t, xj_le_f, xj_eq_t, xj_eq_f, xj_lt, xj_le, xj_eq, xj_add, xj_sub, xj_mul, show ¬ xj 1 = xj 0 from by decide]
    exact po
  | succ m ih =>
    intro j g hj fr hP
    obtain ⟨h1, h2⟩ := hP
    have ln : ∀ F, xk_LN g (o + 39) F ↔ F (xj (4 : Nat)) := fun F => ln_4 h1 (by decide)
    have g0 : ∀ V, xk_GF g o 11 8 V ↔ V (.ref (o + 39)) := fun V => gf_R ((fr o (by omega) (by omega)).trans ho) hf
    have nf : xk_nf 1 = 4 := rfl
    rw [b98_168]
    simp (disch := omega) only [b98_169, b98_170, b98_173, b98_174, b98_177, b98_178, b98_181, b98_182, b98_185, List.getElem?_cons_zero, List.getElem?_cons_succ, List.length_cons, List.length_nil, List.set_cons_zero, List.set_cons_succ, true_and, and_true, Option.toList_some, Option.toList_none, List.cons_append, List.nil_append, ↓reduceIte, not_false_eq_true, not_true_eq_false, Nat.reduceAdd, xj0_01, xj1_01, xb_B, xb_True, xb_False, ↓ln, ↓g0, ↓xj_in, xj_nat, Int.toNat_natCast, xj_lt_t, xj_lt_f, xj_le_t, xj_le_f, xj_eq_t, xj_eq_f, xj_lt, xj_le, xj_eq, xj_add, xj_sub, xj_mul, show ¬ xj 1 = xj 0 from by decide]
    rw [b98_186, nf]
    refine i_Desk (by omega) (up_s _ _ _) (fun g2 e2 v => ?_)
    have vo := v.1
    have a1 : g2 (o + 39) = .inl (5, 4, .inr (.inr (.inr (.inr (fun i => if i < j then some (o + 136 + 17 * i) else none))))) := by rw [e2 _ (by omega), up_ne (by omega)]; exact h1
    have aq : ∀ G, xk_ASQ g2 (o + 39) (o + 136 + 17 * j) (xj (j : Nat)) G ↔ G (va_up g2 (o + 39) (.inl (5, 4, .inr (.inr (.inr (.inr (fun i => if i < j + 1 then some (o + 136 + 17 * i) else none))))))) := fun G => by
      rw [as_q a1 vo rfl (by omega) (by decide), up_row rfl rfl]
    have lo : ∀ x, x < o + 136 + 17 * j → x ≠ o + 39 → va_up g2 (o + 39) (.inl (5, 4, .inr (.inr (.inr (.inr (fun i => if i < j + 1 then some (o + 136 + 17 * i) else none)))))) x = g x := fun x hx hy => by rw [up_ne hy, e2 x hx, up_ne (by omega)]
    have nx := ih (j + 1) (va_up g2 (o + 39) (.inl (5, 4, .inr (.inr (.inr (.inr (fun i => if i < j + 1 then some (o + 136 + 17 * i) else none))))))) (by omega) (fun x hx hy => (lo x (by omega) hy).trans (fr x hx hy)) ⟨up_s _ _ _, fun k hk => ?_⟩
    · have ew : (o + 136 + 17 * (j + 1), s + 120 * (j + 1), t) = ((o + 136 + 17 * j + 17, s + 120 * j + 4 + 116, t) : Nat × Nat × Nat) := by
        refine Prod.ext (by show _ = o + 136 + 17 * j + 17; omega) (Prod.ext (by show s + 120 * (j + 1) = s + 120 * j + 4 + 116; omega) rfl)
      rw [ew] at nx
      simp (disch := omega) only [b98_189, b98_190, b98_193, List.getElem?_cons_zero, List.getElem?_cons_succ, List.length_cons, List.length_nil, List.set_cons_zero, List.set_cons_succ, true_and, and_true, Option.toList_some, Option.toList_none, List.cons_append, List.nil_append, ↓reduceIte, not_false_eq_true, not_true_eq_false, Nat.reduceAdd, xj0_01, xj1_01, xb_B, xb_True, xb_False, ↓aq, ↓xj_in, xj_nat, Int.toNat_natCast, xj_lt_t, xj_lt_f, xj_le_t, xj_le_f, xj_eq_t, xj_eq_f, xj_lt, xj_le, xj_eq, xj_add, xj_sub, xj_mul, show ¬ xj 1 = xj 0 from by decide]
      exact nx
    · by_cases ck : k = j
      · subst ck
        exact xv_Dk_fr v (fun x q1 q2 => up_ne (by omega))
      · have q := h2 k (by omega)
        exact xv_Dk_fr q (fun x q1 q2 => lo x (by omega) (by omega))
theorem of0_z : xz_Off of0 := by
  unfold xz_Off
  simp [of0, of_seat, of_aw, of_af, of_al, of_ow, of_sk, of_du, of_wo, of_re]
theorem i_Pen (hD : 8 ≤ D) (h0 : f o = .inr (11, xk_dv 11)) (hpost : ∀ g s2, (∀ x, x < o → g x = f x) → s2 ≤ s + 20000 → xv_Pen g o 0 0 (fun _ => 0) (fun _ => []) dk0 (0, 0, fun _ => d00) (fun _ => 0) (fun _ => dk0) → K none (g, (o + 204, s2, t))) : xk_Cl D 98 [.ref o] (f, (o + 1, s, t)) K := by
  rw [e98 (by omega)]
  rw [dv_11] at h0
  simp (disch := omega) only [b98_0, b98_1, b98_4, b98_5, List.getElem?_cons_zero, List.getElem?_cons_succ, List.length_cons, List.length_nil, List.set_cons_zero, List.set_cons_succ, true_and, and_true, Option.toList_some, Option.toList_none, List.cons_append, List.nil_append, ↓reduceIte, not_false_eq_true, not_true_eq_false, Nat.reduceAdd, xj0_01, xj1_01, xb_B, xb_True, xb_False]
  rw [b98_8, ini_z (by decide) (by decide), true_and, z_0, show (xj 400).toNatClampNeg = 400 from by decide]
  generalize hg1 : va_up f (o + 1) (.inl (0, 400, .inl (fun _ => xj 0))) = g1
  have e1 : ∀ x, x < o + 1 → g1 x = f x := fun x hx => by rw [← hg1, up_ne (by omega)]
  have q1 : g1 (o + 1) = .inl (0, 400, .inl (fun _ => xj 0)) := by rw [← hg1, up_s]
  have b1 : g1 o = .inr (11, [.null, .int (xj 0), .null, .null, .null, .null, .int (xj 0), .null, .null, .null, .null, .null, .null, .null, .null]) := (e1 o (by omega)).trans h0
  have pf1 : ∀ G, xk_PF g1 o 11 0 (.ref (o + 1)) G ↔ G (va_up g1 o (.inr (11, [.ref (o + 1), .int (xj 0), .null, .null, .null, .null, .int (xj 0), .null, .null, .null, .null, .null, .null, .null, .null]))) := fun G => pf_R b1 (by show 0 < 15; decide)
  simp only [Nat.add_assoc, Nat.reduceAdd]
  simp (disch := omega) only [b98_10, b98_13, b98_14, b98_17, List.getElem?_cons_zero, List.getElem?_cons_succ, List.length_cons, List.length_nil, List.set_cons_zero, List.set_cons_succ, true_and, and_true, Option.toList_some, Option.toList_none, List.cons_append, List.nil_append, ↓reduceIte, not_false_eq_true, not_true_eq_false, Nat.reduceAdd, xj0_01, xj1_01, xb_B, xb_True, xb_False, ↓pf1]
  have o1 : va_up g1 o (.inr (11, [.ref (o + 1), .int (xj 0), .null, .null, .null, .null, .int (xj 0), .null, .null, .null, .null, .null, .null, .null, .null])) o = .inr (11, [.ref (o + 1), .int (xj 0), .null, .null, .null, .null, .int (xj 0), .null, .null, .null, .null, .null, .null, .null, .null]) := up_s _ _ _
  have k1 : ∀ x, x ≠ o → va_up g1 o (.inr (11, [.ref (o + 1), .int (xj 0), .null, .null, .null, .null, .int (xj 0), .null, .null, .null, .null, .null, .null, .null, .null])) x = g1 x := fun x hx => up_ne hx
  generalize va_up g1 o (.inr (11, [.ref (o + 1), .int (xj 0), .null, .null, .null, .null, .int (xj 0), .null, .null, .null, .null, .null, .null, .null, .null])) = H1 at *
  have c1 : ∀ x, x ≠ o → x < o + 1 → H1 x = f x := fun x h1 h2 => (k1 x h1).trans (e1 x h2)
  have nf2 : xk_nf 10 = 6 := rfl
  rw [b98_18, nf2]
  refine i_Text (by omega) (up_s _ _ _) (fun g2 e2' t20 t21 t22 t23 => ?_)
  have e2 : ∀ x, x < o + 2 → g2 x = H1 x := fun x hx => by rw [e2' x hx, up_ne (by omega)]
  have b2 : g2 o = .inr (11, [.ref (o + 1), .int (xj 0), .null, .null, .null, .null, .int (xj 0), .null, .null, .null, .null, .null, .null, .null, .null]) := (e2 o (by omega)).trans o1
  have pf2 : ∀ G, xk_PF g2 o 11 2 (.ref (o + 2)) G ↔ G (va_up g2 o (.inr (11, [.ref (o + 1), .int (xj 0), .ref (o + 2), .null, .null, .null, .int (xj 0), .null, .null, .null, .null, .null, .null, .null, .null]))) := fun G => pf_R b2 (by show 2 < 15; decide)
  simp only [Nat.add_assoc, Nat.reduceAdd]
  simp (disch := omega) only [b98_21, b98_24, b98_25, b98_28, List.getElem?_cons_zero, List.getElem?_cons_succ, List.length_cons, List.length_nil, List.set_cons_zero, List.set_cons_succ, true_and, and_true, Option.toList_some, Option.toList_none, List.cons_append, List.nil_append, ↓reduceIte, not_false_eq_true, not_true_eq_false, Nat.reduceAdd, xj0_01, xj1_01, xb_B, xb_True, xb_False, ↓pf2]
  have o2 : va_up g2 o (.inr (11, [.ref (o + 1), .int (xj 0), .ref (o + 2), .null, .null, .null, .int (xj 0), .null, .null, .null, .null, .null, .null, .null, .null])) o = .inr (11, [.ref (o + 1), .int (xj 0), .ref (o + 2), .null, .null, .null, .int (xj 0), .null, .null, .null, .null, .null, .null, .null, .null]) := up_s _ _ _
  have k2 : ∀ x, x ≠ o → va_up g2 o (.inr (11, [.ref (o + 1), .int (xj 0), .ref (o + 2), .null, .null, .null, .int (xj 0), .null, .null, .null, .null, .null, .null, .null, .null])) x = g2 x := fun x hx => up_ne hx
  generalize va_up g2 o (.inr (11, [.ref (o + 1), .int (xj 0), .ref (o + 2), .null, .null, .null, .int (xj 0), .null, .null, .null, .null, .null, .null, .null, .null])) = H2 at *
  have c2 : ∀ x, x ≠ o → x < o + 2 → H2 x = H1 x := fun x h1 h2 => (k2 x h1).trans (e2 x h2)
  have nf3 : xk_nf 4 = 16 := rfl
  rw [b98_29, nf3]
  refine i_Off (by omega) (up_s _ _ _) (fun g3 e3' v3 => ?_)
  have e3 : ∀ x, x < o + 6 → g3 x = H2 x := fun x hx => by rw [e3' x hx, up_ne (by omega)]
  have b3 : g3 o = .inr (11, [.ref (o + 1), .int (xj 0), .ref (o + 2), .null, .null, .null, .int (xj 0), .null, .null, .null, .null, .null, .null, .null, .null]) := (e3 o (by omega)).trans o2
  have pf3 : ∀ G, xk_PF g3 o 11 3 (.ref (o + 6)) G ↔ G (va_up g3 o (.inr (11, [.ref (o + 1), .int (xj 0), .ref (o + 2), .ref (o + 6), .null, .null, .int (xj 0), .null, .null, .null, .null, .null, .null, .null, .null]))) := fun G => pf_R b3 (by show 3 < 15; decide)
  simp only [Nat.add_assoc, Nat.reduceAdd]
  simp (disch := omega) only [b98_32, b98_35, b98_36, b98_39, List.getElem?_cons_zero, List.getElem?_cons_succ, List.length_cons, List.length_nil, List.set_cons_zero, List.set_cons_succ, true_and, and_true, Option.toList_some, Option.toList_none, List.cons_append, List.nil_append, ↓reduceIte, not_false_eq_true, not_true_eq_false, Nat.reduceAdd, xj0_01, xj1_01, xb_B, xb_True, xb_False, ↓pf3]
  have o3 : va_up g3 o (.inr (11, [.ref (o + 1), .int (xj 0), .ref (o + 2), .ref (o + 6), .null, .null, .int (xj 0), .null, .null, .null, .null, .null, .null, .null, .null])) o = .inr (11, [.ref (o + 1), .int (xj 0), .ref (o + 2), .ref (o + 6), .null, .null, .int (xj 0), .null, .null, .null, .null, .null, .null, .null, .null]) := up_s _ _ _
  have k3 : ∀ x, x ≠ o → va_up g3 o (.inr (11, [.ref (o + 1), .int (xj 0), .ref (o + 2), .ref (o + 6), .null, .null, .int (xj 0), .null, .null, .null, .null, .null, .null, .null, .null])) x = g3 x := fun x hx => up_ne hx
  generalize va_up g3 o (.inr (11, [.ref (o + 1), .int (xj 0), .ref (o + 2), .ref (o + 6), .null, .null, .int (xj 0), .null, .null, .null, .null, .null, .null, .null, .null])) = H3 at *
  have c3 : ∀ x, x ≠ o → x < o + 6 → H3 x = H2 x := fun x h1 h2 => (k3 x h1).trans (e3 x h2)
  have nf4 : xk_nf 8 = 2 := rfl
  rw [b98_40, nf4]
  refine i_Reader (by omega) (up_s _ _ _) (fun g4 e4' v40 v41 => ?_)
  have e4 : ∀ x, x < o + 16 → g4 x = H3 x := fun x hx => by rw [e4' x hx, up_ne (by omega)]
  have b4 : g4 o = .inr (11, [.ref (o + 1), .int (xj 0), .ref (o + 2), .ref (o + 6), .null, .null, .int (xj 0), .null, .null, .null, .null, .null, .null, .null, .null]) := (e4 o (by omega)).trans o3
  have pf4 : ∀ G, xk_PF g4 o 11 4 (.ref (o + 16)) G ↔ G (va_up g4 o (.inr (11, [.ref (o + 1), .int (xj 0), .ref (o + 2), .ref (o + 6), .ref (o + 16), .null, .int (xj 0), .null, .null, .null, .null, .null, .null, .null, .null]))) := fun G => pf_R b4 (by show 4 < 15; decide)
  simp only [Nat.add_assoc, Nat.reduceAdd]
  simp (disch := omega) only [b98_43, b98_46, b98_47, List.getElem?_cons_zero, List.getElem?_cons_succ, List.length_cons, List.length_nil, List.set_cons_zero, List.set_cons_succ, true_and, and_true, Option.toList_some, Option.toList_none, List.cons_append, List.nil_append, ↓reduceIte, not_false_eq_true, not_true_eq_false, Nat.reduceAdd, xj0_01, xj1_01, xb_B, xb_True, xb_False, ↓pf4]
  have o4 : va_up g4 o (.inr (11, [.ref (o + 1), .int (xj 0), .ref (o + 2), .ref (o + 6), .ref (o + 16), .null, .int (xj 0), .null, .null, .null, .null, .null, .null, .null, .null])) o = .inr (11, [.ref (o + 1), .int (xj 0), .ref (o + 2), .ref (o + 6), .ref (o + 16), .null, .int (xj 0), .null, .null, .null, .null, .null, .null, .null, .null]) := up_s _ _ _
  have k4 : ∀ x, x ≠ o → va_up g4 o (.inr (11, [.ref (o + 1), .int (xj 0), .ref (o + 2), .ref (o + 6), .ref (o + 16), .null, .int (xj 0), .null, .null, .null, .null, .null, .null, .null, .null])) x = g4 x := fun x hx => up_ne hx
  generalize va_up g4 o (.inr (11, [.ref (o + 1), .int (xj 0), .ref (o + 2), .ref (o + 6), .ref (o + 16), .null, .int (xj 0), .null, .null, .null, .null, .null, .null, .null, .null])) = H4 at *
  have c4 : ∀ x, x ≠ o → x < o + 16 → H4 x = H3 x := fun x h1 h2 => (k4 x h1).trans (e4 x h2)
  rw [b98_49, ini_z (by decide) (by decide), true_and, show (xj 6).toNatClampNeg = 6 from by decide]
  generalize hg5 : va_up H4 (o + 21) (.inl (4, 6, .inr (.inr (.inr (.inr (fun _ => none)))))) = g5
  have e5 : ∀ x, x < o + 21 → g5 x = H4 x := fun x hx => by rw [← hg5, up_ne (by omega)]
  have q5 : g5 (o + 21) = .inl (4, 6, .inr (.inr (.inr (.inr (fun _ => none))))) := by rw [← hg5, up_s]
  have b5 : g5 o = .inr (11, [.ref (o + 1), .int (xj 0), .ref (o + 2), .ref (o + 6), .ref (o + 16), .null, .int (xj 0), .null, .null, .null, .null, .null, .null, .null, .null]) := (e5 o (by omega)).trans o4
  have pf5 : ∀ G, xk_PF g5 o 11 5 (.ref (o + 21)) G ↔ G (va_up g5 o (.inr (11, [.ref (o + 1), .int (xj 0), .ref (o + 2), .ref (o + 6), .ref (o + 16), .ref (o + 21), .int (xj 0), .null, .null, .null, .null, .null, .null, .null, .null]))) := fun G => pf_R b5 (by show 5 < 15; decide)
  simp only [Nat.add_assoc, Nat.reduceAdd]
  simp (disch := omega) only [b98_52, b98_55, b98_56, b98_59, List.getElem?_cons_zero, List.getElem?_cons_succ, List.length_cons, List.length_nil, List.set_cons_zero, List.set_cons_succ, true_and, and_true, Option.toList_some, Option.toList_none, List.cons_append, List.nil_append, ↓reduceIte, not_false_eq_true, not_true_eq_false, Nat.reduceAdd, xj0_01, xj1_01, xb_B, xb_True, xb_False, ↓pf5]
  have o5 : va_up g5 o (.inr (11, [.ref (o + 1), .int (xj 0), .ref (o + 2), .ref (o + 6), .ref (o + 16), .ref (o + 21), .int (xj 0), .null, .null, .null, .null, .null, .null, .null, .null])) o = .inr (11, [.ref (o + 1), .int (xj 0), .ref (o + 2), .ref (o + 6), .ref (o + 16), .ref (o + 21), .int (xj 0), .null, .null, .null, .null, .null, .null, .null, .null]) := up_s _ _ _
  have k5 : ∀ x, x ≠ o → va_up g5 o (.inr (11, [.ref (o + 1), .int (xj 0), .ref (o + 2), .ref (o + 6), .ref (o + 16), .ref (o + 21), .int (xj 0), .null, .null, .null, .null, .null, .null, .null, .null])) x = g5 x := fun x hx => up_ne hx
  generalize va_up g5 o (.inr (11, [.ref (o + 1), .int (xj 0), .ref (o + 2), .ref (o + 6), .ref (o + 16), .ref (o + 21), .int (xj 0), .null, .null, .null, .null, .null, .null, .null, .null])) = H5 at *
  have c5 : ∀ x, x ≠ o → x < o + 21 → H5 x = H4 x := fun x h1 h2 => (k5 x h1).trans (e5 x h2)
  have nf6 : xk_nf 1 = 4 := rfl
  rw [b98_60, nf6]
  refine i_Desk (by omega) (up_s _ _ _) (fun g6 e6' v6 => ?_)
  have e6 : ∀ x, x < o + 22 → g6 x = H5 x := fun x hx => by rw [e6' x hx, up_ne (by omega)]
  have b6 : g6 o = .inr (11, [.ref (o + 1), .int (xj 0), .ref (o + 2), .ref (o + 6), .ref (o + 16), .ref (o + 21), .int (xj 0), .null, .null, .null, .null, .null, .null, .null, .null]) := (e6 o (by omega)).trans o5
  have pf6 : ∀ G, xk_PF g6 o 11 7 (.ref (o + 22)) G ↔ G (va_up g6 o (.inr (11, [.ref (o + 1), .int (xj 0), .ref (o + 2), .ref (o + 6), .ref (o + 16), .ref (o + 21), .int (xj 0), .ref (o + 22), .null, .null, .null, .null, .null, .null, .null]))) := fun G => pf_R b6 (by show 7 < 15; decide)
  simp only [Nat.add_assoc, Nat.reduceAdd]
  simp (disch := omega) only [b98_63, b98_66, b98_67, List.getElem?_cons_zero, List.getElem?_cons_succ, List.length_cons, List.length_nil, List.set_cons_zero, List.set_cons_succ, true_and, and_true, Option.toList_some, Option.toList_none, List.cons_append, List.nil_append, ↓reduceIte, not_false_eq_true, not_true_eq_false, Nat.reduceAdd, xj0_01, xj1_01, xb_B, xb_True, xb_False, ↓pf6]
  have o6 : va_up g6 o (.inr (11, [.ref (o + 1), .int (xj 0), .ref (o + 2), .ref (o + 6), .ref (o + 16), .ref (o + 21), .int (xj 0), .ref (o + 22), .null, .null, .null, .null, .null, .null, .null])) o = .inr (11, [.ref (o + 1), .int (xj 0), .ref (o + 2), .ref (o + 6), .ref (o + 16), .ref (o + 21), .int (xj 0), .ref (o + 22), .null, .null, .null, .null, .null, .null, .null]) := up_s _ _ _
  have k6 : ∀ x, x ≠ o → va_up g6 o (.inr (11, [.ref (o + 1), .int (xj 0), .ref (o + 2), .ref (o + 6), .ref (o + 16), .ref (o + 21), .int (xj 0), .ref (o + 22), .null, .null, .null, .null, .null, .null, .null])) x = g6 x := fun x hx => up_ne hx
  generalize va_up g6 o (.inr (11, [.ref (o + 1), .int (xj 0), .ref (o + 2), .ref (o + 6), .ref (o + 16), .ref (o + 21), .int (xj 0), .ref (o + 22), .null, .null, .null, .null, .null, .null, .null])) = H6 at *
  have c6 : ∀ x, x ≠ o → x < o + 22 → H6 x = H5 x := fun x h1 h2 => (k6 x h1).trans (e6 x h2)
  rw [b98_68, ini_z (by decide) (by decide), true_and, show (xj 4).toNatClampNeg = 4 from by decide]
  generalize hg7 : va_up H6 (o + 39) (.inl (5, 4, .inr (.inr (.inr (.inr (fun _ => none)))))) = g7
  have e7 : ∀ x, x < o + 39 → g7 x = H6 x := fun x hx => by rw [← hg7, up_ne (by omega)]
  have q7 : g7 (o + 39) = .inl (5, 4, .inr (.inr (.inr (.inr (fun _ => none))))) := by rw [← hg7, up_s]
  have b7 : g7 o = .inr (11, [.ref (o + 1), .int (xj 0), .ref (o + 2), .ref (o + 6), .ref (o + 16), .ref (o + 21), .int (xj 0), .ref (o + 22), .null, .null, .null, .null, .null, .null, .null]) := (e7 o (by omega)).trans o6
  have pf7 : ∀ G, xk_PF g7 o 11 8 (.ref (o + 39)) G ↔ G (va_up g7 o (.inr (11, [.ref (o + 1), .int (xj 0), .ref (o + 2), .ref (o + 6), .ref (o + 16), .ref (o + 21), .int (xj 0), .ref (o + 22), .ref (o + 39), .null, .null, .null, .null, .null, .null]))) := fun G => pf_R b7 (by show 8 < 15; decide)
  simp only [Nat.add_assoc, Nat.reduceAdd]
  simp (disch := omega) only [b98_71, b98_74, b98_75, List.getElem?_cons_zero, List.getElem?_cons_succ, List.length_cons, List.length_nil, List.set_cons_zero, List.set_cons_succ, true_and, and_true, Option.toList_some, Option.toList_none, List.cons_append, List.nil_append, ↓reduceIte, not_false_eq_true, not_true_eq_false, Nat.reduceAdd, xj0_01, xj1_01, xb_B, xb_True, xb_False, ↓pf7]
  have o7 : va_up g7 o (.inr (11, [.ref (o + 1), .int (xj 0), .ref (o + 2), .ref (o + 6), .ref (o + 16), .ref (o + 21), .int (xj 0), .ref (o + 22), .ref (o + 39), .null, .null, .null, .null, .null, .null])) o = .inr (11, [.ref (o + 1), .int (xj 0), .ref (o + 2), .ref (o + 6), .ref (o + 16), .ref (o + 21), .int (xj 0), .ref (o + 22), .ref (o + 39), .null, .null, .null, .null, .null, .null]) := up_s _ _ _
  have k7 : ∀ x, x ≠ o → va_up g7 o (.inr (11, [.ref (o + 1), .int (xj 0), .ref (o + 2), .ref (o + 6), .ref (o + 16), .ref (o + 21), .int (xj 0), .ref (o + 22), .ref (o + 39), .null, .null, .null, .null, .null, .null])) x = g7 x := fun x hx => up_ne hx
  generalize va_up g7 o (.inr (11, [.ref (o + 1), .int (xj 0), .ref (o + 2), .ref (o + 6), .ref (o + 16), .ref (o + 21), .int (xj 0), .ref (o + 22), .ref (o + 39), .null, .null, .null, .null, .null, .null])) = H7 at *
  have c7 : ∀ x, x ≠ o → x < o + 39 → H7 x = H6 x := fun x h1 h2 => (k7 x h1).trans (e7 x h2)
  rw [b98_76, ini_z (by decide) (by decide), true_and, z_2, show (xj 4).toNatClampNeg = 4 from by decide]
  generalize hg8 : va_up H7 (o + 40) (.inl (2, 4, .inl (fun _ => xj 0))) = g8
  have e8 : ∀ x, x < o + 40 → g8 x = H7 x := fun x hx => by rw [← hg8, up_ne (by omega)]
  have q8 : g8 (o + 40) = .inl (2, 4, .inl (fun _ => xj 0)) := by rw [← hg8, up_s]
  have b8 : g8 o = .inr (11, [.ref (o + 1), .int (xj 0), .ref (o + 2), .ref (o + 6), .ref (o + 16), .ref (o + 21), .int (xj 0), .ref (o + 22), .ref (o + 39), .null, .null, .null, .null, .null, .null]) := (e8 o (by omega)).trans o7
  have pf8 : ∀ G, xk_PF g8 o 11 9 (.ref (o + 40)) G ↔ G (va_up g8 o (.inr (11, [.ref (o + 1), .int (xj 0), .ref (o + 2), .ref (o + 6), .ref (o + 16), .ref (o + 21), .int (xj 0), .ref (o + 22), .ref (o + 39), .ref (o + 40), .null, .null, .null, .null, .null]))) := fun G => pf_R b8 (by show 9 < 15; decide)
  simp only [Nat.add_assoc, Nat.reduceAdd]
  simp (disch := omega) only [b98_78, b98_81, b98_82, b98_85, List.getElem?_cons_zero, List.getElem?_cons_succ, List.length_cons, List.length_nil, List.set_cons_zero, List.set_cons_succ, true_and, and_true, Option.toList_some, Option.toList_none, List.cons_append, List.nil_append, ↓reduceIte, not_false_eq_true, not_true_eq_false, Nat.reduceAdd, xj0_01, xj1_01, xb_B, xb_True, xb_False, ↓pf8]
  have o8 : va_up g8 o (.inr (11, [.ref (o + 1), .int (xj 0), .ref (o + 2), .ref (o + 6), .ref (o + 16), .ref (o + 21), .int (xj 0), .ref (o + 22), .ref (o + 39), .ref (o + 40), .null, .null, .null, .null, .null])) o = .inr (11, [.ref (o + 1), .int (xj 0), .ref (o + 2), .ref (o + 6), .ref (o + 16), .ref (o + 21), .int (xj 0), .ref (o + 22), .ref (o + 39), .ref (o + 40), .null, .null, .null, .null, .null]) := up_s _ _ _
  have k8 : ∀ x, x ≠ o → va_up g8 o (.inr (11, [.ref (o + 1), .int (xj 0), .ref (o + 2), .ref (o + 6), .ref (o + 16), .ref (o + 21), .int (xj 0), .ref (o + 22), .ref (o + 39), .ref (o + 40), .null, .null, .null, .null, .null])) x = g8 x := fun x hx => up_ne hx
  generalize va_up g8 o (.inr (11, [.ref (o + 1), .int (xj 0), .ref (o + 2), .ref (o + 6), .ref (o + 16), .ref (o + 21), .int (xj 0), .ref (o + 22), .ref (o + 39), .ref (o + 40), .null, .null, .null, .null, .null])) = H8 at *
  have c8 : ∀ x, x ≠ o → x < o + 40 → H8 x = H7 x := fun x h1 h2 => (k8 x h1).trans (e8 x h2)
  have nf9 : xk_nf 2 = 3 := rfl
  rw [b98_86, nf9]
  refine i_Hist (by omega) (up_s _ _ _) (fun g9 e9' v9 => ?_)
  have e9 : ∀ x, x < o + 41 → g9 x = H8 x := fun x hx => by rw [e9' x hx, up_ne (by omega)]
  have b9 : g9 o = .inr (11, [.ref (o + 1), .int (xj 0), .ref (o + 2), .ref (o + 6), .ref (o + 16), .ref (o + 21), .int (xj 0), .ref (o + 22), .ref (o + 39), .ref (o + 40), .null, .null, .null, .null, .null]) := (e9 o (by omega)).trans o8
  have pf9 : ∀ G, xk_PF g9 o 11 10 (.ref (o + 41)) G ↔ G (va_up g9 o (.inr (11, [.ref (o + 1), .int (xj 0), .ref (o + 2), .ref (o + 6), .ref (o + 16), .ref (o + 21), .int (xj 0), .ref (o + 22), .ref (o + 39), .ref (o + 40), .ref (o + 41), .null, .null, .null, .null]))) := fun G => pf_R b9 (by show 10 < 15; decide)
  simp only [Nat.add_assoc, Nat.reduceAdd]
  simp (disch := omega) only [b98_89, b98_92, b98_93, b98_96, List.getElem?_cons_zero, List.getElem?_cons_succ, List.length_cons, List.length_nil, List.set_cons_zero, List.set_cons_succ, true_and, and_true, Option.toList_some, Option.toList_none, List.cons_append, List.nil_append, ↓reduceIte, not_false_eq_true, not_true_eq_false, Nat.reduceAdd, xj0_01, xj1_01, xb_B, xb_True, xb_False, ↓pf9]
  have o9 : va_up g9 o (.inr (11, [.ref (o + 1), .int (xj 0), .ref (o + 2), .ref (o + 6), .ref (o + 16), .ref (o + 21), .int (xj 0), .ref (o + 22), .ref (o + 39), .ref (o + 40), .ref (o + 41), .null, .null, .null, .null])) o = .inr (11, [.ref (o + 1), .int (xj 0), .ref (o + 2), .ref (o + 6), .ref (o + 16), .ref (o + 21), .int (xj 0), .ref (o + 22), .ref (o + 39), .ref (o + 40), .ref (o + 41), .null, .null, .null, .null]) := up_s _ _ _
  have k9 : ∀ x, x ≠ o → va_up g9 o (.inr (11, [.ref (o + 1), .int (xj 0), .ref (o + 2), .ref (o + 6), .ref (o + 16), .ref (o + 21), .int (xj 0), .ref (o + 22), .ref (o + 39), .ref (o + 40), .ref (o + 41), .null, .null, .null, .null])) x = g9 x := fun x hx => up_ne hx
  generalize va_up g9 o (.inr (11, [.ref (o + 1), .int (xj 0), .ref (o + 2), .ref (o + 6), .ref (o + 16), .ref (o + 21), .int (xj 0), .ref (o + 22), .ref (o + 39), .ref (o + 40), .ref (o + 41), .null, .null, .null, .null])) = H9 at *
  have c9 : ∀ x, x ≠ o → x < o + 41 → H9 x = H8 x := fun x h1 h2 => (k9 x h1).trans (e9 x h2)
  have nf10 : xk_nf 0 = 8 := rfl
  rw [b98_97, nf10]
  refine i_Day (by omega) (up_s _ _ _) (fun g10 e10' v10 => ?_)
  have e10 : ∀ x, x < o + 83 → g10 x = H9 x := fun x hx => by rw [e10' x hx, up_ne (by omega)]
  have b10 : g10 o = .inr (11, [.ref (o + 1), .int (xj 0), .ref (o + 2), .ref (o + 6), .ref (o + 16), .ref (o + 21), .int (xj 0), .ref (o + 22), .ref (o + 39), .ref (o + 40), .ref (o + 41), .null, .null, .null, .null]) := (e10 o (by omega)).trans o9
  have pf10 : ∀ G, xk_PF g10 o 11 11 (.ref (o + 83)) G ↔ G (va_up g10 o (.inr (11, [.ref (o + 1), .int (xj 0), .ref (o + 2), .ref (o + 6), .ref (o + 16), .ref (o + 21), .int (xj 0), .ref (o + 22), .ref (o + 39), .ref (o + 40), .ref (o + 41), .ref (o + 83), .null, .null, .null]))) := fun G => pf_R b10 (by show 11 < 15; decide)
  simp only [Nat.add_assoc, Nat.reduceAdd]
  simp (disch := omega) only [b98_100, b98_103, b98_104, b98_107, List.getElem?_cons_zero, List.getElem?_cons_succ, List.length_cons, List.length_nil, List.set_cons_zero, List.set_cons_succ, true_and, and_true, Option.toList_some, Option.toList_none, List.cons_append, List.nil_append, ↓reduceIte, not_false_eq_true, not_true_eq_false, Nat.reduceAdd, xj0_01, xj1_01, xb_B, xb_True, xb_False, ↓pf10]
  have o10 : va_up g10 o (.inr (11, [.ref (o + 1), .int (xj 0), .ref (o + 2), .ref (o + 6), .ref (o + 16), .ref (o + 21), .int (xj 0), .ref (o + 22), .ref (o + 39), .ref (o + 40), .ref (o + 41), .ref (o + 83), .null, .null, .null])) o = .inr (11, [.ref (o + 1), .int (xj 0), .ref (o + 2), .ref (o + 6), .ref (o + 16), .ref (o + 21), .int (xj 0), .ref (o + 22), .ref (o + 39), .ref (o + 40), .ref (o + 41), .ref (o + 83), .null, .null, .null]) := up_s _ _ _
  have k10 : ∀ x, x ≠ o → va_up g10 o (.inr (11, [.ref (o + 1), .int (xj 0), .ref (o + 2), .ref (o + 6), .ref (o + 16), .ref (o + 21), .int (xj 0), .ref (o + 22), .ref (o + 39), .ref (o + 40), .ref (o + 41), .ref (o + 83), .null, .null, .null])) x = g10 x := fun x hx => up_ne hx
  generalize va_up g10 o (.inr (11, [.ref (o + 1), .int (xj 0), .ref (o + 2), .ref (o + 6), .ref (o + 16), .ref (o + 21), .int (xj 0), .ref (o + 22), .ref (o + 39), .ref (o + 40), .ref (o + 41), .ref (o + 83), .null, .null, .null])) = H10 at *
  have c10 : ∀ x, x ≠ o → x < o + 83 → H10 x = H9 x := fun x h1 h2 => (k10 x h1).trans (e10 x h2)
  have nf11 : xk_nf 9 = 4 := rfl
  rw [b98_108, nf11]
  refine i_Run (by omega) (up_s _ _ _) (fun g11 e11' v11 => ?_)
  have e11 : ∀ x, x < o + 85 → g11 x = H10 x := fun x hx => by rw [e11' x hx, up_ne (by omega)]
  have b11 : g11 o = .inr (11, [.ref (o + 1), .int (xj 0), .ref (o + 2), .ref (o + 6), .ref (o + 16), .ref (o + 21), .int (xj 0), .ref (o + 22), .ref (o + 39), .ref (o + 40), .ref (o + 41), .ref (o + 83), .null, .null, .null]) := (e11 o (by omega)).trans o10
  have pf11 : ∀ G, xk_PF g11 o 11 12 (.ref (o + 85)) G ↔ G (va_up g11 o (.inr (11, [.ref (o + 1), .int (xj 0), .ref (o + 2), .ref (o + 6), .ref (o + 16), .ref (o + 21), .int (xj 0), .ref (o + 22), .ref (o + 39), .ref (o + 40), .ref (o + 41), .ref (o + 83), .ref (o + 85), .null, .null]))) := fun G => pf_R b11 (by show 12 < 15; decide)
  simp only [Nat.add_assoc, Nat.reduceAdd]
  simp (disch := omega) only [b98_111, b98_114, b98_115, b98_118, List.getElem?_cons_zero, List.getElem?_cons_succ, List.length_cons, List.length_nil, List.set_cons_zero, List.set_cons_succ, true_and, and_true, Option.toList_some, Option.toList_none, List.cons_append, List.nil_append, ↓reduceIte, not_false_eq_true, not_true_eq_false, Nat.reduceAdd, xj0_01, xj1_01, xb_B, xb_True, xb_False, ↓pf11]
  have o11 : va_up g11 o (.inr (11, [.ref (o + 1), .int (xj 0), .ref (o + 2), .ref (o + 6), .ref (o + 16), .ref (o + 21), .int (xj 0), .ref (o + 22), .ref (o + 39), .ref (o + 40), .ref (o + 41), .ref (o + 83), .ref (o + 85), .null, .null])) o = .inr (11, [.ref (o + 1), .int (xj 0), .ref (o + 2), .ref (o + 6), .ref (o + 16), .ref (o + 21), .int (xj 0), .ref (o + 22), .ref (o + 39), .ref (o + 40), .ref (o + 41), .ref (o + 83), .ref (o + 85), .null, .null]) := up_s _ _ _
  have k11 : ∀ x, x ≠ o → va_up g11 o (.inr (11, [.ref (o + 1), .int (xj 0), .ref (o + 2), .ref (o + 6), .ref (o + 16), .ref (o + 21), .int (xj 0), .ref (o + 22), .ref (o + 39), .ref (o + 40), .ref (o + 41), .ref (o + 83), .ref (o + 85), .null, .null])) x = g11 x := fun x hx => up_ne hx
  generalize va_up g11 o (.inr (11, [.ref (o + 1), .int (xj 0), .ref (o + 2), .ref (o + 6), .ref (o + 16), .ref (o + 21), .int (xj 0), .ref (o + 22), .ref (o + 39), .ref (o + 40), .ref (o + 41), .ref (o + 83), .ref (o + 85), .null, .null])) = H11 at *
  have c11 : ∀ x, x ≠ o → x < o + 85 → H11 x = H10 x := fun x h1 h2 => (k11 x h1).trans (e11 x h2)
  have nf12 : xk_nf 6 = 9 := rfl
  rw [b98_119, nf12]
  refine i_Plan (by omega) (up_s _ _ _) (fun g12 e12' v12 => ?_)
  have e12 : ∀ x, x < o + 90 → g12 x = H11 x := fun x hx => by rw [e12' x hx, up_ne (by omega)]
  have b12 : g12 o = .inr (11, [.ref (o + 1), .int (xj 0), .ref (o + 2), .ref (o + 6), .ref (o + 16), .ref (o + 21), .int (xj 0), .ref (o + 22), .ref (o + 39), .ref (o + 40), .ref (o + 41), .ref (o + 83), .ref (o + 85), .null, .null]) := (e12 o (by omega)).trans o11
  have pf12 : ∀ G, xk_PF g12 o 11 13 (.ref (o + 90)) G ↔ G (va_up g12 o (.inr (11, [.ref (o + 1), .int (xj 0), .ref (o + 2), .ref (o + 6), .ref (o + 16), .ref (o + 21), .int (xj 0), .ref (o + 22), .ref (o + 39), .ref (o + 40), .ref (o + 41), .ref (o + 83), .ref (o + 85), .ref (o + 90), .null]))) := fun G => pf_R b12 (by show 13 < 15; decide)
  simp only [Nat.add_assoc, Nat.reduceAdd]
  simp (disch := omega) only [b98_122, b98_125, b98_126, b98_129, List.getElem?_cons_zero, List.getElem?_cons_succ, List.length_cons, List.length_nil, List.set_cons_zero, List.set_cons_succ, true_and, and_true, Option.toList_some, Option.toList_none, List.cons_append, List.nil_append, ↓reduceIte, not_false_eq_true, not_true_eq_false, Nat.reduceAdd, xj0_01, xj1_01, xb_B, xb_True, xb_False, ↓pf12]
  have o12 : va_up g12 o (.inr (11, [.ref (o + 1), .int (xj 0), .ref (o + 2), .ref (o + 6), .ref (o + 16), .ref (o + 21), .int (xj 0), .ref (o + 22), .ref (o + 39), .ref (o + 40), .ref (o + 41), .ref (o + 83), .ref (o + 85), .ref (o + 90), .null])) o = .inr (11, [.ref (o + 1), .int (xj 0), .ref (o + 2), .ref (o + 6), .ref (o + 16), .ref (o + 21), .int (xj 0), .ref (o + 22), .ref (o + 39), .ref (o + 40), .ref (o + 41), .ref (o + 83), .ref (o + 85), .ref (o + 90), .null]) := up_s _ _ _
  have k12 : ∀ x, x ≠ o → va_up g12 o (.inr (11, [.ref (o + 1), .int (xj 0), .ref (o + 2), .ref (o + 6), .ref (o + 16), .ref (o + 21), .int (xj 0), .ref (o + 22), .ref (o + 39), .ref (o + 40), .ref (o + 41), .ref (o + 83), .ref (o + 85), .ref (o + 90), .null])) x = g12 x := fun x hx => up_ne hx
  generalize va_up g12 o (.inr (11, [.ref (o + 1), .int (xj 0), .ref (o + 2), .ref (o + 6), .ref (o + 16), .ref (o + 21), .int (xj 0), .ref (o + 22), .ref (o + 39), .ref (o + 40), .ref (o + 41), .ref (o + 83), .ref (o + 85), .ref (o + 90), .null])) = H12 at *
  have c12 : ∀ x, x ≠ o → x < o + 90 → H12 x = H11 x := fun x h1 h2 => (k12 x h1).trans (e12 x h2)
  have nf13 : xk_nf 5 = 4 := rfl
  rw [b98_130, nf13]
  refine i_Orders (by omega) (up_s _ _ _) (fun g13 e13' v13 => ?_)
  have e13 : ∀ x, x < o + 108 → g13 x = H12 x := fun x hx => by rw [e13' x hx, up_ne (by omega)]
  have b13 : g13 o = .inr (11, [.ref (o + 1), .int (xj 0), .ref (o + 2), .ref (o + 6), .ref (o + 16), .ref (o + 21), .int (xj 0), .ref (o + 22), .ref (o + 39), .ref (o + 40), .ref (o + 41), .ref (o + 83), .ref (o + 85), .ref (o + 90), .null]) := (e13 o (by omega)).trans o12
  have pf13 : ∀ G, xk_PF g13 o 11 14 (.ref (o + 108)) G ↔ G (va_up g13 o (.inr (11, [.ref (o + 1), .int (xj 0), .ref (o + 2), .ref (o + 6), .ref (o + 16), .ref (o + 21), .int (xj 0), .ref (o + 22), .ref (o + 39), .ref (o + 40), .ref (o + 41), .ref (o + 83), .ref (o + 85), .ref (o + 90), .ref (o + 108)]))) := fun G => pf_R b13 (by show 14 < 15; decide)
  simp only [Nat.add_assoc, Nat.reduceAdd]
  simp (disch := omega) only [b98_133, b98_136, b98_137, List.getElem?_cons_zero, List.getElem?_cons_succ, List.length_cons, List.length_nil, List.set_cons_zero, List.set_cons_succ, true_and, and_true, Option.toList_some, Option.toList_none, List.cons_append, List.nil_append, ↓reduceIte, not_false_eq_true, not_true_eq_false, Nat.reduceAdd, xj0_01, xj1_01, xb_B, xb_True, xb_False, ↓pf13]
  have o13 : va_up g13 o (.inr (11, [.ref (o + 1), .int (xj 0), .ref (o + 2), .ref (o + 6), .ref (o + 16), .ref (o + 21), .int (xj 0), .ref (o + 22), .ref (o + 39), .ref (o + 40), .ref (o + 41), .ref (o + 83), .ref (o + 85), .ref (o + 90), .ref (o + 108)])) o = .inr (11, [.ref (o + 1), .int (xj 0), .ref (o + 2), .ref (o + 6), .ref (o + 16), .ref (o + 21), .int (xj 0), .ref (o + 22), .ref (o + 39), .ref (o + 40), .ref (o + 41), .ref (o + 83), .ref (o + 85), .ref (o + 90), .ref (o + 108)]) := up_s _ _ _
  have k13 : ∀ x, x ≠ o → va_up g13 o (.inr (11, [.ref (o + 1), .int (xj 0), .ref (o + 2), .ref (o + 6), .ref (o + 16), .ref (o + 21), .int (xj 0), .ref (o + 22), .ref (o + 39), .ref (o + 40), .ref (o + 41), .ref (o + 83), .ref (o + 85), .ref (o + 90), .ref (o + 108)])) x = g13 x := fun x hx => up_ne hx
  generalize va_up g13 o (.inr (11, [.ref (o + 1), .int (xj 0), .ref (o + 2), .ref (o + 6), .ref (o + 16), .ref (o + 21), .int (xj 0), .ref (o + 22), .ref (o + 39), .ref (o + 40), .ref (o + 41), .ref (o + 83), .ref (o + 85), .ref (o + 90), .ref (o + 108)])) = H13 at *
  have c13 : ∀ x, x ≠ o → x < o + 108 → H13 x = H12 x := fun x h1 h2 => (k13 x h1).trans (e13 x h2)
  have d1 : ∀ x, x ≠ o → x < o + 2 → H13 x = g1 x := fun x h1 h2 => by rw [c13 x (by omega) (by omega), c12 x (by omega) (by omega), c11 x (by omega) (by omega), c10 x (by omega) (by omega), c9 x (by omega) (by omega), c8 x (by omega) (by omega), c7 x (by omega) (by omega), c6 x (by omega) (by omega), c5 x (by omega) (by omega), c4 x (by omega) (by omega), c3 x (by omega) (by omega), c2 x (by omega) (by omega)]; exact k1 x h1
  have d2 : ∀ x, x ≠ o → x < o + 6 → H13 x = g2 x := fun x h1 h2 => by rw [c13 x (by omega) (by omega), c12 x (by omega) (by omega), c11 x (by omega) (by omega), c10 x (by omega) (by omega), c9 x (by omega) (by omega), c8 x (by omega) (by omega), c7 x (by omega) (by omega), c6 x (by omega) (by omega), c5 x (by omega) (by omega), c4 x (by omega) (by omega), c3 x (by omega) (by omega)]; exact k2 x h1
  have d3 : ∀ x, x ≠ o → x < o + 16 → H13 x = g3 x := fun x h1 h2 => by rw [c13 x (by omega) (by omega), c12 x (by omega) (by omega), c11 x (by omega) (by omega), c10 x (by omega) (by omega), c9 x (by omega) (by omega), c8 x (by omega) (by omega), c7 x (by omega) (by omega), c6 x (by omega) (by omega), c5 x (by omega) (by omega), c4 x (by omega) (by omega)]; exact k3 x h1
  have d4 : ∀ x, x ≠ o → x < o + 21 → H13 x = g4 x := fun x h1 h2 => by rw [c13 x (by omega) (by omega), c12 x (by omega) (by omega), c11 x (by omega) (by omega), c10 x (by omega) (by omega), c9 x (by omega) (by omega), c8 x (by omega) (by omega), c7 x (by omega) (by omega), c6 x (by omega) (by omega), c5 x (by omega) (by omega)]; exact k4 x h1
  have d5 : ∀ x, x ≠ o → x < o + 22 → H13 x = g5 x := fun x h1 h2 => by rw [c13 x (by omega) (by omega), c12 x (by omega) (by omega), c11 x (by omega) (by omega), c10 x (by omega) (by omega), c9 x (by omega) (by omega), c8 x (by omega) (by omega), c7 x (by omega) (by omega), c6 x (by omega) (by omega)]; exact k5 x h1
  have d6 : ∀ x, x ≠ o → x < o + 39 → H13 x = g6 x := fun x h1 h2 => by rw [c13 x (by omega) (by omega), c12 x (by omega) (by omega), c11 x (by omega) (by omega), c10 x (by omega) (by omega), c9 x (by omega) (by omega), c8 x (by omega) (by omega), c7 x (by omega) (by omega)]; exact k6 x h1
  have d7 : ∀ x, x ≠ o → x < o + 40 → H13 x = g7 x := fun x h1 h2 => by rw [c13 x (by omega) (by omega), c12 x (by omega) (by omega), c11 x (by omega) (by omega), c10 x (by omega) (by omega), c9 x (by omega) (by omega), c8 x (by omega) (by omega)]; exact k7 x h1
  have d8 : ∀ x, x ≠ o → x < o + 41 → H13 x = g8 x := fun x h1 h2 => by rw [c13 x (by omega) (by omega), c12 x (by omega) (by omega), c11 x (by omega) (by omega), c10 x (by omega) (by omega), c9 x (by omega) (by omega)]; exact k8 x h1
  have d9 : ∀ x, x ≠ o → x < o + 83 → H13 x = g9 x := fun x h1 h2 => by rw [c13 x (by omega) (by omega), c12 x (by omega) (by omega), c11 x (by omega) (by omega), c10 x (by omega) (by omega)]; exact k9 x h1
  have d10 : ∀ x, x ≠ o → x < o + 85 → H13 x = g10 x := fun x h1 h2 => by rw [c13 x (by omega) (by omega), c12 x (by omega) (by omega), c11 x (by omega) (by omega)]; exact k10 x h1
  have d11 : ∀ x, x ≠ o → x < o + 90 → H13 x = g11 x := fun x h1 h2 => by rw [c13 x (by omega) (by omega), c12 x (by omega) (by omega)]; exact k11 x h1
  have d12 : ∀ x, x ≠ o → x < o + 108 → H13 x = g12 x := fun x h1 h2 => by rw [c13 x (by omega) (by omega)]; exact k12 x h1
  have d13 : ∀ x, x ≠ o → H13 x = g13 x := k13
  refine ru_loop (h := H13) (by omega) o13 rfl (fun R eR pR => ?_) 6 0 H13 (by omega) (fun _ _ _ => rfl) ⟨by rw [d5 _ (by omega) (by omega)]; exact q5, fun k hk => absurd hk (Nat.not_lt_zero k)⟩
  simp (disch := omega) only [b98_166, b98_167, List.getElem?_cons_zero, List.getElem?_cons_succ, List.length_cons, List.length_nil, List.set_cons_zero, List.set_cons_succ, true_and, and_true, Option.toList_some, Option.toList_none, List.cons_append, List.nil_append, ↓reduceIte, not_false_eq_true, not_true_eq_false, Nat.reduceAdd, xj0_01, xj1_01, xb_B, xb_True, xb_False]
  refine im_loop (h := R) (by omega) ((eR o (by omega) (by omega)).trans o13) rfl (fun Z eZ pZ => ?_) 4 0 R (by omega) (fun _ _ _ => rfl) ⟨by rw [eR _ (by omega) (by omega), d7 _ (by omega) (by omega)]; exact q7, fun k hk => absurd hk (Nat.not_lt_zero k)⟩
  have z : ∀ x, x < o + 112 → x ≠ o + 21 → x ≠ o + 39 → Z x = H13 x := fun x h1 h2 h3 => (eZ x (by omega) h3).trans (eR x h1 h2)
  have fr : ∀ x, x < o → Z x = f x := fun x hx => by
    rw [z x (by omega) (by omega) (by omega), d1 x (by omega) (by omega), e1 x (by omega)]
  have po := hpost Z (s + 8421 + 480) fr (by omega) ⟨⟨(z o (by omega) (by omega) (by omega)).trans o13, by rw [z _ (by omega) (by omega) (by omega), d1 _ (by omega) (by omega)]; exact q1⟩, ⟨0, 0, 0, _, _, _, by rw [z _ (by omega) (by omega) (by omega), d2 _ (by omega) (by omega)]; exact t20, by rw [z _ (by omega) (by omega) (by omega), d2 _ (by omega) (by omega)]; exact t21, by rw [z _ (by omega) (by omega) (by omega), d2 _ (by omega) (by omega)]; exact t22, by rw [z _ (by omega) (by omega) (by omega), d2 _ (by omega) (by omega)]; exact t23⟩, ⟨of0, xv_Off_fr v3 (fun x q1 q2 => by rw [z _ (by omega) (by omega) (by omega), d3 _ (by omega) (by omega)]), of0_z⟩, ⟨0, [], by rw [z _ (by omega) (by omega) (by omega), d4 _ (by omega) (by omega)]; exact v40, xL_fr v41 (fun x q1 q2 => by rw [z _ (by omega) (by omega) (by omega), d4 _ (by omega) (by omega)])⟩, ⟨(eZ _ (by omega) (by omega)).trans pR.1, fun k hk => ⟨[], fun _ => 0, xL_fr (pR.2 k hk).1 (fun x q1 q2 => eZ x (by omega) (by omega)), (eZ _ (by omega) (by omega)).trans (pR.2 k hk).2, fun q => absurd q (Nat.not_lt_zero k)⟩⟩, xv_Dk_fr v6 (fun x q1 q2 => by rw [z _ (by omega) (by omega) (by omega), d6 _ (by omega) (by omega)]), ⟨pZ.1, by rw [z _ (by omega) (by omega) (by omega), d8 _ (by omega) (by omega)]; exact q8, pZ.2⟩, ⟨?_, ?_, fun k hk => ?_⟩, ⟨d00, xv_Day_fr v10 (fun x q1 q2 => by rw [z _ (by omega) (by omega) (by omega), d10 _ (by omega) (by omega)]), fun _ _ => rfl⟩, ⟨d00, fun _ => 0, 0, fun _ => 0, xv_Rn_fr v11 (fun x q1 q2 => by rw [z _ (by omega) (by omega) (by omega), d11 _ (by omega) (by omega)]), fun _ _ => rfl⟩, ⟨(0, 0, 0, fun _ => 0), 0, 0, 0, fun _ => 0, fun _ => d00, ⟨?_, ?_, ?_, ?_, fun k hk => ?_, fun _ _ _ _ => rfl, fun _ _ => rfl, fun _ _ => rfl⟩, by show (-1 : Int) ≤ 0; decide, by show (0 : Int) ≤ 1000; decide, by show (0 : Int) ≤ 0; decide, by show (0 : Int) ≤ 100000; decide, by show 0 ≤ 6; decide⟩, ⟨ot0, fun _ => 0, xv_Or_fr v13 (fun x q1 q2 => by rw [z _ (by omega) (by omega) (by omega), d13 _ (by omega)]), fun _ _ => ⟨Int.le_refl 0, by show (0 : Int) < 6; decide⟩, fun _ _ => rfl, fun _ _ => rfl, fun _ _ => rfl⟩⟩
  · simp (disch := omega) only [b98_196, List.getElem?_cons_zero, List.getElem?_cons_succ, List.length_cons, List.length_nil, List.set_cons_zero, List.set_cons_succ, true_and, and_true, Option.toList_some, Option.toList_none, List.cons_append, List.nil_append, ↓reduceIte, not_false_eq_true, not_true_eq_false, Nat.reduceAdd, xj0_01, xj1_01, xb_B, xb_True, xb_False]
    exact po
  · rw [z _ (by omega) (by omega) (by omega), d9 _ (by omega) (by omega)]; exact v9.1
  · rw [z _ (by omega) (by omega) (by omega), d9 _ (by omega) (by omega)]; exact v9.2.1
  · exact xv_Day_fr (v9.2.2 k hk) (fun x q1 q2 => by rw [z _ (by omega) (by omega) (by omega), d9 _ (by omega) (by omega)])
  · rw [z _ (by omega) (by omega) (by omega), d12 _ (by omega) (by omega)]; exact v12.1
  · rw [z _ (by omega) (by omega) (by omega), d12 _ (by omega) (by omega)]; exact v12.2.1
  · rw [z _ (by omega) (by omega) (by omega), d12 _ (by omega) (by omega)]; exact v12.2.2.1
  · rw [z _ (by omega) (by omega) (by omega), d12 _ (by omega) (by omega)]; exact v12.2.2.2.1
  · exact xv_Day_fr (v12.2.2.2.2 k hk) (fun x q1 q2 => by rw [z _ (by omega) (by omega) (by omega), d12 _ (by omega) (by omega)])
end XS9e04

