/-! what is made: the history, the planner -/
theorem up_row {u : Nat → Option Nat} {j v base c : Nat} (hu : u = fun i => if i < j then some (base + c * i) else none) (hv : v = base + c * j) : va_up u j (some v) = fun i => if i < j + 1 then some (base + c * i) else none := by
  subst hu hv
  funext i
  show (if i = j then some (base + c * j) else if i < j then some (base + c * i) else none) = if i < j + 1 then some (base + c * i) else none
  by_cases e : i = j
  · subst e
    rw [if_pos rfl, if_pos (by omega)]
  · rw [if_neg e]
    by_cases c2 : i < j
    · rw [if_pos c2, if_pos (by omega)]
    · rw [if_neg c2, if_neg (by omega)]
section XS9e02
variable {D o s t r v k j : Nat} {f g : Nat → xk_C} {K : Option Value → xk_S → Prop} {G : (Nat → xk_C) → Prop}
theorem as_q {u : Nat → Option Nat} {tt m c : Nat} {fs : List Value} (h : f r = .inl (tt, m, .inr (.inr (.inr (.inr u))))) (hv : f v = .inr (c, fs)) (hc : xk_rk c = some tt) (hk : k < m) (hm : m ≤ 1000) : xk_ASQ f r v (xj (k : Nat)) G ↔ G (va_up f r (.inl (tt, m, .inr (.inr (.inr (.inr (va_up u k (some v)))))))) := by
  have e : (xj (k : Nat)).toNatClampNeg = k := by rw [xj_nat (by omega) (by omega), Int.toNat_natCast]
  have hin := (xj_in (z := (k : Nat)) (n := m) (by omega) (by omega) (by omega)).mpr trivial
  unfold xk_ASQ
  rw [h, hv]
  show (xk_rk c = some tt ∧ ¬ (xj (k : Nat) < 0 ∨ m ≤ (xj (k : Nat)).toNatClampNeg) ∧ G (va_up f r (.inl (tt, m, .inr (.inr (.inr (.inr (va_up u (xj (k : Nat)).toNatClampNeg (some v))))))))) ↔ _
  rw [e] at hin ⊢
  exact ⟨fun q => q.2.2, fun q => ⟨hc, hin, q⟩⟩
/-- the days of the history made so far -/
def hiP (g : Nat → xk_C) (o j : Nat) : Prop := g o = xh_c o 0 0 ∧ g (o + 1) = .inl (6, 20, .inr (.inr (.inr (.inr (fun i => if i < j then some (o + 2 + 2 * i) else none))))) ∧ ∀ k, k < j → xv_Day g (o + 2 + 2 * k) d00
theorem hi_loop (hD : 3 ≤ D) (hpost : ∀ g, (∀ x, x < o → g x = f x) → hiP g o 20 → K none (g, (o + 42, s + 280, t))) : ∀ (m j : Nat) (g : Nat → xk_C), j + m = 20 → (∀ x, x < o → g x = f x) → hiP g o j → xk_B (D - 1) 14 15 [.ref o, .int (xj (j : Nat))] [] (g, (o + 2 + 2 * j, s + 14 * j, t)) K := by
  intro m
  induction m with
  | zero =>
    intro j g hj fr h
    have hj : j = 20 := by omega
    subst hj
    have po := hpost g fr h
    have ln : ∀ F, xk_LN g (o + 1) F ↔ F (xj (20 : Nat)) := fun F => ln_4 h.2.1 (by decide)
    have g0 : ∀ V, xk_GF g o 2 0 V ↔ V (.ref (o + 1)) := fun V => gh_0 h.1
    simp (disch := omega) only [b14_15, b14_16, b14_17, b14_20, b14_21, b14_43, List.getElem?_cons_zero, List.getElem?_cons_succ, List.length_cons, List.length_nil, List.set_cons_zero, List.set_cons_succ, true_and, and_true, Option.toList_some, Option.toList_none, List.cons_append, List.nil_append, ↓reduceIte, not_false_eq_true, not_true_eq_false, Nat.reduceAdd, xj0_01, xj1_01, xb_B, xb_True, xb_False, ↓ln, ↓g0, ↓xj_in, xj_nat, Int.toNat_natCast, xj_lt_t, xj_lt_f, xj_le_t, xj_le_f, xj_eq_t, xj_eq_f, xj_lt, xj_le, xj_eq, xj_add, xj_sub, xj_mul, show ¬ xj 1 = xj 0 from by decide]
    exact po
  | succ m ih =>
    intro j g hj fr h
    obtain ⟨h1, h2, h3⟩ := h
    have ln : ∀ F, xk_LN g (o + 1) F ↔ F (xj (20 : Nat)) := fun F => ln_4 h2 (by decide)
    have g0 : ∀ V, xk_GF g o 2 0 V ↔ V (.ref (o + 1)) := fun V => gh_0 h1
    have nf0 : xk_nf 0 = 8 := rfl
    rw [b14_15]
    simp (disch := omega) only [b14_16, b14_17, b14_20, b14_21, b14_24, b14_25, b14_28, b14_29, b14_32, List.getElem?_cons_zero, List.getElem?_cons_succ, List.length_cons, List.length_nil, List.set_cons_zero, List.set_cons_succ, true_and, and_true, Option.toList_some, Option.toList_none, List.cons_append, List.nil_append, ↓reduceIte, not_false_eq_true, not_true_eq_false, Nat.reduceAdd, xj0_01, xj1_01, xb_B, xb_True, xb_False, ↓ln, ↓g0, ↓xj_in, xj_nat, Int.toNat_natCast, xj_lt_t, xj_lt_f, xj_le_t, xj_le_f, xj_eq_t, xj_eq_f, xj_lt, xj_le, xj_eq, xj_add, xj_sub, xj_mul, show ¬ xj 1 = xj 0 from by decide]
    rw [b14_33, nf0]
    refine i_Day (by omega) (up_s _ _ _) (fun g2 e2 v2 => ?_)
    have a1 : g2 (o + 1) = .inl (6, 20, .inr (.inr (.inr (.inr (fun i => if i < j then some (o + 2 + 2 * i) else none))))) := by rw [e2 _ (by omega), up_ne (by omega)]; exact h2
    have aq : ∀ G, xk_ASQ g2 (o + 1) (o + 2 + 2 * j) (xj (j : Nat)) G ↔ G (va_up g2 (o + 1) (.inl (6, 20, .inr (.inr (.inr (.inr (fun i => if i < j + 1 then some (o + 2 + 2 * i) else none))))))) := fun G => by
      rw [as_q a1 v2.1 rfl (by omega) (by decide), up_row rfl rfl]
    have nx := ih (j + 1) (va_up g2 (o + 1) (.inl (6, 20, .inr (.inr (.inr (.inr (fun i => if i < j + 1 then some (o + 2 + 2 * i) else none))))))) (by omega) (fun x hx => by rw [up_ne (by omega), e2 x (by omega), up_ne (by omega), fr x hx]) ⟨by rw [up_ne (by omega), e2 o (by omega), up_ne (by omega)]; exact h1, up_s _ _ _, fun k hk => by
      by_cases ck : k = j
      · subst ck
        exact xv_Day_fr v2 (fun x q1 q2 => up_ne (by omega))
      · exact xv_Day_fr (h3 k (by omega)) (fun x q1 q2 => by rw [up_ne (by omega), e2 x (by omega), up_ne (by omega)])⟩
    have ew : (o + 2 + 2 * (j + 1), s + 14 * (j + 1), t) = ((o + 2 + 2 * j + 2, s + 14 * j + 8 + 6, t) : Nat × Nat × Nat) := by
      refine Prod.ext (by show _ = o + 2 + 2 * j + 2; omega) (Prod.ext (by show s + 14 * (j + 1) = s + 14 * j + 8 + 6; omega) rfl)
    rw [ew] at nx
    simp (disch := omega) only [b14_36, b14_37, b14_40, List.getElem?_cons_zero, List.getElem?_cons_succ, List.length_cons, List.length_nil, List.set_cons_zero, List.set_cons_succ, true_and, and_true, Option.toList_some, Option.toList_none, List.cons_append, List.nil_append, ↓reduceIte, not_false_eq_true, not_true_eq_false, Nat.reduceAdd, xj0_01, xj1_01, xb_B, xb_True, xb_False, ↓aq, ↓xj_in, xj_nat, Int.toNat_natCast, xj_lt_t, xj_lt_f, xj_le_t, xj_le_f, xj_eq_t, xj_eq_f, xj_lt, xj_le, xj_eq, xj_add, xj_sub, xj_mul, show ¬ xj 1 = xj 0 from by decide]
    exact nx
theorem i_Hist (hD : 3 ≤ D) (h0 : f o = .inr (2, xk_dv 2)) (hpost : ∀ g, (∀ x, x < o → g x = f x) → hiP g o 20 → K none (g, (o + 42, s + 300, t))) : xk_Cl D 14 [.ref o] (f, (o + 1, s, t)) K := by
  rw [e14 (by omega)]
  have h0 : f o = .inr (2, [.null, .int (xj 0), .int (xj 0)]) := h0
  simp (disch := omega) only [b14_0, b14_1, b14_4, b14_5, List.getElem?_cons_zero, List.getElem?_cons_succ, List.length_cons, List.length_nil, List.set_cons_zero, List.set_cons_succ, true_and, and_true, Option.toList_some, Option.toList_none, List.cons_append, List.nil_append, ↓reduceIte, not_false_eq_true, not_true_eq_false, Nat.reduceAdd, xj0_01, xj1_01, xb_B, xb_True, xb_False]
  rw [b14_7, ini_z (by decide) (by decide), true_and, show (xj 20).toNatClampNeg = 20 from by decide]
  have a0 : va_up f (o + 1) (.inl (6, 20, .inr (.inr (.inr (.inr (fun _ => none)))))) o = .inr (2, [.null, .int (xj 0), .int (xj 0)]) := by rw [up_ne (by omega)]; exact h0
  have pf : ∀ G, xk_PF (va_up f (o + 1) (.inl (6, 20, .inr (.inr (.inr (.inr (fun _ => none))))))) o 2 0 (.ref (o + 1)) G ↔ G (va_up (va_up f (o + 1) (.inl (6, 20, .inr (.inr (.inr (.inr (fun _ => none))))))) o (xh_c o 0 0)) := fun G => pf_R a0 (by show 0 < 3; decide)
  have lp := hi_loop (D := D) (K := K) (f := f) (o := o) (s := s + 20) (t := t) hD (fun g e h => hpost g e h) 20 0 (va_up (va_up f (o + 1) (.inl (6, 20, .inr (.inr (.inr (.inr (fun _ => none))))))) o (xh_c o 0 0)) (by omega) (fun x hx => by rw [up_ne (by omega), up_ne (by omega)]) ⟨up_s _ _ _, by rw [up_ne (by omega), up_s]; rfl, fun k hk => absurd hk (Nat.not_lt_zero k)⟩
  simp (disch := omega) only [b14_10, b14_13, b14_14, List.getElem?_cons_zero, List.getElem?_cons_succ, List.length_cons, List.length_nil, List.set_cons_zero, List.set_cons_succ, true_and, and_true, Option.toList_some, Option.toList_none, List.cons_append, List.nil_append, ↓reduceIte, not_false_eq_true, not_true_eq_false, Nat.reduceAdd, xj0_01, xj1_01, xb_B, xb_True, xb_False, ↓pf]
  exact lp
/-- the planner made so far -/
def plP (g : Nat → xk_C) (o j : Nat) : Prop := g o = .inr (6, xp_c o (0, 0, 0, fun _ => 0) 0 0 0) ∧ g (o + 1) = xa_I 6 (fun _ => 0) ∧ g (o + 2) = xa_I 6 (fun _ => 0) ∧ g (o + 3) = .inl (6, 7, .inr (.inr (.inr (.inr (fun i => if i < j then some (o + 4 + 2 * i) else none))))) ∧ ∀ k, k < j → xv_Day g (o + 4 + 2 * k) d00
theorem pl_loop (hD : 3 ≤ D) (hpost : ∀ g, (∀ x, x < o → g x = f x) → plP g o 7 → K none (g, (o + 18, s + 98, t))) : ∀ (m j : Nat) (g : Nat → xk_C), j + m = 7 → (∀ x, x < o → g x = f x) → plP g o j → xk_B (D - 1) 52 31 [.ref o, .int (xj (j : Nat))] [] (g, (o + 4 + 2 * j, s + 14 * j, t)) K := by
  intro m
  induction m with
  | zero =>
    intro j g hj fr h
    have hj : j = 7 := by omega
    subst hj
    have po := hpost g fr h
    have ln : ∀ F, xk_LN g (o + 3) F ↔ F (xj (7 : Nat)) := fun F => ln_4 h.2.2.2.1 (by decide)
    have g0 : ∀ V, xk_GF g o 6 7 V ↔ V (.ref (o + 3)) := fun V => gf_R h.1 rfl
    simp (disch := omega) only [b52_31, b52_32, b52_33, b52_36, b52_37, b52_59, List.getElem?_cons_zero, List.getElem?_cons_succ, List.length_cons, List.length_nil, List.set_cons_zero, List.set_cons_succ, true_and, and_true, Option.toList_some, Option.toList_none, List.cons_append, List.nil_append, ↓reduceIte, not_false_eq_true, not_true_eq_false, Nat.reduceAdd, xj0_01, xj1_01, xb_B, xb_True, xb_False, ↓ln, ↓g0, ↓xj_in, xj_nat, Int.toNat_natCast, xj_lt_t, xj_lt_f, xj_le_t, xj_le_f, xj_eq_t, xj_eq_f, xj_lt, xj_le, xj_eq, xj_add, xj_sub, xj_mul, show ¬ xj 1 = xj 0 from by decide]
    exact po
  | succ m ih =>
    intro j g hj fr h
    obtain ⟨h1, h2, h3, h4, h5⟩ := h
    have ln : ∀ F, xk_LN g (o + 3) F ↔ F (xj (7 : Nat)) := fun F => ln_4 h4 (by decide)
    have g0 : ∀ V, xk_GF g o 6 7 V ↔ V (.ref (o + 3)) := fun V => gf_R h1 rfl
    have nf0 : xk_nf 0 = 8 := rfl
    rw [b52_31]
    simp (disch := omega) only [b52_32, b52_33, b52_36, b52_37, b52_40, b52_41, b52_44, b52_45, b52_48, List.getElem?_cons_zero, List.getElem?_cons_succ, List.length_cons, List.length_nil, List.set_cons_zero, List.set_cons_succ, true_and, and_true, Option.toList_some, Option.toList_none, List.cons_append, List.nil_append, ↓reduceIte, not_false_eq_true, not_true_eq_false, Nat.reduceAdd, xj0_01, xj1_01, xb_B, xb_True, xb_False, ↓ln, ↓g0, ↓xj_in, xj_nat, Int.toNat_natCast, xj_lt_t, xj_lt_f, xj_le_t, xj_le_f, xj_eq_t, xj_eq_f, xj_lt, xj_le, xj_eq, xj_add, xj_sub, xj_mul, show ¬ xj 1 = xj 0 from by decide]
    rw [b52_49, nf0]
    refine i_Day (by omega) (up_s _ _ _) (fun g2 e2 v2 => ?_)
    have a1 : g2 (o + 3) = .inl (6, 7, .inr (.inr (.inr (.inr (fun i => if i < j then some (o + 4 + 2 * i) else none))))) := by rw [e2 _ (by omega), up_ne (by omega)]; exact h4
    have aq : ∀ G, xk_ASQ g2 (o + 3) (o + 4 + 2 * j) (xj (j : Nat)) G ↔ G (va_up g2 (o + 3) (.inl (6, 7, .inr (.inr (.inr (.inr (fun i => if i < j + 1 then some (o + 4 + 2 * i) else none))))))) := fun G => by
      rw [as_q a1 v2.1 rfl (by omega) (by decide), up_row rfl rfl]
    have lo : ∀ x, x < o + 3 → va_up g2 (o + 3) (.inl (6, 7, .inr (.inr (.inr (.inr (fun i => if i < j + 1 then some (o + 4 + 2 * i) else none)))))) x = g x := fun x hx => by rw [up_ne (by omega), e2 x (by omega), up_ne (by omega)]
    have nx := ih (j + 1) (va_up g2 (o + 3) (.inl (6, 7, .inr (.inr (.inr (.inr (fun i => if i < j + 1 then some (o + 4 + 2 * i) else none))))))) (by omega) (fun x hx => (lo x (by omega)).trans (fr x hx)) ⟨(lo o (by omega)).trans h1, (lo _ (by omega)).trans h2, (lo _ (by omega)).trans h3, up_s _ _ _, fun k hk => by
      by_cases ck : k = j
      · subst ck
        exact xv_Day_fr v2 (fun x q1 q2 => up_ne (by omega))
      · exact xv_Day_fr (h5 k (by omega)) (fun x q1 q2 => by rw [up_ne (by omega), e2 x (by omega), up_ne (by omega)])⟩
    have ew : (o + 4 + 2 * (j + 1), s + 14 * (j + 1), t) = ((o + 4 + 2 * j + 2, s + 14 * j + 8 + 6, t) : Nat × Nat × Nat) := by
      refine Prod.ext (by show _ = o + 4 + 2 * j + 2; omega) (Prod.ext (by show s + 14 * (j + 1) = s + 14 * j + 8 + 6; omega) rfl)
    rw [ew] at nx
    simp (disch := omega) only [b52_52, b52_53, b52_56, List.getElem?_cons_zero, List.getElem?_cons_succ, List.length_cons, List.length_nil, List.set_cons_zero, List.set_cons_succ, true_and, and_true, Option.toList_some, Option.toList_none, List.cons_append, List.nil_append, ↓reduceIte, not_false_eq_true, not_true_eq_false, Nat.reduceAdd, xj0_01, xj1_01, xb_B, xb_True, xb_False, ↓aq, ↓xj_in, xj_nat, Int.toNat_natCast, xj_lt_t, xj_lt_f, xj_le_t, xj_le_f, xj_eq_t, xj_eq_f, xj_lt, xj_le, xj_eq, xj_add, xj_sub, xj_mul, show ¬ xj 1 = xj 0 from by decide]
    exact nx
theorem dv_6 : xk_dv 6 = [.int (xj 0), .int (xj 0), .int (xj 0), .null, .int (xj 0), .int (xj 0), .null, .null, .int (xj 0)] := rfl
theorem i_Plan (hD : 3 ≤ D) (h0 : f o = .inr (6, xk_dv 6)) (hpost : ∀ g, (∀ x, x < o → g x = f x) → plP g o 7 → K none (g, (o + 18, s + 117, t))) : xk_Cl D 52 [.ref o] (f, (o + 1, s, t)) K := by
  rw [e52 (by omega)]
  rw [dv_6] at h0
  have lp := pl_loop (D := D) (K := K) (f := f) (o := o) (s := s + 19) (t := t) hD (fun g e h => hpost g e h) 7 0 (xs f o [.inr (6, xp_c o (0, 0, 0, fun _ => 0) 0 0 0), xa_I 6 (fun _ => 0), xa_I 6 (fun _ => 0), .inl (6, 7, .inr (.inr (.inr (.inr (fun _ => none)))))]) (by omega) (fun x hx => xs_ne (Or.inl hx)) ⟨xs_at0 _ _ _, xs_at f o _ 1, xs_at f o _ 2, xs_at f o _ 3, fun k hk => absurd hk (Nat.not_lt_zero k)⟩
  rw [← xs_one h0]
  simp (disch := first | omega | (simp only [List.length_cons, List.length_nil] <;> omega)) only [b52_0, b52_1, b52_4, b52_5, b52_7, b52_9, b52_12, b52_13, b52_15, b52_17, b52_20, b52_21, b52_23, b52_26, b52_29, b52_30, List.getElem?_cons_zero, List.getElem?_cons_succ, List.length_cons, List.length_nil, List.set_cons_zero, List.set_cons_succ, true_and, and_true, Option.toList_some, Option.toList_none, List.cons_append, List.nil_append, ↓reduceIte, not_false_eq_true, not_true_eq_false, Nat.reduceAdd, xj0_01, xj1_01, xb_B, xb_True, xb_False, ↓xs_pf, xs_push, ↓ini_z, z_0, xj_nat, Int.toNat_natCast, Int.reduceToNat, Nat.add_assoc]
  exact lp
end XS9e02
