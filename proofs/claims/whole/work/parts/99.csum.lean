/-! the class reads a sum, a comparison -/
def wtL (u : Nat) : List St := if u = 0 then [] else [(u, 0)]
def cSF (T : Nat → Int) (n : Nat) : Nat → Nat → Ps → Pr
  | 0, u, s => .inr (s.1, s.2.1, s.2.2 ++ wtL u)
  | f + 1, u, s => if opM T n s.1 = 0 then (if opS T n s.1 = 0 then .inr (s.1, s.2.1, s.2.2 ++ wtL u) else bdP (gVal T n (nxT T n s.1, s.2.1, s.2.2 ++ wtL u)) (fun s' => cSF T n f (opS T n s.1) s')) else bdP (gVal T n (nxT T n s.1, s.2)) (fun s' => cSF T n f u (s'.1, s'.2.1, s'.2.2 ++ [(opM T n s.1, 0)]))
theorem op_end {T : Nat → Int} {n p : Nat} (h : n ≤ p) : opM T n p = 0 ∧ opS T n p = 0 ∧ opC T n p = 0 := by
  have hk := kd_0 (T := T) h
  refine ⟨?_, ?_, ?_⟩
  · unfold opM; rw [hk]; rfl
  · unfold opS; rw [hk]; rfl
  · unfold opC; rw [hk]; rfl
theorem tmF_0 (T : Nat → Int) (n : Nat) (s : Ps) : tmF T n 0 s = .inr s := rfl
theorem tmF_s (T : Nat → Int) (n f : Nat) (s : Ps) : tmF T n (f + 1) s = if opM T n s.1 = 0 then .inr s else bdP (gVal T n (nxT T n s.1, s.2)) (fun s' => tmF T n f (s'.1, s'.2.1, s'.2.2 ++ [(opM T n s.1, 0)])) := rfl
theorem suF_0 (T : Nat → Int) (n : Nat) (s : Ps) : suF T n 0 s = .inr s := rfl
theorem suF_s (T : Nat → Int) (n f : Nat) (s : Ps) : suF T n (f + 1) s = if opS T n s.1 = 0 then .inr s else bdP (gTerm T n (nxT T n s.1, s.2)) (fun s' => suF T n f (s'.1, s'.2.1, s'.2.2 ++ [(opS T n s.1, 0)])) := rfl
theorem cSF_0 (T : Nat → Int) (n u : Nat) (s : Ps) : cSF T n 0 u s = .inr (s.1, s.2.1, s.2.2 ++ wtL u) := rfl
theorem cSF_s (T : Nat → Int) (n f u : Nat) (s : Ps) : cSF T n (f + 1) u s = if opM T n s.1 = 0 then (if opS T n s.1 = 0 then .inr (s.1, s.2.1, s.2.2 ++ wtL u) else bdP (gVal T n (nxT T n s.1, s.2.1, s.2.2 ++ wtL u)) (fun s' => cSF T n f (opS T n s.1) s')) else bdP (gVal T n (nxT T n s.1, s.2)) (fun s' => cSF T n f u (s'.1, s'.2.1, s'.2.2 ++ [(opM T n s.1, 0)])) := rfl
theorem tm401 (T : Nat → Int) (n : Nat) (s : Ps) : tmF T n 401 s = if opM T n s.1 = 0 then .inr s else bdP (gVal T n (nxT T n s.1, s.2)) (fun s' => tmF T n 400 (s'.1, s'.2.1, s'.2.2 ++ [(opM T n s.1, 0)])) := tmF_s T n 400 s
theorem su401 (T : Nat → Int) (n : Nat) (s : Ps) : suF T n 401 s = if opS T n s.1 = 0 then .inr s else bdP (gTerm T n (nxT T n s.1, s.2)) (fun s' => suF T n 400 (s'.1, s'.2.1, s'.2.2 ++ [(opS T n s.1, 0)])) := suF_s T n 400 s
theorem gTerm_e (T : Nat → Int) (n : Nat) (s : Ps) : gTerm T n s = bdP (gVal T n s) (tmF T n 401) := rfl
theorem gSum_e (T : Nat → Int) (n : Nat) (s : Ps) : gSum T n s = bdP (gTerm T n s) (suF T n 401) := rfl
theorem bdP_R (s : Ps) (k : Ps → Pr) : bdP (.inr s) k = k s := rfl
theorem bdP_L (e : Nat) (k : Ps → Pr) : bdP (.inl e) k = .inl e := rfl
theorem tm_fu {T : Nat → Int} {n : Nat} (hn : n ≤ 400) : ∀ f g (s : Ps), s.1 ≤ n → n ≤ s.1 + f → n ≤ s.1 + g → tmF T n f s = tmF T n g s := by
  intro f
  induction f with
  | zero =>
    intro g s h1 h2 h3
    cases g with
    | zero => rfl
    | succ g => rw [tmF_0, tmF_s, if_pos (op_end (by omega)).1]
  | succ f ih =>
    intro g s h1 h2 h3
    cases g with
    | zero => rw [tmF_0, tmF_s, if_pos (op_end (by omega)).1]
    | succ g =>
      rw [tmF_s, tmF_s]
      by_cases c : opM T n s.1 = 0
      · rw [if_pos c, if_pos c]
      · rw [if_neg c, if_neg c]
        have nx := nx_rng (T := T) hn (opM_kd c)
        cases hg : gVal T n (nxT T n s.1, s.2) with
        | inl e => rfl
        | inr s1 =>
          obtain ⟨g1, g2, g3, g4⟩ := gVal_rm hn hg
          have g1 : nxT T n s.1 < s1.1 := g1
          rw [bdP_R, bdP_R]
          exact ih g _ g2 (by show n ≤ s1.1 + f; omega) (by show n ≤ s1.1 + g; omega)
theorem su_fu {T : Nat → Int} {n : Nat} (hn : n ≤ 400) : ∀ f g (s : Ps), s.1 ≤ n → n ≤ s.1 + f → n ≤ s.1 + g → suF T n f s = suF T n g s := by
  intro f
  induction f with
  | zero =>
    intro g s h1 h2 h3
    cases g with
    | zero => rfl
    | succ g => rw [suF_0, suF_s, if_pos (op_end (by omega)).2.1]
  | succ f ih =>
    intro g s h1 h2 h3
    cases g with
    | zero => rw [suF_0, suF_s, if_pos (op_end (by omega)).2.1]
    | succ g =>
      rw [suF_s, suF_s]
      by_cases c : opS T n s.1 = 0
      · rw [if_pos c, if_pos c]
      · rw [if_neg c, if_neg c]
        have nx := nx_rng (T := T) hn (opS_kd c)
        cases hg : gTerm T n (nxT T n s.1, s.2) with
        | inl e => rfl
        | inr s1 =>
          obtain ⟨⟨g0, g2, g3, g4⟩, g1⟩ := gTerm_rm hn hg
          have g1 : nxT T n s.1 < s1.1 := g1
          rw [bdP_R, bdP_R]
          exact ih g _ g2 (by show n ≤ s1.1 + f; omega) (by show n ≤ s1.1 + g; omega)
theorem wtL_0 : wtL 0 = [] := rfl
theorem wtL_s {u : Nat} (h : u ≠ 0) : wtL u = [(u, 0)] := if_neg h
/-- what stands ahead of the steps stays: a mult's step does not care what waits -/
theorem bdP_a (r : Pr) (k k' : Ps → Pr) : bdP (bdP r k) k' = bdP r (fun s => bdP (k s) k') := by cases r <;> rfl
/-- the class's way through a sum is the grammar's -/
theorem cS_eq {T : Nat → Int} {n : Nat} (hn : n ≤ 400) : ∀ f u (s : Ps), s.1 ≤ n → n ≤ s.1 + f → cSF T n f u s = bdP (tmF T n 401 s) (fun s' => suF T n 401 (s'.1, s'.2.1, s'.2.2 ++ wtL u)) := by
  intro f
  induction f with
  | zero =>
    intro u s h1 h2
    have e := op_end (T := T) (n := n) (p := s.1) (by omega)
    rw [tm401, if_pos e.1, bdP_R, cSF_0, su401, if_pos e.2.1]
  | succ f ih =>
    intro u s h1 h2
    rw [cSF_s, tm401]
    by_cases c : opM T n s.1 = 0
    · rw [if_pos c, if_pos c, bdP_R, su401]
      by_cases c2 : opS T n s.1 = 0
      · rw [if_pos c2, if_pos c2]
      · rw [if_neg c2, if_neg c2, gTerm_e, bdP_a]
        have nx := nx_rng (T := T) hn (opS_kd c2)
        cases hg : gVal T n (nxT T n s.1, s.2.1, s.2.2 ++ wtL u) with
        | inl e => rw [bdP_L, bdP_L]
        | inr s1 =>
          obtain ⟨g1, g2, g3, g4⟩ := gVal_rm hn hg
          have g1 : nxT T n s.1 < s1.1 := g1
          rw [bdP_R, bdP_R, ih _ s1 g2 (by omega)]
          cases ht : tmF T n 401 s1 with
          | inl e => rw [bdP_L, bdP_L]
          | inr s2 =>
            have r := tm_rm hn 401 s1 s2 g3 ht
            rw [bdP_R, bdP_R, wtL_s c2]
            exact su_fu hn 401 400 _ r.2.1 (by show n ≤ s2.1 + 401; omega) (by show n ≤ s2.1 + 400; omega)
    · rw [if_neg c, if_neg c, bdP_a]
      have nx := nx_rng (T := T) hn (opM_kd c)
      cases hg : gVal T n (nxT T n s.1, s.2) with
      | inl e => rw [bdP_L, bdP_L]
      | inr s1 =>
        obtain ⟨g1, g2, g3, g4⟩ := gVal_rm hn hg
        have g1 : nxT T n s.1 < s1.1 := g1
        rw [bdP_R, bdP_R, ih u (s1.1, s1.2.1, s1.2.2 ++ [(opM T n s.1, 0)]) g2 (by show n ≤ s1.1 + f; omega), tm_fu hn 400 401 (s1.1, s1.2.1, s1.2.2 ++ [(opM T n s.1, 0)]) g2 (by show n ≤ s1.1 + 400; omega) (by show n ≤ s1.1 + 401; omega)]
theorem gSum_c {T : Nat → Int} {n : Nat} (hn : n ≤ 400) (s : Ps) {g : Nat} (hg : ∀ s1, gVal T n s = .inr s1 → n ≤ s1.1 + g) : gSum T n s = bdP (gVal T n s) (cSF T n g 0) := by
  rw [gSum_e, gTerm_e, bdP_a]
  cases hv : gVal T n s with
  | inl e => rw [bdP_L, bdP_L]
  | inr s1 =>
    obtain ⟨g1, g2, g3, g4⟩ := gVal_rm hn hv
    rw [bdP_R, bdP_R, cS_eq hn g 0 s1 g2 (hg s1 hv)]
    cases tmF T n 401 s1 with
    | inl e => rw [bdP_L, bdP_L]
    | inr s2 => rw [bdP_R, bdP_R, wtL_0, List.append_nil]
def wtI (u : Nat) : Int := if u = 0 then -1 else (u : Nat)
theorem opM_le (T : Nat → Int) (n p : Nat) : opM T n p ≤ 6 ∧ (opM T n p ≠ 0 → 4 ≤ opM T n p) := by
  unfold opM
  repeat' split
  all_goals omega
theorem opS_le (T : Nat → Int) (n p : Nat) : opS T n p ≤ 3 ∧ (opS T n p ≠ 0 → 2 ≤ opS T n p) := by
  unfold opS
  repeat' split
  all_goals omega
section XS99
variable {D a b k p q n r t c v fa : Nat} {f g : Nat → xk_C} {w : Nat × Nat × Nat} {K : Option Value → xk_S → Prop} {x y z : Int} {T : Nat → Int} {V : Value → Prop} {F : Int32 → Prop} {s : Ps} {cs : List St}
/-- the end of a sum: what waits is laid -/
theorem c_sumEnd {G : Ps → Pr} {s0 : Ps} {fa0 u : Nat} {l3 l4 l5 : Value} {f0 : Nat → xk_C} (hD : 3 ≤ D) (hta : t + 4 ≤ a) (h : xRd f a t T n s fa) (fr : frRd a t f0 f) (hu : u = 0 ∨ u = 2 ∨ u = 3) (hl : fa = 0 → s.2.2.length + (if u = 0 then 0 else 1) ≤ 400) (hG : ∀ s', (fa = 0 → s' = (s.1, s.2.1, s.2.2 ++ wtL u)) → rdR G s0 fa0 s' fa) (hpost : rdK G T n a t f0 s0 fa0 w K) : xk_B (D - 1) 75 119 [.ref a, .ref t, .int (xj (wtI u)), l3, l4, l5] [] (f, w) K := by
  by_cases c : u = 0
  · subst c
    have po := hpost f s fa fr h (hG s (fun _ => by rw [wtL_0, List.append_nil]))
    have e : wtI 0 = -1 := rfl
    rw [e]
    simp (disch := omega) only [b75_119, b75_120, b75_121, b75_124, b75_125, b75_128, b75_129, b75_130, b75_133, List.getElem?_cons_zero, List.getElem?_cons_succ, List.length_cons, List.length_nil, List.set_cons_zero, List.set_cons_succ, true_and, and_true, Option.toList_some, Option.toList_none, List.cons_append, List.nil_append, ↓reduceIte, not_false_eq_true, not_true_eq_false, Nat.reduceAdd, xj0_01, xj1_01, xb_B, xb_True, xb_False, ↓xj_in, xj_nat, Int.toNat_natCast, xj_lt_t, xj_lt_f, xj_le_t, xj_le_f, xj_eq_t, xj_eq_f, xj_lt, xj_le, xj_eq, xj_add, xj_sub, xj_mul, show ¬ xj 1 = xj 0 from by decide]
    exact po
  · have e : wtI u = (u : Nat) := if_neg c
    rw [if_neg c] at hl
    rw [e]
    simp (disch := omega) only [b75_119, b75_120, b75_121, b75_124, b75_125, b75_128, b75_129, List.getElem?_cons_zero, List.getElem?_cons_succ, List.length_cons, List.length_nil, List.set_cons_zero, List.set_cons_succ, true_and, and_true, Option.toList_some, Option.toList_none, List.cons_append, List.nil_append, ↓reduceIte, not_false_eq_true, not_true_eq_false, Nat.reduceAdd, xj0_01, xj1_01, xb_B, xb_True, xb_False, ↓xj_in, xj_nat, Int.toNat_natCast, xj_lt_t, xj_lt_f, xj_le_t, xj_le_f, xj_eq_t, xj_eq_f, xj_lt, xj_le, xj_eq, xj_add, xj_sub, xj_mul, show ¬ xj 1 = xj 0 from by decide, ↓grd_0 h]
    rw [b75_130, rc_L h.2.2.2, true_and]
    refine u_addR (v := 0) (by omega) hta h (fun f2 g2 h2 => ?_)
    have po := hpost f2 _ fa (frRd_t fr g2) h2 (hG _ (fun h0 => by
      have hl := hl h0
      rw [addC_y (by omega), wtL_s c]))
    simp (disch := omega) only [b75_133, List.getElem?_cons_zero, List.getElem?_cons_succ, List.length_cons, List.length_nil, List.set_cons_zero, List.set_cons_succ, true_and, and_true, Option.toList_some, Option.toList_none, List.cons_append, List.nil_append, ↓reduceIte, not_false_eq_true, not_true_eq_false, Nat.reduceAdd, xj0_01, xj1_01, xb_B, xb_True, xb_False]
    exact po
/-- the loop's head behind a fault -/
theorem c_sumF {G : Ps → Pr} {s0 : Ps} {fa0 u : Nat} {l2 l4 l5 : Value} {f0 : Nat → xk_C} (hD : 3 ≤ D) (hta : t + 4 ≤ a) (hu : u = 0 ∨ u = 2 ∨ u = 3) (hl2 : l2 = .int (xj (wtI u))) (hk : k ≤ 401) (h : xRd f a t T n s fa) (fr : frRd a t f0 f) (h0 : fa ≠ 0) (hb : ∀ s', rdR G s0 fa0 s' fa) (hpost : rdK G T n a t f0 s0 fa0 w K) : xk_B (D - 1) 75 9 [.ref a, .ref t, l2, .int (xj (k : Nat)), l4, l5] [] (f, w) K := by
  obtain ⟨ha, hT, hfa⟩ := rd_rng h
  subst hl2
  have hend : xk_B (D - 1) 75 119 [.ref a, .ref t, .int (xj (wtI u)), .int (xj (k : Nat)), l4, l5] [] (f, w) K := c_sumEnd (by omega) hta h fr hu (fun q => absurd q h0) (fun s' _ => hb s') hpost
  by_cases c4 : k < 400
  · simp (disch := omega) only [b75_9, b75_10, b75_13, b75_16, b75_17, b75_20, List.getElem?_cons_zero, List.getElem?_cons_succ, List.length_cons, List.length_nil, List.set_cons_zero, List.set_cons_succ, true_and, and_true, Option.toList_some, Option.toList_none, List.cons_append, List.nil_append, ↓reduceIte, not_false_eq_true, not_true_eq_false, Nat.reduceAdd, xj0_01, xj1_01, xb_B, xb_True, xb_False, ↓xT_fa h.1, ↓xj_in, xj_nat, Int.toNat_natCast, xj_lt_t, xj_lt_f, xj_le_t, xj_le_f, xj_eq_t, xj_eq_f, xj_lt, xj_le, xj_eq, xj_add, xj_sub, xj_mul, show ¬ xj 1 = xj 0 from by decide]
    exact hend
  · simp (disch := omega) only [b75_9, b75_10, b75_13, List.getElem?_cons_zero, List.getElem?_cons_succ, List.length_cons, List.length_nil, List.set_cons_zero, List.set_cons_succ, true_and, and_true, Option.toList_some, Option.toList_none, List.cons_append, List.nil_append, ↓reduceIte, not_false_eq_true, not_true_eq_false, Nat.reduceAdd, xj0_01, xj1_01, xb_B, xb_True, xb_False, ↓xj_in, xj_nat, Int.toNat_natCast, xj_lt_t, xj_lt_f, xj_le_t, xj_le_f, xj_eq_t, xj_eq_f, xj_lt, xj_le, xj_eq, xj_add, xj_sub, xj_mul, show ¬ xj 1 = xj 0 from by decide]
    exact hend
theorem c_sumL {G : Ps → Pr} {s0 : Ps} {fa0 : Nat} {f0 : Nat → xk_C} (hD : 4 ≤ D) (hta : t + 4 ≤ a) (hpost : rdK G T n a t f0 s0 fa0 w K) : ∀ (m k u : Nat) (s : Ps) (fa : Nat) (f : Nat → xk_C) (l4 l5 : Value), n ≤ s.1 + m → k ≤ s.1 → k ≤ 400 → (u = 0 ∨ u = 2 ∨ u = 3) → xRd f a t T n s fa → frRd a t f0 f → (fa = 0 → fa0 = 0 ∧ s.2.2.length + (if u = 0 then 0 else 1) ≤ s.1 ∧ G s0 = cSF T n m u s) → (fa ≠ 0 → ∀ s', rdR G s0 fa0 s' fa) → xk_B (D - 1) 75 9 [.ref a, .ref t, .int (xj (wtI u)), .int (xj (k : Nat)), l4, l5] [] (f, w) K := by
  intro m
  induction m with
  | zero =>
    intro k u s fa f l4 l5 h1 h2 h3 hu h fr hg hb
    obtain ⟨ha, hT, hfa⟩ := rd_rng h
    have hn := hT.1
    have hend : xk_B (D - 1) 75 119 [.ref a, .ref t, .int (xj (wtI u)), .int (xj (k : Nat)), l4, l5] [] (f, w) K := c_sumEnd (by omega) hta h fr hu (fun h0 => by have := hg h0; have := ha.1; omega) (fun s' hs => by
      by_cases h0 : fa = 0
      · obtain ⟨q1, q2, q3⟩ := hg h0
        exact ⟨fun _ => Or.inl ⟨h0, by rw [q3, hs h0, cSF_0]⟩, fun q => absurd q1 q⟩
      · exact hb h0 s') hpost
    have op := op_end (T := T) (n := n) (p := s.1) (by omega)
    by_cases c4 : k < 400
    · by_cases h0 : fa = 0
      · have hend2 : ∀ l, xk_B (D - 1) 75 119 [.ref a, .ref t, .int (xj (wtI u)), .int (xj (k : Nat)), l, l5] [] (f, w) K := fun l => c_sumEnd (by omega) hta h fr hu (fun h0 => by have := hg h0; have := ha.1; omega) (fun s' hs => by
          obtain ⟨q1, q2, q3⟩ := hg h0
          exact ⟨fun _ => Or.inl ⟨h0, by rw [q3, hs h0, cSF_0]⟩, fun q => absurd q1 q⟩) hpost
        have e : (if opM T n s.1 = 0 then (if opS T n s.1 = 0 then (-1 : Int) else (opS T n s.1 : Nat)) else (opM T n s.1 : Nat)) = -1 := by rw [if_pos op.1, if_pos op.2.1]
        simp (disch := omega) only [b75_9, b75_10, b75_13, b75_16, b75_17, b75_20, b75_23, b75_24, b75_25, b75_28, b75_30, b75_32, b75_33, b75_36, List.getElem?_cons_zero, List.getElem?_cons_succ, List.length_cons, List.length_nil, List.set_cons_zero, List.set_cons_succ, true_and, and_true, Option.toList_some, Option.toList_none, List.cons_append, List.nil_append, ↓reduceIte, not_false_eq_true, not_true_eq_false, Nat.reduceAdd, xj0_01, xj1_01, xb_B, xb_True, xb_False, ↓xT_fa h.1, rc_Rd h, s_opNext _ h.1, e, ↓xj_in, xj_nat, Int.toNat_natCast, xj_lt_t, xj_lt_f, xj_le_t, xj_le_f, xj_eq_t, xj_eq_f, xj_lt, xj_le, xj_eq, xj_add, xj_sub, xj_mul, show ¬ xj 1 = xj 0 from by decide]
        exact hend2 _
      · simp (disch := omega) only [b75_9, b75_10, b75_13, b75_16, b75_17, b75_20, List.getElem?_cons_zero, List.getElem?_cons_succ, List.length_cons, List.length_nil, List.set_cons_zero, List.set_cons_succ, true_and, and_true, Option.toList_some, Option.toList_none, List.cons_append, List.nil_append, ↓reduceIte, not_false_eq_true, not_true_eq_false, Nat.reduceAdd, xj0_01, xj1_01, xb_B, xb_True, xb_False, ↓xT_fa h.1, ↓xj_in, xj_nat, Int.toNat_natCast, xj_lt_t, xj_lt_f, xj_le_t, xj_le_f, xj_eq_t, xj_eq_f, xj_lt, xj_le, xj_eq, xj_add, xj_sub, xj_mul, show ¬ xj 1 = xj 0 from by decide]
        exact hend
    · simp (disch := omega) only [b75_9, b75_10, b75_13, List.getElem?_cons_zero, List.getElem?_cons_succ, List.length_cons, List.length_nil, List.set_cons_zero, List.set_cons_succ, true_and, and_true, Option.toList_some, Option.toList_none, List.cons_append, List.nil_append, ↓reduceIte, not_false_eq_true, not_true_eq_false, Nat.reduceAdd, xj0_01, xj1_01, xb_B, xb_True, xb_False, ↓xj_in, xj_nat, Int.toNat_natCast, xj_lt_t, xj_lt_f, xj_le_t, xj_le_f, xj_eq_t, xj_eq_f, xj_lt, xj_le, xj_eq, xj_add, xj_sub, xj_mul, show ¬ xj 1 = xj 0 from by decide]
      exact hend
  | succ m ih =>
    intro k u s fa f l4 l5 h1 h2 h3 hu h fr hg hb
    obtain ⟨ha, hT, hfa⟩ := rd_rng h
    have hn := hT.1
    by_cases c4 : k < 400
    · by_cases h0 : fa = 0
      · obtain ⟨q1, q2, q3⟩ := hg h0
        rw [cSF_s] at q3
        have om := opM_le T n s.1
        have os := opS_le T n s.1
        have hsm : s.2.2.length ≤ s.1 := by omega
        by_cases cm : opM T n s.1 = 0
        · rw [if_pos cm] at q3
          by_cases cs0 : opS T n s.1 = 0
          · rw [if_pos cs0] at q3
            have e : (if opM T n s.1 = 0 then (if opS T n s.1 = 0 then (-1 : Int) else (opS T n s.1 : Nat)) else (opM T n s.1 : Nat)) = -1 := by rw [if_pos cm, if_pos cs0]
            have hend2 : ∀ l, xk_B (D - 1) 75 119 [.ref a, .ref t, .int (xj (wtI u)), .int (xj (k : Nat)), l, l5] [] (f, w) K := fun l => c_sumEnd (by omega) hta h fr hu (fun _ => by have := ha.1; omega) (fun s' hs => ⟨fun _ => Or.inl ⟨h0, by rw [q3, hs h0]⟩, fun q => absurd q1 q⟩) hpost
            simp (disch := omega) only [b75_9, b75_10, b75_13, b75_16, b75_17, b75_20, b75_23, b75_24, b75_25, b75_28, b75_30, b75_32, b75_33, b75_36, List.getElem?_cons_zero, List.getElem?_cons_succ, List.length_cons, List.length_nil, List.set_cons_zero, List.set_cons_succ, true_and, and_true, Option.toList_some, Option.toList_none, List.cons_append, List.nil_append, ↓reduceIte, not_false_eq_true, not_true_eq_false, Nat.reduceAdd, xj0_01, xj1_01, xb_B, xb_True, xb_False, ↓xT_fa h.1, rc_Rd h, s_opNext _ h.1, e, ↓xj_in, xj_nat, Int.toNat_natCast, xj_lt_t, xj_lt_f, xj_le_t, xj_le_f, xj_eq_t, xj_eq_f, xj_lt, xj_le, xj_eq, xj_add, xj_sub, xj_mul, show ¬ xj 1 = xj 0 from by decide]
            exact hend2 _
          · rw [if_neg cs0] at q3
            -- a plus or minus
            have e : (if opM T n s.1 = 0 then (if opS T n s.1 = 0 then (-1 : Int) else (opS T n s.1 : Nat)) else (opM T n s.1 : Nat)) = (opS T n s.1 : Nat) := by rw [if_pos cm, if_neg cs0]
            have hsn := opS_kd cs0
            have nx := nx_rng (T := T) hn hsn
            have go : ∀ (f1 : Nat → xk_C) (l4 l5 : Value), l4 = .int (xj (opS T n s.1 : Nat)) → l5 = .int (xj 1) → frRd a t f0 f1 → xRd f1 a t T n (s.1, s.2.1, s.2.2 ++ wtL u) fa → xk_B (D - 1) 75 77 [.ref a, .ref t, .int (xj (wtI u)), .int (xj (k : Nat)), l4, l5] [] (f1, w) K := by
              intro f1 l4 l5 e4 e5 fr1 hr1
              subst e4 e5
              have hl2 : (s.2.2 ++ wtL u).length ≤ s.1 := by
                rw [List.length_append]
                unfold wtL
                by_cases cu : u = 0
                · rw [if_pos cu]; show _ + 0 ≤ _; omega
                · rw [if_neg cu] at q2 ⊢; show _ + 1 ≤ _; omega
              simp (disch := omega) only [b75_77, b75_79, b75_82, b75_84, b75_87, b75_88, b75_89, List.getElem?_cons_zero, List.getElem?_cons_succ, List.length_cons, List.length_nil, List.set_cons_zero, List.set_cons_succ, true_and, and_true, Option.toList_some, Option.toList_none, List.cons_append, List.nil_append, ↓reduceIte, not_false_eq_true, not_true_eq_false, Nat.reduceAdd, xj0_01, xj1_01, xb_B, xb_True, xb_False, ↓xj_in, xj_nat, Int.toNat_natCast, xj_lt_t, xj_lt_f, xj_le_t, xj_le_f, xj_eq_t, xj_eq_f, xj_lt, xj_le, xj_eq, xj_add, xj_sub, xj_mul, show ¬ xj 1 = xj 0 from by decide]
              rw [b75_90, rc_T hr1.1, true_and]
              refine u_stepR (by omega) hta hr1 hsn (fun f2 g2 h2 => ?_)
              simp (disch := omega) only [b75_93, b75_94, List.getElem?_cons_zero, List.getElem?_cons_succ, List.length_cons, List.length_nil, List.set_cons_zero, List.set_cons_succ, true_and, and_true, Option.toList_some, Option.toList_none, List.cons_append, List.nil_append, ↓reduceIte, not_false_eq_true, not_true_eq_false, Nat.reduceAdd, xj0_01, xj1_01, xb_B, xb_True, xb_False]
              rw [b75_95, rc_Rd h2, true_and]
              refine c_value (by omega) hta h2 (fun _ => by show (s.2.2 ++ wtL u).length < nxT T n s.1; omega) (fun f3 s3 fa3 g3 h3 r3 => ?_)
              have po := ih (k + 1) (opS T n s.1) s3 fa3 f3 (.int (xj (opS T n s.1 : Nat))) (.int (xj 1))
              have fr3 := frRd_t fr1 (frRd_t g2 g3)
              have ew : wtI (opS T n s.1) = (opS T n s.1 : Nat) := if_neg cs0
              rw [ew] at po
              have key : xk_B (D - 1) 75 9 [.ref a, .ref t, .int (xj (opS T n s.1 : Nat)), .int (xj (k + 1 : Nat)), .int (xj (opS T n s.1 : Nat)), .int (xj 1)] [] (f3, w) K := by
                rcases r3.1 h0 with ⟨h30, hg3⟩ | ⟨h30, hg3⟩
                · obtain ⟨w1, w2, w3, w4⟩ := gVal_rm hn hg3
                  have w1 : nxT T n s.1 < s3.1 := w1
                  have w4 : s3.2.2.length + nxT T n s.1 ≤ (s.2.2 ++ wtL u).length + s3.1 := w4
                  rw [hg3] at q3
                  exact po (by omega) (by omega) (by omega) (by omega) h3 fr3 (fun _ => ⟨q1, by rw [if_neg cs0]; omega, q3⟩) (fun q => absurd h30 q)
                · rw [hg3] at q3
                  have hbd : ∀ s', rdR G s0 fa0 s' fa3 := fun s' => ⟨fun _ => Or.inr ⟨h30, q3⟩, fun q => absurd q1 q⟩
                  exact c_sumF (u := opS T n s.1) (by omega) hta (by omega) (by rw [ew]) (by omega) h3 fr3 h30 hbd hpost
              simp (disch := omega) only [b75_98, b75_100, b75_103, b75_104, b75_107, b75_109, b75_110, b75_113, b75_116, List.getElem?_cons_zero, List.getElem?_cons_succ, List.length_cons, List.length_nil, List.set_cons_zero, List.set_cons_succ, true_and, and_true, Option.toList_some, Option.toList_none, List.cons_append, List.nil_append, ↓reduceIte, not_false_eq_true, not_true_eq_false, Nat.reduceAdd, xj0_01, xj1_01, xb_B, xb_True, xb_False, ↓xj_in, xj_nat, Int.toNat_natCast, xj_lt_t, xj_lt_f, xj_le_t, xj_le_f, xj_eq_t, xj_eq_f, xj_lt, xj_le, xj_eq, xj_add, xj_sub, xj_mul, show ¬ xj 1 = xj 0 from by decide]
              exact key
            by_cases cu : u = 0
            · subst cu
              have g1 := go f _ _ rfl rfl fr (by rw [wtL_0, List.append_nil]; exact h)
              have e1 : wtI 0 = -1 := rfl
              rw [e1] at g1 ⊢
              rcases (show opS T n s.1 = 2 ∨ opS T n s.1 = 3 by omega) with o | o
              · have e2 := e.trans (show ((opS T n s.1 : Nat) : Int) = 2 by rw [o]; rfl)
                rw [o] at g1
                simp (disch := omega) only [b75_9, b75_10, b75_13, b75_16, b75_17, b75_20, b75_23, b75_24, b75_25, b75_28, b75_30, b75_32, b75_33, b75_36, b75_39, b75_41, b75_42, b75_45, b75_47, b75_48, b75_51, b75_52, b75_55, b75_56, b75_58, b75_60, b75_63, b75_64, b75_65, List.getElem?_cons_zero, List.getElem?_cons_succ, List.length_cons, List.length_nil, List.set_cons_zero, List.set_cons_succ, true_and, and_true, Option.toList_some, Option.toList_none, List.cons_append, List.nil_append, ↓reduceIte, not_false_eq_true, not_true_eq_false, Nat.reduceAdd, xj0_01, xj1_01, xb_B, xb_True, xb_False, ↓xT_fa h.1, rc_Rd h, s_opNext _ h.1, e2, ↓xj_in, xj_nat, Int.toNat_natCast, xj_lt_t, xj_lt_f, xj_le_t, xj_le_f, xj_eq_t, xj_eq_f, xj_lt, xj_le, xj_eq, xj_add, xj_sub, xj_mul, show ¬ xj 1 = xj 0 from by decide]
                exact g1
              · have e2 := e.trans (show ((opS T n s.1 : Nat) : Int) = 3 by rw [o]; rfl)
                rw [o] at g1
                simp (disch := omega) only [b75_9, b75_10, b75_13, b75_16, b75_17, b75_20, b75_23, b75_24, b75_25, b75_28, b75_30, b75_32, b75_33, b75_36, b75_39, b75_41, b75_42, b75_45, b75_47, b75_48, b75_51, b75_52, b75_55, b75_56, b75_58, b75_60, b75_63, b75_64, b75_65, List.getElem?_cons_zero, List.getElem?_cons_succ, List.length_cons, List.length_nil, List.set_cons_zero, List.set_cons_succ, true_and, and_true, Option.toList_some, Option.toList_none, List.cons_append, List.nil_append, ↓reduceIte, not_false_eq_true, not_true_eq_false, Nat.reduceAdd, xj0_01, xj1_01, xb_B, xb_True, xb_False, ↓xT_fa h.1, rc_Rd h, s_opNext _ h.1, e2, ↓xj_in, xj_nat, Int.toNat_natCast, xj_lt_t, xj_lt_f, xj_le_t, xj_le_f, xj_eq_t, xj_eq_f, xj_lt, xj_le, xj_eq, xj_add, xj_sub, xj_mul, show ¬ xj 1 = xj 0 from by decide]
                exact g1
            · have e1 : wtI u = (u : Nat) := if_neg cu
              have lay : xk_Cl (D - 1) 62 [.ref (a + 1), .int (xj (u : Nat)), .int (xj 0)] (f, w) (fun v σ => xk_B (D - 1) 75 77 [.ref a, .ref t, .int (xj (u : Nat)), .int (xj (k : Nat)), .int (xj (opS T n s.1 : Nat)), .int (xj 1)] (v.toList ++ []) σ K) := by
                refine u_addR (v := 0) (by omega) hta h (fun f2 g2 h2 => ?_)
                rw [if_neg cu] at q2
                have g1 := go f2 _ _ rfl rfl (frRd_t fr g2) (by
                  have e : addC s.2.2 (u, 0) = s.2.2 ++ wtL u := by rw [addC_y (by have := ha.1; omega), wtL_s cu]
                  rw [← e]; exact h2)
                rw [e1] at g1
                simp only [List.getElem?_cons_zero, List.getElem?_cons_succ, List.length_cons, List.length_nil, List.set_cons_zero, List.set_cons_succ, true_and, and_true, Option.toList_some, Option.toList_none, List.cons_append, List.nil_append, ↓reduceIte, not_false_eq_true, not_true_eq_false, Nat.reduceAdd, xj0_01, xj1_01, xb_B, xb_True, xb_False]
                exact g1
              rw [e1]
              rcases (show opS T n s.1 = 2 ∨ opS T n s.1 = 3 by omega) with o | o
              · have e2 := e.trans (show ((opS T n s.1 : Nat) : Int) = 2 by rw [o]; rfl)
                rw [o] at lay
                simp (disch := omega) only [b75_9, b75_10, b75_13, b75_16, b75_17, b75_20, b75_23, b75_24, b75_25, b75_28, b75_30, b75_32, b75_33, b75_36, b75_39, b75_41, b75_42, b75_45, b75_47, b75_48, b75_51, b75_52, b75_55, b75_56, b75_58, b75_60, b75_63, b75_64, b75_65, b75_68, b75_69, b75_72, b75_73, List.getElem?_cons_zero, List.getElem?_cons_succ, List.length_cons, List.length_nil, List.set_cons_zero, List.set_cons_succ, true_and, and_true, Option.toList_some, Option.toList_none, List.cons_append, List.nil_append, ↓reduceIte, not_false_eq_true, not_true_eq_false, Nat.reduceAdd, xj0_01, xj1_01, xb_B, xb_True, xb_False, ↓xT_fa h.1, rc_Rd h, s_opNext _ h.1, e2, ↓xj_in, xj_nat, Int.toNat_natCast, xj_lt_t, xj_lt_f, xj_le_t, xj_le_f, xj_eq_t, xj_eq_f, xj_lt, xj_le, xj_eq, xj_add, xj_sub, xj_mul, show ¬ xj 1 = xj 0 from by decide, ↓grd_0 h]
                rw [b75_74, rc_L h.2.2.2, true_and]
                exact lay
              · have e2 := e.trans (show ((opS T n s.1 : Nat) : Int) = 3 by rw [o]; rfl)
                rw [o] at lay
                simp (disch := omega) only [b75_9, b75_10, b75_13, b75_16, b75_17, b75_20, b75_23, b75_24, b75_25, b75_28, b75_30, b75_32, b75_33, b75_36, b75_39, b75_41, b75_42, b75_45, b75_47, b75_48, b75_51, b75_52, b75_55, b75_56, b75_58, b75_60, b75_63, b75_64, b75_65, b75_68, b75_69, b75_72, b75_73, List.getElem?_cons_zero, List.getElem?_cons_succ, List.length_cons, List.length_nil, List.set_cons_zero, List.set_cons_succ, true_and, and_true, Option.toList_some, Option.toList_none, List.cons_append, List.nil_append, ↓reduceIte, not_false_eq_true, not_true_eq_false, Nat.reduceAdd, xj0_01, xj1_01, xb_B, xb_True, xb_False, ↓xT_fa h.1, rc_Rd h, s_opNext _ h.1, e2, ↓xj_in, xj_nat, Int.toNat_natCast, xj_lt_t, xj_lt_f, xj_le_t, xj_le_f, xj_eq_t, xj_eq_f, xj_lt, xj_le, xj_eq, xj_add, xj_sub, xj_mul, show ¬ xj 1 = xj 0 from by decide, ↓grd_0 h]
                rw [b75_74, rc_L h.2.2.2, true_and]
                exact lay
        · rw [if_neg cm] at q3
          -- a times, over or rest
          have e : (if opM T n s.1 = 0 then (if opS T n s.1 = 0 then (-1 : Int) else (opS T n s.1 : Nat)) else (opM T n s.1 : Nat)) = (opM T n s.1 : Nat) := if_neg cm
          have hsn := opM_kd cm
          have nx := nx_rng (T := T) hn hsn
          have o4 := om.2 cm
          simp (disch := omega) only [b75_9, b75_10, b75_13, b75_16, b75_17, b75_20, b75_23, b75_24, b75_25, b75_28, b75_30, b75_32, b75_33, b75_36, b75_39, b75_41, b75_42, b75_45, b75_47, b75_48, b75_51, b75_52, b75_55, b75_56, b75_58, b75_60, b75_63, b75_64, b75_65, b75_68, b75_69, b75_72, b75_73, b75_74, b75_77, b75_79, b75_82, b75_84, b75_87, b75_88, b75_89, List.getElem?_cons_zero, List.getElem?_cons_succ, List.length_cons, List.length_nil, List.set_cons_zero, List.set_cons_succ, true_and, and_true, Option.toList_some, Option.toList_none, List.cons_append, List.nil_append, ↓reduceIte, not_false_eq_true, not_true_eq_false, Nat.reduceAdd, xj0_01, xj1_01, xb_B, xb_True, xb_False, ↓xT_fa h.1, rc_Rd h, s_opNext _ h.1, e, ↓xj_in, xj_nat, Int.toNat_natCast, xj_lt_t, xj_lt_f, xj_le_t, xj_le_f, xj_eq_t, xj_eq_f, xj_lt, xj_le, xj_eq, xj_add, xj_sub, xj_mul, show ¬ xj 1 = xj 0 from by decide]
          rw [b75_90, rc_T h.1, true_and]
          refine u_stepR (by omega) hta h hsn (fun f2 g2 h2 => ?_)
          simp (disch := omega) only [b75_93, b75_94, List.getElem?_cons_zero, List.getElem?_cons_succ, List.length_cons, List.length_nil, List.set_cons_zero, List.set_cons_succ, true_and, and_true, Option.toList_some, Option.toList_none, List.cons_append, List.nil_append, ↓reduceIte, not_false_eq_true, not_true_eq_false, Nat.reduceAdd, xj0_01, xj1_01, xb_B, xb_True, xb_False]
          rw [b75_95, rc_Rd h2, true_and]
          refine c_value (by omega) hta h2 (fun _ => by show s.2.2.length < nxT T n s.1; omega) (fun f3 s3 fa3 g3 h3 r3 => ?_)
          simp (disch := omega) only [b75_98, b75_100, b75_103, b75_104, b75_107, b75_109, List.getElem?_cons_zero, List.getElem?_cons_succ, List.length_cons, List.length_nil, List.set_cons_zero, List.set_cons_succ, true_and, and_true, Option.toList_some, Option.toList_none, List.cons_append, List.nil_append, ↓reduceIte, not_false_eq_true, not_true_eq_false, Nat.reduceAdd, xj0_01, xj1_01, xb_B, xb_True, xb_False, ↓xj_in, xj_nat, Int.toNat_natCast, xj_lt_t, xj_lt_f, xj_le_t, xj_le_f, xj_eq_t, xj_eq_f, xj_lt, xj_le, xj_eq, xj_add, xj_sub, xj_mul, show ¬ xj 1 = xj 0 from by decide, ↓grd_0 h3]
          rw [b75_110, rc_L h3.2.2.2, true_and]
          refine u_addR (v := 0) (by omega) hta h3 (fun f4 g4 h4 => ?_)
          have fr4 := frRd_t fr (frRd_t g2 (frRd_t g3 g4))
          have key : xk_B (D - 1) 75 9 [.ref a, .ref t, .int (xj (wtI u)), .int (xj (k + 1 : Nat)), .int (xj (opM T n s.1 : Nat)), .int (xj 0)] [] (f4, w) K := by
            rcases r3.1 h0 with ⟨h30, hg3⟩ | ⟨h30, hg3⟩
            · obtain ⟨w1, w2, w3, w4⟩ := gVal_rm hn hg3
              have w1 : nxT T n s.1 < s3.1 := w1
              have w4 : s3.2.2.length + nxT T n s.1 ≤ s.2.2.length + s3.1 := w4
              rw [hg3] at q3
              have hadd : addC s3.2.2 (opM T n s.1, 0) = s3.2.2 ++ [(opM T n s.1, 0)] := addC_y (by omega)
              rw [hadd] at h4
              have po := ih (k + 1) u (s3.1, s3.2.1, s3.2.2 ++ [(opM T n s.1, 0)]) fa3 f4 (.int (xj (opM T n s.1 : Nat))) (.int (xj 0))
              refine po (by show n ≤ s3.1 + m; omega) (by show k + 1 ≤ s3.1; omega) (by omega) hu h4 fr4 (fun _ => ⟨q1, ?_, q3⟩) (fun q => absurd h30 q)
              show (s3.2.2 ++ [(opM T n s.1, 0)]).length + _ ≤ s3.1
              rw [List.length_append]
              show s3.2.2.length + 1 + _ ≤ s3.1
              omega
            · rw [hg3] at q3
              have hbd : ∀ s', rdR G s0 fa0 s' fa3 := fun s' => ⟨fun _ => Or.inr ⟨h30, q3⟩, fun q => absurd q1 q⟩
              exact c_sumF (u := u) (by omega) hta hu rfl (by omega) h4 fr4 h30 hbd hpost
          simp (disch := omega) only [b75_113, b75_116, List.getElem?_cons_zero, List.getElem?_cons_succ, List.length_cons, List.length_nil, List.set_cons_zero, List.set_cons_succ, true_and, and_true, Option.toList_some, Option.toList_none, List.cons_append, List.nil_append, ↓reduceIte, not_false_eq_true, not_true_eq_false, Nat.reduceAdd, xj0_01, xj1_01, xb_B, xb_True, xb_False, ↓xj_in, xj_nat, Int.toNat_natCast, xj_lt_t, xj_lt_f, xj_le_t, xj_le_f, xj_eq_t, xj_eq_f, xj_lt, xj_le, xj_eq, xj_add, xj_sub, xj_mul, show ¬ xj 1 = xj 0 from by decide]
          exact key
      · have hend : xk_B (D - 1) 75 119 [.ref a, .ref t, .int (xj (wtI u)), .int (xj (k : Nat)), l4, l5] [] (f, w) K := c_sumEnd (by omega) hta h fr hu (fun q => absurd q h0) (fun s' _ => hb h0 s') hpost
        simp (disch := omega) only [b75_9, b75_10, b75_13, b75_16, b75_17, b75_20, List.getElem?_cons_zero, List.getElem?_cons_succ, List.length_cons, List.length_nil, List.set_cons_zero, List.set_cons_succ, true_and, and_true, Option.toList_some, Option.toList_none, List.cons_append, List.nil_append, ↓reduceIte, not_false_eq_true, not_true_eq_false, Nat.reduceAdd, xj0_01, xj1_01, xb_B, xb_True, xb_False, ↓xT_fa h.1, ↓xj_in, xj_nat, Int.toNat_natCast, xj_lt_t, xj_lt_f, xj_le_t, xj_le_f, xj_eq_t, xj_eq_f, xj_lt, xj_le, xj_eq, xj_add, xj_sub, xj_mul, show ¬ xj 1 = xj 0 from by decide]
        exact hend
    · have hend : xk_B (D - 1) 75 119 [.ref a, .ref t, .int (xj (wtI u)), .int (xj (k : Nat)), l4, l5] [] (f, w) K := by
        have h9 : n ≤ s.1 := by have := ha.1; omega
        have op := op_end (T := T) (n := n) (p := s.1) h9
        exact c_sumEnd (by omega) hta h fr hu (fun h0 => by have := hg h0; have := ha.1; omega) (fun s' hs => by
          by_cases h0 : fa = 0
          · obtain ⟨q1, q2, q3⟩ := hg h0
            refine ⟨fun _ => Or.inl ⟨h0, ?_⟩, fun q => absurd q1 q⟩
            rw [q3, hs h0, cSF_s, if_pos op.1, if_pos op.2.1]
          · exact hb h0 s') hpost
      simp (disch := omega) only [b75_9, b75_10, b75_13, List.getElem?_cons_zero, List.getElem?_cons_succ, List.length_cons, List.length_nil, List.set_cons_zero, List.set_cons_succ, true_and, and_true, Option.toList_some, Option.toList_none, List.cons_append, List.nil_append, ↓reduceIte, not_false_eq_true, not_true_eq_false, Nat.reduceAdd, xj0_01, xj1_01, xb_B, xb_True, xb_False, ↓xj_in, xj_nat, Int.toNat_natCast, xj_lt_t, xj_lt_f, xj_le_t, xj_le_f, xj_eq_t, xj_eq_f, xj_lt, xj_le, xj_eq, xj_add, xj_sub, xj_mul, show ¬ xj 1 = xj 0 from by decide]
      exact hend
theorem c_sum (hD : 4 ≤ D) (hta : t + 4 ≤ a) (h : xRd f a t T n s fa) (hr : fa = 0 → s.2.2.length < s.1) (hpost : rdK (gSum T n) T n a t f s fa w K) : xk_Cl D 75 [.ref a, .ref t] (f, w) K := by
  rw [e75 (by omega)]
  obtain ⟨ha, hT, hfa⟩ := rd_rng h
  have hn := hT.1
  simp (disch := omega) only [b75_0, b75_1, b75_2, b75_3, List.getElem?_cons_zero, List.getElem?_cons_succ, List.length_cons, List.length_nil, List.set_cons_zero, List.set_cons_succ, true_and, and_true, Option.toList_some, Option.toList_none, List.cons_append, List.nil_append, ↓reduceIte, not_false_eq_true, not_true_eq_false, Nat.reduceAdd, xj0_01, xj1_01, xb_B, xb_True, xb_False]
  rw [b75_4, rc_Rd h, true_and]
  refine c_value (by omega) hta h hr (fun f1 s1 fa1 g1 h1 r1 => ?_)
  simp (disch := omega) only [b75_7, b75_8, List.getElem?_cons_zero, List.getElem?_cons_succ, List.length_cons, List.length_nil, List.set_cons_zero, List.set_cons_succ, true_and, and_true, Option.toList_some, Option.toList_none, List.cons_append, List.nil_append, ↓reduceIte, not_false_eq_true, not_true_eq_false, Nat.reduceAdd, xj0_01, xj1_01, xb_B, xb_True, xb_False]
  refine c_sumL (G := gSum T n) (s0 := s) (fa0 := fa) hD hta hpost 400 0 0 s1 fa1 f1 _ _ (by omega) (by omega) (by omega) (Or.inl rfl) h1 g1 (fun h0 => ?_) (fun h0 s' => ?_)
  · by_cases c : fa = 0
    · rcases r1.1 c with ⟨_, hg⟩ | ⟨q, _⟩
      · obtain ⟨w1, w2, w3, w4⟩ := gVal_rm hn hg
        have hl := hr c
        refine ⟨c, by rw [if_pos rfl]; omega, ?_⟩
        rw [gSum_c hn s (g := 400) (fun s2 h2 => by omega), hg, bdP_R]
      · exact absurd h0 q
    · have := r1.2 c
      omega
  · refine ⟨fun c => ?_, fun c => r1.2 c⟩
    rcases r1.1 c with ⟨q, _⟩ | ⟨_, hg⟩
    · exact absurd q h0
    · refine Or.inr ⟨h0, ?_⟩
      rw [gSum_e, gTerm_e, hg, bdP_L, bdP_L]
end XS99
