/-! the model reads a rule: clauses one behind the other -/
abbrev Cl : Type := List St × Option (List St)
def clT (c : Cl) : List St := match c.2 with | some t => t | none => []
def clF (c : Cl) : List St := c.1 ++ clT c
def gC3 (es : List St) (r : Pr) : Sum Nat (Nat × Nat × Cl) := match r with
  | .inl e => .inl e
  | .inr s2 => .inr (s2.1, s2.2.1, (es, some s2.2.2))
def gC2 (T : Nat → Int) (n : Nat) (s1 : Ps) : Sum Nat (Nat × Nat × Cl) := if wdA T n s1.1 = 17 then gC3 s1.2.2 (gT T n (nxT T n s1.1, s1.2.1, [])) else .inr (s1.1, s1.2.1, (s1.2.2, none))
def gCl (T : Nat → Int) (n p c : Nat) : Sum Nat (Nat × Nat × Cl) :=
  match gSum T n (nxT T n p, c, []) with
  | .inl e => .inl e
  | .inr s1 => gC2 T n s1
def gRC (T : Nat → Int) (n k p c : Nat) : Sum Nat (Nat × Nat × Cl) := if wdA T n p = 16 then (if k = 12 then .inl (1 + 8 * p + 4) else gCl T n p c) else .inl (1 + 8 * p)
def gRn (T : Nat → Int) (n : Nat) (k : Nat → Nat → Ru → Sum Nat Ru) (ru : Ru) (r : Sum Nat (Nat × Nat × Cl)) : Sum Nat Ru := match r with
  | .inl e => .inl e
  | .inr q => if seeF T n q.1 = 59 then k (nxT T n q.1) q.2.1 (ru ++ [q.2.2]) else if seeF T n q.1 = -1 then .inr (ru ++ [q.2.2]) else .inl (1 + 8 * q.1)
def gRu (T : Nat → Int) (n : Nat) : Nat → Nat → Nat → Ru → Sum Nat Ru
  | 0, _, _, _ => .inl 0
  | f + 1, p, c, ru => gRn T n (gRu T n f) ru (gRC T n ru.length p c)
def gRe (T : Nat → Int) (n f p c : Nat) (ru : Ru) : Sum Nat Ru := if seeF T n p = 59 then gRu T n f (nxT T n p) c ru else if seeF T n p = -1 then .inr ru else .inl (1 + 8 * p)
def flR : Ru → List St
  | [] => []
  | c :: r => clF c ++ flR r
theorem flR_snoc : ∀ (r : Ru) (c : Cl), flR (r ++ [c]) = flR r ++ clF c := by
  intro r c
  induction r with
  | nil => show clF c ++ [] = _; rw [List.append_nil]; rfl
  | cons x r ih => show clF x ++ flR (r ++ [c]) = (clF x ++ flR r) ++ clF c; rw [ih, List.append_assoc]
/-- the rows of clauses -/
def ixA (g : Nat → Int) : Nat → Nat → Ru → Prop
  | _, _, [] => True
  | bg, i, c :: r => ixR g i bg (bg + c.1.length) c.2.isSome (bg + (clF c).length) ∧ ixA g (bg + (clF c).length) (i + 4) r
theorem ixA_snoc {g : Nat → Int} {c : Cl} : ∀ {r : Ru} {bg i : Nat}, ixA g bg i r → ixR g (i + 4 * r.length) (bg + (flR r).length) (bg + (flR r).length + c.1.length) c.2.isSome (bg + (flR r).length + (clF c).length) → ixA g bg i (r ++ [c]) := by
  intro r
  induction r with
  | nil => intro bg i _ h; exact ⟨h, trivial⟩
  | cons x r ih =>
    intro bg i h h2
    have e1 : i + 4 * (x :: r).length = (i + 4) + 4 * r.length := by rw [List.length_cons]; omega
    have e2 : (flR (x :: r)).length = (clF x).length + (flR r).length := by show (clF x ++ flR r).length = _; rw [List.length_append]
    rw [e1, e2, ← Nat.add_assoc] at h2
    exact ⟨h.1, ih h.2 h2⟩
theorem ixA_ext {g g' : Nat → Int} : ∀ {r : Ru} {bg i : Nat}, (∀ j, i ≤ j → j < i + 4 * r.length → g' j = g j) → ixA g bg i r → ixA g' bg i r := by
  intro r
  induction r with
  | nil => intro _ _ _ _; trivial
  | cons x r ih =>
    intro bg i h h2
    have hl : (x :: r).length = r.length + 1 := List.length_cons
    obtain ⟨⟨a1, a2, a3, a4⟩, a5⟩ := h2
    exact ⟨⟨by rw [h i (by omega) (by omega)]; exact a1, by rw [h _ (by omega) (by omega)]; exact a2, by rw [h _ (by omega) (by omega)]; exact a3, by rw [h _ (by omega) (by omega)]; exact a4⟩, ih (fun j h3 h4 => h j (by omega) (by omega)) a5⟩
theorem rCo_split {g : Nat → Int} : ∀ {a b : List St} {i : Nat}, rCo g i (a ++ b) → rCo g i a ∧ rCo g (i + a.length) b := by
  intro a
  induction a with
  | nil => intro b i h; exact ⟨trivial, h⟩
  | cons x a ih =>
    intro b i h
    obtain ⟨h1, h2⟩ := ih h.2.2
    exact ⟨⟨h.1, h.2.1, h1⟩, by rw [show i + (x :: a).length = i + 1 + a.length by rw [List.length_cons]; omega]; exact h2⟩
theorem rCl_of {R : Md} {t : Nat} : ∀ {ru : Ru} {bg c : Nat}, ixA (mA R 5) bg (48 * t + 4 * c) ru → rCo (mA R 3) (400 * t + bg) (flR ru) → bg + (flR ru).length ≤ 400 → rCl R t c ru := by
  intro ru
  induction ru with
  | nil => intro _ _ _ _ _; trivial
  | cons x r ih =>
    intro bg c h h2 h3
    obtain ⟨⟨a1, a2, a3, a4⟩, a5⟩ := h
    have h2 : rCo (mA R 3) (400 * t + bg) ((x.1 ++ clT x) ++ flR r) := h2
    have h3 : bg + ((x.1 ++ clT x) ++ flR r).length ≤ 400 := h3
    rw [List.length_append, List.length_append] at h3
    have e : (clF x).length = x.1.length + (clT x).length := List.length_append
    obtain ⟨b1, b2⟩ := rCo_split h2
    obtain ⟨b3, b4⟩ := rCo_split b1
    refine ⟨⟨bg, a1, a2, by omega, b3⟩, ?_, ih (bg := bg + (clF x).length) (c := c + 1) ?_ ?_ ?_⟩
    · cases hx : x.2 with
      | none =>
        rw [hx] at a3
        exact a3
      | some u =>
        have hu : clT x = u := by unfold clT; rw [hx]
        rw [hu] at b4 e h3
        rw [hx] at a3
        exact ⟨bg + x.1.length, a3, by rw [a4, e, Nat.add_assoc], by omega, by rw [← Nat.add_assoc]; exact b4⟩
    · rw [show 48 * t + 4 * (c + 1) = 48 * t + 4 * c + 4 by omega]; exact a5
    · rw [List.length_append] at b2
      rw [e, show 400 * t + (bg + (x.1.length + (clT x).length)) = 400 * t + bg + (x.1.length + (clT x).length) by omega]
      exact b2
    · omega
theorem pcR_snoc : ∀ (r : Ru) (c : Cl), pcR (r ++ [c]) = pcR r + (pcC c.1 + pcC (clT c)) := by
  intro r c
  induction r with
  | nil =>
    show pcC c.1 + _ + 0 = 0 + (pcC c.1 + pcC (clT c))
    unfold clT
    cases c.2 with
    | none => show pcC c.1 + 0 + 0 = 0 + (pcC c.1 + 0); omega
    | some u => show pcC c.1 + pcC u + 0 = 0 + (pcC c.1 + pcC u); omega
  | cons x r ih =>
    have e : pcR (x :: (r ++ [c])) = pcC x.1 + (match x.2 with | some t => pcC t | none => 0) + pcR (r ++ [c]) := rfl
    have e2 : pcR (x :: r) = pcC x.1 + (match x.2 with | some t => pcC t | none => 0) + pcR r := rfl
    show pcR (x :: (r ++ [c])) = _
    rw [e, ih, e2]
    omega
/-- what a clause that is read is like -/
theorem gCl_ok {T : Nat → Int} {n p c : Nat} {q : Nat × Nat × Cl} (hn : n ≤ 400) (h : gCl T n p c = .inr q) : clOK q.2.2 ∧ pcC q.2.2.1 + pcC (clT q.2.2) + c ≤ q.2.1 ∧ (c ≤ 60 → q.2.1 ≤ 60) ∧ nxT T n p < q.1 ∧ q.1 ≤ n ∧ atP T n q.1 ∧ (clF q.2.2).length + nxT T n p ≤ q.1 := by
  unfold gCl at h
  cases hs : gSum T n (nxT T n p, c, []) with
  | inl e => rw [hs] at h; cases h
  | inr s1 =>
    rw [hs] at h
    have h : gC2 T n s1 = .inr q := h
    unfold gC2 at h
    obtain ⟨y1, y2, y3⟩ := gSum_ty hs
    obtain ⟨⟨_, r2, r3, r4⟩, r5⟩ := gSum_rm hn hs
    have r4 : s1.2.2.length + nxT T n p ≤ 0 + s1.1 := r4
    have r5 : nxT T n p < s1.1 := r5
    have y1 := y1 [] rfl
    have y2 : pcC s1.2.2 + c ≤ 0 + s1.2.1 := y2
    have y3 : c ≤ 60 → s1.2.1 ≤ 60 := y3
    by_cases cw : wdA T n s1.1 = 17
    · rw [if_pos cw] at h
      cases ht : gT T n (nxT T n s1.1, s1.2.1, []) with
      | inl e => rw [ht] at h; cases h
      | inr s2 =>
        rw [ht] at h
        cases h
        have hw1 := wd_lt (T := T) (n := n) (p := s1.1) (by omega)
        obtain ⟨m1, m2, m3⟩ := nx_rng (T := T) hn hw1.1
        obtain ⟨z1, z2, z3⟩ := gT_ty hn ht
        obtain ⟨⟨_, u2, u3, u4⟩, u5⟩ := gTest_rm hn (gFact_rm hn 10) ht
        have z1 := z1 [] rfl
        have z2 : pcC s2.2.2 + s1.2.1 ≤ 0 + s2.2.1 := z2
        have z3 : s1.2.1 ≤ 60 → s2.2.1 ≤ 60 := z3
        have u4 : s2.2.2.length + nxT T n s1.1 ≤ 0 + s2.1 := u4
        have u5 : nxT T n s1.1 < s2.1 := u5
        refine ⟨⟨y1, z1⟩, ?_, fun q => z3 (y3 q), by show nxT T n p < s2.1; omega, u2, u3, ?_⟩
        · show pcC s1.2.2 + pcC s2.2.2 + c ≤ s2.2.1
          omega
        · show (s1.2.2 ++ s2.2.2).length + nxT T n p ≤ s2.1
          rw [List.length_append]
          omega
    · rw [if_neg cw] at h
      cases h
      refine ⟨⟨y1, trivial⟩, ?_, y3, r5, r2, r3, ?_⟩
      · show pcC s1.2.2 + 0 + c ≤ s1.2.1
        omega
      · show (s1.2.2 ++ []).length + nxT T n p ≤ s1.1
        rw [List.append_nil]
        omega
def frL (t : Nat) (R R' : Md) : Prop := (∀ j, (j < 8 ∨ j = 11 ∨ 16 < j) → mS R' j = mS R j) ∧ (∀ j, (j < 3 ∨ (6 < j ∧ j < 15) ∨ 15 < j) → mA R' j = mA R j) ∧ (∀ i, (i < 400 * t ∨ 400 * t + 400 ≤ i) → mA R' 3 i = mA R 3 i) ∧ (∀ i, i ≠ t → mA R' 4 i = mA R 4 i ∧ mA R' 6 i = mA R 6 i) ∧ ∀ i, (i < 48 * t ∨ 48 * t + 48 ≤ i) → mA R' 5 i = mA R 5 i
theorem frL_t {t : Nat} {R R' R'' : Md} (h : frL t R R') (h' : frL t R' R'') : frL t R R'' := ⟨fun j q => (h'.1 j q).trans (h.1 j q), fun j q => (h'.2.1 j q).trans (h.2.1 j q), fun j q => (h'.2.2.1 j q).trans (h.2.2.1 j q), fun j q => ⟨((h'.2.2.2.1 j q).1).trans (h.2.2.2.1 j q).1, ((h'.2.2.2.1 j q).2).trans (h.2.2.2.1 j q).2⟩, fun j q => (h'.2.2.2.2 j q).trans (h.2.2.2.2 j q)⟩
theorem frL_C {t : Nat} {R R' : Md} (h : frC t R R') : frL t R R' := ⟨fun j q => h.1 j (by omega), h.2⟩
theorem frL_S {t : Nat} {R : Md} {j : Nat} {v : Int} (h : (7 < j ∧ j < 11) ∨ (11 < j ∧ j < 17)) : frL t R (sS R j v) := ⟨fun i q => mS_So (by omega), fun _ _ => rfl, fun _ _ => rfl, fun _ _ => ⟨rfl, rfl⟩, fun _ _ => rfl⟩
section XS89
variable {D b k p q n t c v : Nat} {f g : Nat → xk_C} {w : Nat × Nat × Nat} {K : Option Value → xk_S → Prop} {R : Md} {x y z : Int} {T : Nat → Int} {s : Ps} {cs : List St} {ru : Ru}
theorem u_clauseR (hD : 12 ≤ D) (hp : rP R T n t (p, c, cs)) (h14 : mS R 14 = (k : Nat)) (h6 : mA R 6 t = (k : Nat)) (hk : k ≤ 12) (hr : cs.length ≤ p) (hok : ∀ q, gRC T n k p c = .inr q → ∀ R', frL t R R' → rP R' T n t (q.1, q.2.1, cs ++ clF q.2.2) → mS R' 14 = (k + 1 : Nat) → mA R' 6 t = (k + 1 : Nat) → ixR (mA R' 5) (48 * t + 4 * k) cs.length (cs.length + q.2.2.1.length) q.2.2.2.isSome (cs.length + (clF q.2.2).length) → (∀ i, (i < 48 * t + 4 * k ∨ 48 * t + 4 * k + 4 ≤ i) → mA R' 5 i = mA R 5 i) → K (some (.int (xj 1))) (xm f b R', w)) (hno : ∀ e : Nat, gRC T n k p c = .inl e → ∀ R', frL t R R' → mS R' 9 = (e : Nat) → K (some (.int (xj 0))) (xm f b R', w)) : xk_Cl D 179 [.ref b] (xm f b R, w) K := by
  rw [e179 (by omega)]
  have hn := hp.1.2.1
  have ht6 := hp.2.1
  have ha : atP T n p := rP_at hp
  have h11 := hp.2.2.1
  have h9 := hp.2.2.2.1
  obtain ⟨q0, h8, hq0, hs0⟩ := hp.2.2.2.2.1
  have hs0 : skT T n q0 = p := hs0
  have hp1 : rP (sS R 8 (p : Nat)) T n t (p, c, cs) := rP_8 hp ha.1 (at_sk hn ha)
  have h14' : mS (sS R 8 (p : Nat)) 14 = (k : Nat) := by rw [mS_So (by decide)]; exact h14
  have h81 : mS (sS R 8 (p : Nat)) 8 = (p : Nat) := mS_S
  have h9p : mS (sS R 8 (p : Nat)) 9 = 0 := by rw [mS_So (by decide)]; exact h9
  have is := fun (K' : Option Value → xk_S → Prop) => m_isW (D := D - 1) (K := K') (f := f) (b := b) (w := w) (k := 16) (u := 1936287598) (by omega) hp1.1 h81 ha.1 (by decide) rfl
  simp only [at_sk hn ha, sS_S] at is
  unfold gRC at hok hno
  by_cases cw : wdA T n p = 16
  · rw [if_pos cw] at hok hno
    have xw : ∀ i, @xb (wdA T n p = ((16 : Nat) : Int)) i = xj 1 := fun i => xb_T cw
    by_cases c12 : k = 12
    · rw [if_pos c12] at hno
      have po := hno _ rfl (sS (sS R 8 (p : Nat)) 9 (1 + 8 * p + 4)) (frL_t (frL_S (by omega)) (frL_S (by omega))) (by rw [mS_S]; omega)
      have h12 : mS R 14 = 12 := by rw [h14, c12]; rfl
      simp (disch := omega) only [b179_0, b179_1, b179_4, b179_5, b179_6, b179_9, b179_10, b179_11, b179_14, b179_16, b179_19, b179_20, b179_23, b179_24, b179_25, b179_26, b179_29, b179_30, b179_33, b179_36, b179_39, b179_40, b179_43, b179_46, b179_49, b179_50, b179_51, b179_52, b179_55, b179_56, b179_57, b179_60, b179_61, b179_64, b179_66, b179_69, b179_71, b179_74, b179_75, b179_76, b179_77, b179_80, b179_55o, b179_55z, b179_55c, b179_80o, b179_80z, b179_80c, ↓gm_0, ↓gm_1, ↓gm_2, ↓gm_3, ↓gm_4, ↓gm_5, ↓gm_6, ↓gm_7, ↓gm_8, ↓gm_9, ↓gm_10, ↓gm_11, ↓gm_12, ↓gm_13, ↓gm_14, ↓gm_15, ↓gm_16, ↓gm_17, ↓gm_18, ↓gm_19, ↓gm_20, ↓gm_21, ↓gm_22, ↓gm_23, ↓gm_24, ↓gm_25, ↓gm_26, ↓gm_27, ↓gm_28, ↓gm_29, ↓gm_30, ↓gm_31, ↓gm_32, ↓gm_33, ↓gm_34, ↓gm_35, ↓gm_36, ↓gm_37, ↓gm_38, ↓gm_39, ↓gm_40, ↓gm_41, ↓gm_42, ↓gm_43, ↓gm_44, ↓gm_45, ↓gm_46, ↓pm_1, ↓pm_2, ↓pm_8, ↓pm_9, ↓pm_10, ↓pm_11, ↓pm_12, ↓pm_13, ↓pm_14, ↓pm_16, ↓pm_18, ↓pm_21, ↓pm_22, ↓pm_23, ↓pm_24, ↓pm_25, ↓pm_26, ↓pm_28, ↓pm_31, ↓pm_35, ↓pm_36, ↓pm_37, ↓pm_38, ↓pm_40, ↓pm_43, ↓am_0, ↓wm_0, ↓am_3, ↓wm_3, ↓am_4, ↓wm_4, ↓am_5, ↓wm_5, ↓am_6, ↓wm_6, ↓am_7, ↓wm_7, ↓am_15, ↓wm_15, ↓am_17, ↓wm_17, ↓am_19, ↓wm_19, ↓am_20, ↓wm_20, ↓am_27, ↓wm_27, ↓am_29, ↓wm_29, ↓am_30, ↓wm_30, ↓am_32, ↓wm_32, ↓am_33, ↓wm_33, ↓am_34, ↓wm_34, ↓am_39, ↓wm_39, ↓am_41, ↓wm_41, ↓am_42, ↓wm_42, ↓am_44, ↓wm_44, ↓am_45, ↓wm_45, ↓am_46, ↓wm_46, ↓wn_0, ↓wn_46, or_false, false_or, rc_M, List.getElem?_cons_zero, List.getElem?_cons_succ, List.length_cons, List.length_nil, List.set_cons_zero, List.set_cons_succ, true_and, and_true, Option.toList_some, Option.toList_none, List.cons_append, List.nil_append, ↓reduceIte, not_false_eq_true, not_true_eq_false, Nat.reduceAdd, xj0_01, xj1_01, xb_B, xb_True, xb_False, ↓xj_in, xj_nat, Int.toNat_natCast, xj_lt_t, xj_lt_f, xj_le_t, xj_le_f, xj_eq_t, xj_eq_f, xj_lt, xj_le, xj_eq, xj_add, xj_sub, xj_mul, show ¬ xj 1 = xj 0 from by decide, tn_add, tn_mul, tn_sub, Int.toNat_natCast, Int.reduceToNat, mS_S, mS_So, mS_A, mS_J, mA_A, mA_Ao, mA_S, mA_J, mJ_J, mJ_Jo, mJ_S, mJ_A, sS_S, sA_A, sS_A, sS_J, sJ_A, m_see _ hp.1 h8 hq0, hs0, h11, is, xw, h12, m_fails _ h9p]
      exact po
    · rw [if_neg c12] at hok hno
      have hp2 : rP (sS (sS R 8 (p : Nat)) 14 (k + 1 : Nat)) T n t (p, c, cs) := hp1
      have f2 : frL t R (sS (sS R 8 (p : Nat)) 14 (k + 1 : Nat)) := frL_t (frL_S (by omega)) (frL_S (by omega))
      have ek : ((k : Nat) : Int) + 1 = ((k + 1 : Nat) : Int) := by omega
      simp (disch := omega) only [b179_0, b179_1, b179_4, b179_5, b179_6, b179_9, b179_10, b179_11, b179_14, b179_16, b179_19, b179_20, b179_23, b179_24, b179_25, b179_26, b179_29, b179_30, b179_33, b179_36, b179_39, b179_40, b179_43, b179_46, b179_49, b179_50, b179_51, b179_52, b179_55, b179_56, b179_57, b179_60, b179_61, b179_64, b179_66, b179_69, b179_71, b179_74, b179_75, b179_76, b179_77, b179_80, b179_81, b179_82, b179_83, b179_86, b179_87, b179_88, b179_91, b179_92, b179_95, b179_96, b179_97, b179_100, b179_103, b179_55o, b179_55z, b179_55c, b179_80o, b179_80z, b179_80c, ↓gm_0, ↓gm_1, ↓gm_2, ↓gm_3, ↓gm_4, ↓gm_5, ↓gm_6, ↓gm_7, ↓gm_8, ↓gm_9, ↓gm_10, ↓gm_11, ↓gm_12, ↓gm_13, ↓gm_14, ↓gm_15, ↓gm_16, ↓gm_17, ↓gm_18, ↓gm_19, ↓gm_20, ↓gm_21, ↓gm_22, ↓gm_23, ↓gm_24, ↓gm_25, ↓gm_26, ↓gm_27, ↓gm_28, ↓gm_29, ↓gm_30, ↓gm_31, ↓gm_32, ↓gm_33, ↓gm_34, ↓gm_35, ↓gm_36, ↓gm_37, ↓gm_38, ↓gm_39, ↓gm_40, ↓gm_41, ↓gm_42, ↓gm_43, ↓gm_44, ↓gm_45, ↓gm_46, ↓pm_1, ↓pm_2, ↓pm_8, ↓pm_9, ↓pm_10, ↓pm_11, ↓pm_12, ↓pm_13, ↓pm_14, ↓pm_16, ↓pm_18, ↓pm_21, ↓pm_22, ↓pm_23, ↓pm_24, ↓pm_25, ↓pm_26, ↓pm_28, ↓pm_31, ↓pm_35, ↓pm_36, ↓pm_37, ↓pm_38, ↓pm_40, ↓pm_43, ↓am_0, ↓wm_0, ↓am_3, ↓wm_3, ↓am_4, ↓wm_4, ↓am_5, ↓wm_5, ↓am_6, ↓wm_6, ↓am_7, ↓wm_7, ↓am_15, ↓wm_15, ↓am_17, ↓wm_17, ↓am_19, ↓wm_19, ↓am_20, ↓wm_20, ↓am_27, ↓wm_27, ↓am_29, ↓wm_29, ↓am_30, ↓wm_30, ↓am_32, ↓wm_32, ↓am_33, ↓wm_33, ↓am_34, ↓wm_34, ↓am_39, ↓wm_39, ↓am_41, ↓wm_41, ↓am_42, ↓wm_42, ↓am_44, ↓wm_44, ↓am_45, ↓wm_45, ↓am_46, ↓wm_46, ↓wn_0, ↓wn_46, or_false, false_or, rc_M, List.getElem?_cons_zero, List.getElem?_cons_succ, List.length_cons, List.length_nil, List.set_cons_zero, List.set_cons_succ, true_and, and_true, Option.toList_some, Option.toList_none, List.cons_append, List.nil_append, ↓reduceIte, not_false_eq_true, not_true_eq_false, Nat.reduceAdd, xj0_01, xj1_01, xb_B, xb_True, xb_False, ↓xj_in, xj_nat, Int.toNat_natCast, xj_lt_t, xj_lt_f, xj_le_t, xj_le_f, xj_eq_t, xj_eq_f, xj_lt, xj_le, xj_eq, xj_add, xj_sub, xj_mul, show ¬ xj 1 = xj 0 from by decide, tn_add, tn_mul, tn_sub, Int.toNat_natCast, Int.reduceToNat, mS_S, mS_So, mS_A, mS_J, mA_A, mA_Ao, mA_S, mA_J, mJ_J, mJ_Jo, mJ_S, mJ_A, sS_S, sA_A, sS_A, sS_J, sJ_A, m_see _ hp.1 h8 hq0, hs0, h11, is, xw, h14, ek]
      rw [b179_104, rc_M, true_and]
      have sh := gSum_sh T n (nxT T n p) c cs []
      rw [List.append_nil] at sh
      refine u_sign (by omega) hp2 (by rw [mS_So (by decide), mS_S]) h6 (by omega) cw hr (fun s1 tst s2 hs1 hc R' f' p' k' i' j' => ?_) (fun e he R' f' m9 => ?_)
      · have fr := frL_t f2 (frL_C f')
        have n14 : mS R' 14 = (k + 1 : Nat) := by rw [f'.1 14 (by omega), mS_S]
        rw [hs1] at sh
        cases hg : gSum T n (nxT T n p, c, []) with
        | inl e => rw [hg] at sh; cases sh
        | inr u1 =>
          rw [hg] at sh
          have sh : s1 = (u1.1, u1.2.1, cs ++ u1.2.2) := Sum.inr.inj sh
          subst sh
          have l1 : (cs ++ u1.2.2).length = cs.length + u1.2.2.length := List.length_append
          rcases hc with ⟨rfl, cw1, ht⟩ | ⟨rfl, cw1, rfl⟩
          · have sh2 := gT_sh T n (nxT T n u1.1) u1.2.1 (cs ++ u1.2.2) []
            rw [List.append_nil] at sh2
            have ht : gT T n (nxT T n u1.1, u1.2.1, cs ++ u1.2.2) = .inr s2 := ht
            have cw1 : wdA T n u1.1 = 17 := cw1
            rw [ht] at sh2
            cases hg2 : gT T n (nxT T n u1.1, u1.2.1, []) with
            | inl e => rw [hg2] at sh2; cases sh2
            | inr u2 =>
              rw [hg2] at sh2
              have sh2 : s2 = (u2.1, u2.2.1, (cs ++ u1.2.2) ++ u2.2.2) := Sum.inr.inj sh2
              subst sh2
              have l2 : ((cs ++ u1.2.2) ++ u2.2.2).length = cs.length + (u1.2.2 ++ u2.2.2).length := by rw [List.append_assoc, List.length_append]
              have i' : ixR (mA R' 5) (48 * t + 4 * k) cs.length (cs ++ u1.2.2).length true ((cs ++ u1.2.2) ++ u2.2.2).length := i'
              rw [l1, l2] at i'
              have hq : gCl T n p c = .inr (u2.1, u2.2.1, (u1.2.2, some u2.2.2)) := by
                unfold gCl
                rw [hg]
                show gC2 T n u1 = _
                unfold gC2
                rw [if_pos cw1, hg2]
                rfl
              have po := hok _ hq R' fr (by rw [List.append_assoc] at p'; exact p') n14 k' i' j'
              simp (disch := omega) only [b179_107, b179_107o, b179_107z, b179_107c, List.getElem?_cons_zero, List.getElem?_cons_succ, List.length_cons, List.length_nil, List.set_cons_zero, List.set_cons_succ, true_and, and_true, Option.toList_some, Option.toList_none, List.cons_append, List.nil_append, ↓reduceIte, not_false_eq_true, not_true_eq_false, Nat.reduceAdd, xj0_01, xj1_01, xb_B, xb_True, xb_False, ↓xj_in, xj_nat, Int.toNat_natCast, xj_lt_t, xj_lt_f, xj_le_t, xj_le_f, xj_eq_t, xj_eq_f, xj_lt, xj_le, xj_eq, xj_add, xj_sub, xj_mul, show ¬ xj 1 = xj 0 from by decide]
              exact po
          · have i' : ixR (mA R' 5) (48 * t + 4 * k) cs.length (cs ++ u1.2.2).length false (cs ++ u1.2.2).length := i'
            have cw1 : ¬ wdA T n u1.1 = 17 := cw1
            rw [l1] at i'
            have hq : gCl T n p c = .inr (u1.1, u1.2.1, (u1.2.2, none)) := by
              unfold gCl
              rw [hg]
              show gC2 T n u1 = _
              unfold gC2
              rw [if_neg cw1]
            have e0 : clF (u1.2.2, none) = u1.2.2 := List.append_nil _
            have po := hok _ hq R' fr (by rw [e0]; exact p') n14 k' (by rw [e0]; exact i') j'
            simp (disch := omega) only [b179_107, b179_107o, b179_107z, b179_107c, List.getElem?_cons_zero, List.getElem?_cons_succ, List.length_cons, List.length_nil, List.set_cons_zero, List.set_cons_succ, true_and, and_true, Option.toList_some, Option.toList_none, List.cons_append, List.nil_append, ↓reduceIte, not_false_eq_true, not_true_eq_false, Nat.reduceAdd, xj0_01, xj1_01, xb_B, xb_True, xb_False, ↓xj_in, xj_nat, Int.toNat_natCast, xj_lt_t, xj_lt_f, xj_le_t, xj_le_f, xj_eq_t, xj_eq_f, xj_lt, xj_le, xj_eq, xj_add, xj_sub, xj_mul, show ¬ xj 1 = xj 0 from by decide]
            exact po
      · have fr := frL_t f2 (frL_C f')
        have hq : gCl T n p c = .inl e := by
          unfold gCl
          rcases he with he | ⟨s1, hs1, cw1, ht⟩
          · rw [he] at sh
            cases hg : gSum T n (nxT T n p, c, []) with
            | inl e' => rw [hg] at sh; have := Sum.inl.inj sh; rw [this]
            | inr u1 => rw [hg] at sh; cases sh
          · rw [hs1] at sh
            cases hg : gSum T n (nxT T n p, c, []) with
            | inl e' => rw [hg] at sh; cases sh
            | inr u1 =>
              rw [hg] at sh
              have sh : s1 = (u1.1, u1.2.1, cs ++ u1.2.2) := Sum.inr.inj sh
              subst sh
              have cw1 : wdA T n u1.1 = 17 := cw1
              have sh2 := gT_sh T n (nxT T n u1.1) u1.2.1 (cs ++ u1.2.2) []
              rw [List.append_nil] at sh2
              have ht : gT T n (nxT T n u1.1, u1.2.1, cs ++ u1.2.2) = .inl e := ht
              rw [ht] at sh2
              show gC2 T n u1 = _
              unfold gC2
              rw [if_pos cw1]
              cases hg2 : gT T n (nxT T n u1.1, u1.2.1, []) with
              | inl e' => rw [hg2] at sh2; have := Sum.inl.inj sh2; rw [this]; rfl
              | inr u2 => rw [hg2] at sh2; cases sh2
        have po := hno e hq R' fr m9
        simp (disch := omega) only [b179_107, b179_107o, b179_107z, b179_107c, List.getElem?_cons_zero, List.getElem?_cons_succ, List.length_cons, List.length_nil, List.set_cons_zero, List.set_cons_succ, true_and, and_true, Option.toList_some, Option.toList_none, List.cons_append, List.nil_append, ↓reduceIte, not_false_eq_true, not_true_eq_false, Nat.reduceAdd, xj0_01, xj1_01, xb_B, xb_True, xb_False, ↓xj_in, xj_nat, Int.toNat_natCast, xj_lt_t, xj_lt_f, xj_le_t, xj_le_f, xj_eq_t, xj_eq_f, xj_lt, xj_le, xj_eq, xj_add, xj_sub, xj_mul, show ¬ xj 1 = xj 0 from by decide]
        exact po
  · rw [if_neg cw] at hno
    have xw : ∀ i, @xb (wdA T n p = ((16 : Nat) : Int)) i = xj 0 := fun i => xb_F cw
    have po := hno _ rfl (sS (sS R 8 (p : Nat)) 9 (1 + 8 * p + 0)) (frL_t (frL_S (by omega)) (frL_S (by omega))) (by rw [mS_S]; omega)
    simp (disch := omega) only [b179_0, b179_1, b179_4, b179_5, b179_6, b179_9, b179_10, b179_11, b179_14, b179_16, b179_19, b179_20, b179_23, b179_24, b179_25, b179_26, b179_29, b179_30, b179_33, b179_36, b179_39, b179_40, b179_43, b179_46, b179_49, b179_50, b179_51, b179_52, b179_55, b179_55o, b179_55z, b179_55c, ↓gm_0, ↓gm_1, ↓gm_2, ↓gm_3, ↓gm_4, ↓gm_5, ↓gm_6, ↓gm_7, ↓gm_8, ↓gm_9, ↓gm_10, ↓gm_11, ↓gm_12, ↓gm_13, ↓gm_14, ↓gm_15, ↓gm_16, ↓gm_17, ↓gm_18, ↓gm_19, ↓gm_20, ↓gm_21, ↓gm_22, ↓gm_23, ↓gm_24, ↓gm_25, ↓gm_26, ↓gm_27, ↓gm_28, ↓gm_29, ↓gm_30, ↓gm_31, ↓gm_32, ↓gm_33, ↓gm_34, ↓gm_35, ↓gm_36, ↓gm_37, ↓gm_38, ↓gm_39, ↓gm_40, ↓gm_41, ↓gm_42, ↓gm_43, ↓gm_44, ↓gm_45, ↓gm_46, ↓pm_1, ↓pm_2, ↓pm_8, ↓pm_9, ↓pm_10, ↓pm_11, ↓pm_12, ↓pm_13, ↓pm_14, ↓pm_16, ↓pm_18, ↓pm_21, ↓pm_22, ↓pm_23, ↓pm_24, ↓pm_25, ↓pm_26, ↓pm_28, ↓pm_31, ↓pm_35, ↓pm_36, ↓pm_37, ↓pm_38, ↓pm_40, ↓pm_43, ↓am_0, ↓wm_0, ↓am_3, ↓wm_3, ↓am_4, ↓wm_4, ↓am_5, ↓wm_5, ↓am_6, ↓wm_6, ↓am_7, ↓wm_7, ↓am_15, ↓wm_15, ↓am_17, ↓wm_17, ↓am_19, ↓wm_19, ↓am_20, ↓wm_20, ↓am_27, ↓wm_27, ↓am_29, ↓wm_29, ↓am_30, ↓wm_30, ↓am_32, ↓wm_32, ↓am_33, ↓wm_33, ↓am_34, ↓wm_34, ↓am_39, ↓wm_39, ↓am_41, ↓wm_41, ↓am_42, ↓wm_42, ↓am_44, ↓wm_44, ↓am_45, ↓wm_45, ↓am_46, ↓wm_46, ↓wn_0, ↓wn_46, or_false, false_or, rc_M, List.getElem?_cons_zero, List.getElem?_cons_succ, List.length_cons, List.length_nil, List.set_cons_zero, List.set_cons_succ, true_and, and_true, Option.toList_some, Option.toList_none, List.cons_append, List.nil_append, ↓reduceIte, not_false_eq_true, not_true_eq_false, Nat.reduceAdd, xj0_01, xj1_01, xb_B, xb_True, xb_False, ↓xj_in, xj_nat, Int.toNat_natCast, xj_lt_t, xj_lt_f, xj_le_t, xj_le_f, xj_eq_t, xj_eq_f, xj_lt, xj_le, xj_eq, xj_add, xj_sub, xj_mul, show ¬ xj 1 = xj 0 from by decide, tn_add, tn_mul, tn_sub, Int.toNat_natCast, Int.reduceToNat, mS_S, mS_So, mS_A, mS_J, mA_A, mA_Ao, mA_S, mA_J, mJ_J, mJ_Jo, mJ_S, mJ_A, sS_S, sA_A, sS_A, sS_J, sJ_A, m_see _ hp.1 h8 hq0, hs0, h11, is, xw, m_fails _ h9p]
    exact po
end XS89
