/-! the model reads a rule, to its end -/
theorem gRC_fb {T : Nat → Int} {n k p c e : Nat} (hn : n ≤ 400) (hp : p ≤ n) (h : gRC T n k p c = .inl e) : 1 ≤ e ∧ e ≤ 8 * n + 5 := by
  unfold gRC at h
  by_cases cw : wdA T n p = 16
  · rw [if_pos cw] at h
    have nx := nx_rng (T := T) hn (wd_lt (T := T) (n := n) (p := p) (by omega)).1
    by_cases c12 : k = 12
    · rw [if_pos c12] at h; cases h; omega
    · rw [if_neg c12] at h
      unfold gCl at h
      cases hs : gSum T n (nxT T n p, c, []) with
      | inl e' => rw [hs] at h; cases h; have := gSum_fb hn _ _ nx.2.1 hs; omega
      | inr s1 =>
        rw [hs] at h
        have h : gC2 T n s1 = .inl e := h
        unfold gC2 at h
        by_cases cw1 : wdA T n s1.1 = 17
        · rw [if_pos cw1] at h
          have nx1 := nx_rng (T := T) hn (wd_lt (T := T) (n := n) (p := s1.1) (by omega)).1
          cases ht : gT T n (nxT T n s1.1, s1.2.1, []) with
          | inl e' => rw [ht] at h; cases h; have := gT_fb hn _ _ nx1.2.1 ht; omega
          | inr s2 => rw [ht] at h; cases h
        · rw [if_neg cw1] at h; cases h
  · rw [if_neg cw] at h; cases h; omega
def gRq (T : Nat → Int) (n f : Nat) (ru : Ru) (r : Sum Nat (Nat × Nat × Cl)) : Sum Nat Ru := match r with
  | .inl e => .inl e
  | .inr q => gRe T n f q.1 q.2.1 (ru ++ [q.2.2])
theorem gRu_s {T : Nat → Int} {n f p c : Nat} {ru : Ru} : gRu T n (f + 1) p c ru = gRq T n f ru (gRC T n ru.length p c) := by
  show gRn T n (gRu T n f) ru (gRC T n ru.length p c) = gRq T n f ru (gRC T n ru.length p c)
  generalize gRC T n ru.length p c = r
  cases r with
  | inl e => rfl
  | inr q => rfl
def frR (t : Nat) (R R' : Md) : Prop := (∀ j, (j = 0 ∨ (1 < j ∧ j < 8) ∨ j = 11 ∨ 16 < j) → mS R' j = mS R j) ∧ (∀ j, (j < 3 ∨ (6 < j ∧ j < 15) ∨ 15 < j) → mA R' j = mA R j) ∧ (∀ i, (i < 400 * t ∨ 400 * t + 400 ≤ i) → mA R' 3 i = mA R 3 i) ∧ (∀ i, i ≠ t → mA R' 4 i = mA R 4 i ∧ mA R' 6 i = mA R 6 i) ∧ ∀ i, (i < 48 * t ∨ 48 * t + 48 ≤ i) → mA R' 5 i = mA R 5 i
theorem frR_L {t : Nat} {R R' : Md} (h : frL t R R') : frR t R R' := ⟨fun j q => h.1 j (by omega), h.2⟩
theorem frR_t {t : Nat} {R R' R'' : Md} (h : frR t R R') (h' : frR t R' R'') : frR t R R'' := ⟨fun j q => (h'.1 j q).trans (h.1 j q), fun j q => (h'.2.1 j q).trans (h.2.1 j q), fun j q => (h'.2.2.1 j q).trans (h.2.2.1 j q), fun j q => ⟨((h'.2.2.2.1 j q).1).trans (h.2.2.2.1 j q).1, ((h'.2.2.2.1 j q).2).trans (h.2.2.2.1 j q).2⟩, fun j q => (h'.2.2.2.2 j q).trans (h.2.2.2.2 j q)⟩
theorem frR_1 {t : Nat} {R : Md} {v : Int} : frR t R (sS R 1 v) := ⟨fun i q => mS_So (by omega), fun _ _ => rfl, fun _ _ => rfl, fun _ _ => ⟨rfl, rfl⟩, fun _ _ => rfl⟩
/-- the model behind some clauses -/
def rQ (R0 R : Md) (T : Nat → Int) (n t p c : Nat) (ru : Ru) : Prop := rP R T n t (p, c, flR ru) ∧ mS R 14 = (ru.length : Nat) ∧ mA R 6 t = (ru.length : Nat) ∧ ru.length ≤ 12 ∧ ixA (mA R 5) 0 (48 * t) ru ∧ (∀ x, x ∈ ru → clOK x) ∧ pcR ru ≤ c ∧ c ≤ 60 ∧ (flR ru).length ≤ p ∧ frL t R0 R
theorem see_m1 {T : Nat → Int} {n p : Nat} (hT : ∀ i, i < n → 0 ≤ T i) (h : seeF T n p = -1) : n ≤ p := by
  apply Classical.byContradiction
  intro c
  unfold seeF at h
  rw [if_pos (by omega)] at h
  have := hT p (by omega)
  omega
theorem see_rng {T : Nat → Int} {n p : Nat} (hT : ∀ i, i < n → 0 ≤ T i ∧ T i ≤ 255) : -1 ≤ seeF T n p ∧ seeF T n p ≤ 255 := by
  unfold seeF
  split
  · rename_i h
    have := hT p h
    omega
  · omega
theorem see_en2 {T : Nat → Int} {n p : Nat} (h : seeF T n p = 59) : p < n ∧ enT T n p = p + 1 := by
  have hp : p < n := by
    apply Classical.byContradiction
    intro c
    unfold seeF at h
    rw [if_neg c] at h
    omega
  unfold seeF at h
  rw [if_pos hp] at h
  have hk := kd_mk (T := T) hp (by omega) (by omega)
  rw [en_mk hk, tw_no (by omega)]
  exact ⟨hp, rfl⟩
section XS90
variable {D b k p q n t c v : Nat} {f g : Nat → xk_C} {w : Nat × Nat × Nat} {K : Option Value → xk_S → Prop} {R R0 : Md} {x y z : Int} {T : Nat → Int} {s : Ps} {cs : List St} {ru : Ru}
theorem rQ_8 (h : rQ R0 R T n t p c ru) {q p' : Nat} (hq : q ≤ n) (e : skT T n q = p') (hpp : p ≤ p') : rQ R0 (sS R 8 (q : Nat)) T n t p' c ru := by
  obtain ⟨h1, h2, h3, h4, h5, h6, h7, h8, h9, h10⟩ := h
  exact ⟨rP_8 h1 hq e, by rw [mS_So (by decide)]; exact h2, h3, h4, h5, h6, h7, h8, by omega, frL_t h10 (frL_S (by omega))⟩
theorem rQ_up (hn : n ≤ 400) (h : rQ R0 R T n t p c ru) {R' : Md} {q : Nat × Nat × Cl} (hg : gRC T n ru.length p c = .inr q) (f' : frL t R R') (p' : rP R' T n t (q.1, q.2.1, flR ru ++ clF q.2.2)) (h14 : mS R' 14 = (ru.length + 1 : Nat)) (h6 : mA R' 6 t = (ru.length + 1 : Nat)) (i' : ixR (mA R' 5) (48 * t + 4 * ru.length) (flR ru).length ((flR ru).length + q.2.2.1.length) q.2.2.2.isSome ((flR ru).length + (clF q.2.2).length)) (j' : ∀ i, (i < 48 * t + 4 * ru.length ∨ 48 * t + 4 * ru.length + 4 ≤ i) → mA R' 5 i = mA R 5 i) : rQ R0 R' T n t q.1 q.2.1 (ru ++ [q.2.2]) := by
  obtain ⟨h1, h2, h3, h4, h5, h7, h8, h9, h10, h11⟩ := h
  have hl : (ru ++ [q.2.2]).length = ru.length + 1 := List.length_append
  unfold gRC at hg
  by_cases cw : wdA T n p = 16
  · rw [if_pos cw] at hg
    by_cases c12 : ru.length = 12
    · rw [if_pos c12] at hg; cases hg
    · rw [if_neg c12] at hg
      have nx := nx_rng (T := T) hn (wd_lt (T := T) (n := n) (p := p) (by omega)).1
      obtain ⟨k1, k2, k3, k4, k5, k6, k7⟩ := gCl_ok hn hg
      refine ⟨by rw [flR_snoc]; exact p', by rw [hl]; exact h14, by rw [hl]; exact h6, by rw [hl]; omega, ?_, ?_, ?_, k3 h9, ?_, frL_t h11 f'⟩
      · refine ixA_snoc (ixA_ext (fun j a1 a2 => j' j (by omega)) h5) ?_
        rw [Nat.zero_add]
        exact i'
      · intro x hx
        rcases List.mem_append.mp hx with hx | hx
        · exact h7 x hx
        · rw [List.mem_singleton.mp hx]; exact k1
      · rw [pcR_snoc]; omega
      · rw [flR_snoc, List.length_append]; omega
  · rw [if_neg cw] at hg; cases hg
theorem u_loopR (hD : 13 ≤ D) (hT : ∀ i, i < n → 0 ≤ T i ∧ T i ≤ 255) {l0 : Value} (hl0 : l0 = .ref b) : ∀ (fu : Nat) (ru : Ru) (p c : Nat) (R : Md), ru.length + fu = 13 → rQ R0 R T n t p c ru → (∀ ru', gRe T n fu p c ru = .inr ru' → ∀ R', frL t R0 R' → mS R' 9 = 0 → mA R' 6 t = (ru'.length : Nat) → ru'.length ≤ 12 → rCl R' t 0 ru' → ruOK ru' → K (some (.int (xj 1))) (xm f b (sS R' 1 0), w)) → (∀ e : Nat, gRe T n fu p c ru = .inl e → ∀ R', frL t R0 R' → mS R' 9 = (e : Nat) → 1 ≤ e → e ≤ 4000 → K (some (.int (xj 0))) (xm f b (sS R' 1 0), w)) → xk_B D 180 35 [l0, .int (xj 1)] [] (xm f b R, w) K := by
  subst hl0
  intro fu
  induction fu with
  | zero => intro ru p c R h1 h2; have := h2.2.2.2.1; omega
  | succ fu ih =>
    intro ru p c R h1 h2 hok hno
    have hn := h2.1.1.2.1
    have ha : atP T n p := rP_at h2.1
    have hs := at_sk hn ha
    obtain ⟨q0, h8, hq0, hs0⟩ := h2.1.2.2.2.2.1
    have hs0 : skT T n q0 = p := hs0
    have hTR := h2.1.1
    have h3 := rQ_8 h2 ha.1 hs (Nat.le_refl _)
    have h9 : mS R 9 = 0 := h2.1.2.2.2.1
    have h9p : mS (sS R 8 (p : Nat)) 9 = 0 := by rw [mS_So (by decide)]; exact h9
    have sr := see_rng (n := n) (p := p) hT
    unfold gRe at hok hno
    by_cases c59 : seeF T n p = 59
    · rw [if_pos c59] at hok hno
      obtain ⟨hp, hen⟩ := see_en2 c59
      have hnx : skT T n (p + 1) = nxT T n p := by unfold nxT; rw [hen]
      have nx := nx_rng (T := T) hn hp
      have h4 := rQ_8 h3 (q := p + 1) (by omega) hnx (by omega)
      rw [sS_S] at h4
      have ep : ((p : Nat) : Int) + 1 = ((p + 1 : Nat) : Int) := by omega
      simp (disch := omega) only [b180_35, b180_36, b180_39, b180_40, b180_43, b180_45, b180_48, b180_49, b180_50, b180_53, b180_54, b180_55, b180_58, ↓gm_0, ↓gm_1, ↓gm_2, ↓gm_3, ↓gm_4, ↓gm_5, ↓gm_6, ↓gm_7, ↓gm_8, ↓gm_9, ↓gm_10, ↓gm_11, ↓gm_12, ↓gm_13, ↓gm_14, ↓gm_15, ↓gm_16, ↓gm_17, ↓gm_18, ↓gm_19, ↓gm_20, ↓gm_21, ↓gm_22, ↓gm_23, ↓gm_24, ↓gm_25, ↓gm_26, ↓gm_27, ↓gm_28, ↓gm_29, ↓gm_30, ↓gm_31, ↓gm_32, ↓gm_33, ↓gm_34, ↓gm_35, ↓gm_36, ↓gm_37, ↓gm_38, ↓gm_39, ↓gm_40, ↓gm_41, ↓gm_42, ↓gm_43, ↓gm_44, ↓gm_45, ↓gm_46, ↓pm_1, ↓pm_2, ↓pm_8, ↓pm_9, ↓pm_10, ↓pm_11, ↓pm_12, ↓pm_13, ↓pm_14, ↓pm_16, ↓pm_18, ↓pm_21, ↓pm_22, ↓pm_23, ↓pm_24, ↓pm_25, ↓pm_26, ↓pm_28, ↓pm_31, ↓pm_35, ↓pm_36, ↓pm_37, ↓pm_38, ↓pm_40, ↓pm_43, ↓am_0, ↓wm_0, ↓am_3, ↓wm_3, ↓am_4, ↓wm_4, ↓am_5, ↓wm_5, ↓am_6, ↓wm_6, ↓am_7, ↓wm_7, ↓am_15, ↓wm_15, ↓am_17, ↓wm_17, ↓am_19, ↓wm_19, ↓am_20, ↓wm_20, ↓am_27, ↓wm_27, ↓am_29, ↓wm_29, ↓am_30, ↓wm_30, ↓am_32, ↓wm_32, ↓am_33, ↓wm_33, ↓am_34, ↓wm_34, ↓am_39, ↓wm_39, ↓am_41, ↓wm_41, ↓am_42, ↓wm_42, ↓am_44, ↓wm_44, ↓am_45, ↓wm_45, ↓am_46, ↓wm_46, ↓wn_0, ↓wn_46, or_false, false_or, rc_M, List.getElem?_cons_zero, List.getElem?_cons_succ, List.length_cons, List.length_nil, List.set_cons_zero, List.set_cons_succ, true_and, and_true, Option.toList_some, Option.toList_none, List.cons_append, List.nil_append, ↓reduceIte, not_false_eq_true, not_true_eq_false, Nat.reduceAdd, xj0_01, xj1_01, xb_B, xb_True, xb_False, ↓xj_in, xj_nat, Int.toNat_natCast, xj_lt_t, xj_lt_f, xj_le_t, xj_le_f, xj_eq_t, xj_eq_f, xj_lt, xj_le, xj_eq, xj_add, xj_sub, xj_mul, show ¬ xj 1 = xj 0 from by decide, tn_add, tn_mul, tn_sub, Int.toNat_natCast, Int.reduceToNat, mS_S, mS_So, mS_A, mS_J, mA_A, mA_Ao, mA_S, mA_J, mJ_J, mJ_Jo, mJ_S, mJ_A, sS_S, sA_A, sS_A, sS_J, sJ_A, m_see _ hTR h8 hq0, hs0, c59, ep]
      rw [b180_59, rc_M, true_and]
      have hgu : gRu T n (fu + 1) (nxT T n p) c ru = gRq T n fu ru (gRC T n ru.length (nxT T n p) c) := gRu_s
      rw [hgu] at hok hno
      refine u_clauseR (by omega) h4.1 h4.2.1 h4.2.2.1 h4.2.2.2.1 h4.2.2.2.2.2.2.2.2.1 (fun q hg R' f' p' m14 m6 i' j' => ?_) (fun e hg R' f' m9 => ?_)
      · rw [hg] at hok hno
        have h5 := rQ_up hn h4 hg f' p' m14 m6 i' j'
        simp (disch := omega) only [b180_62, b180_63, List.getElem?_cons_zero, List.getElem?_cons_succ, List.length_cons, List.length_nil, List.set_cons_zero, List.set_cons_succ, true_and, and_true, Option.toList_some, Option.toList_none, List.cons_append, List.nil_append, ↓reduceIte, not_false_eq_true, not_true_eq_false, Nat.reduceAdd, xj0_01, xj1_01, xb_B, xb_True, xb_False, ↓xj_in, xj_nat, Int.toNat_natCast, xj_lt_t, xj_lt_f, xj_le_t, xj_le_f, xj_eq_t, xj_eq_f, xj_lt, xj_le, xj_eq, xj_add, xj_sub, xj_mul, show ¬ xj 1 = xj 0 from by decide]
        exact ih _ _ _ R' (by rw [List.length_append]; show ru.length + 1 + fu = 13; omega) h5 hok hno
      · rw [hg] at hno
        have hb := gRC_fb hn nx.2.1 hg
        have fr := frL_t h4.2.2.2.2.2.2.2.2.2 f'
        have po := hno e rfl R' fr m9 (by omega) (by omega)
        simp (disch := omega) only [b180_62, b180_63, b180_35, b180_36, b180_66, b180_67, b180_70, b180_71, b180_74, b180_75, b180_78, b180_79, b180_80, b180_81, b180_84, b180_87, b180_88, b180_89, b180_90, b180_93, b180_94, b180_97, b180_100, b180_101, b180_104, b180_105, b180_105o, b180_105z, b180_105c, ↓gm_0, ↓gm_1, ↓gm_2, ↓gm_3, ↓gm_4, ↓gm_5, ↓gm_6, ↓gm_7, ↓gm_8, ↓gm_9, ↓gm_10, ↓gm_11, ↓gm_12, ↓gm_13, ↓gm_14, ↓gm_15, ↓gm_16, ↓gm_17, ↓gm_18, ↓gm_19, ↓gm_20, ↓gm_21, ↓gm_22, ↓gm_23, ↓gm_24, ↓gm_25, ↓gm_26, ↓gm_27, ↓gm_28, ↓gm_29, ↓gm_30, ↓gm_31, ↓gm_32, ↓gm_33, ↓gm_34, ↓gm_35, ↓gm_36, ↓gm_37, ↓gm_38, ↓gm_39, ↓gm_40, ↓gm_41, ↓gm_42, ↓gm_43, ↓gm_44, ↓gm_45, ↓gm_46, ↓pm_1, ↓pm_2, ↓pm_8, ↓pm_9, ↓pm_10, ↓pm_11, ↓pm_12, ↓pm_13, ↓pm_14, ↓pm_16, ↓pm_18, ↓pm_21, ↓pm_22, ↓pm_23, ↓pm_24, ↓pm_25, ↓pm_26, ↓pm_28, ↓pm_31, ↓pm_35, ↓pm_36, ↓pm_37, ↓pm_38, ↓pm_40, ↓pm_43, ↓am_0, ↓wm_0, ↓am_3, ↓wm_3, ↓am_4, ↓wm_4, ↓am_5, ↓wm_5, ↓am_6, ↓wm_6, ↓am_7, ↓wm_7, ↓am_15, ↓wm_15, ↓am_17, ↓wm_17, ↓am_19, ↓wm_19, ↓am_20, ↓wm_20, ↓am_27, ↓wm_27, ↓am_29, ↓wm_29, ↓am_30, ↓wm_30, ↓am_32, ↓wm_32, ↓am_33, ↓wm_33, ↓am_34, ↓wm_34, ↓am_39, ↓wm_39, ↓am_41, ↓wm_41, ↓am_42, ↓wm_42, ↓am_44, ↓wm_44, ↓am_45, ↓wm_45, ↓am_46, ↓wm_46, ↓wn_0, ↓wn_46, or_false, false_or, rc_M, List.getElem?_cons_zero, List.getElem?_cons_succ, List.length_cons, List.length_nil, List.set_cons_zero, List.set_cons_succ, true_and, and_true, Option.toList_some, Option.toList_none, List.cons_append, List.nil_append, ↓reduceIte, not_false_eq_true, not_true_eq_false, Nat.reduceAdd, xj0_01, xj1_01, xb_B, xb_True, xb_False, ↓xj_in, xj_nat, Int.toNat_natCast, xj_lt_t, xj_lt_f, xj_le_t, xj_le_f, xj_eq_t, xj_eq_f, xj_lt, xj_le, xj_eq, xj_add, xj_sub, xj_mul, show ¬ xj 1 = xj 0 from by decide, tn_add, tn_mul, tn_sub, Int.toNat_natCast, Int.reduceToNat, mS_S, mS_So, mS_A, mS_J, mA_A, mA_Ao, mA_S, mA_J, mJ_J, mJ_Jo, mJ_S, mJ_A, sS_S, sA_A, sS_A, sS_J, sJ_A, m9]
        exact po
    · rw [if_neg c59] at hok hno
      have e8 : mS (sS R 8 (p : Nat)) 8 = (p : Nat) := mS_S
      have see2 := fun (K' : Option Value → xk_S → Prop) => m_see (D := D) (K := K') (f := f) (b := b) (w := w) (by omega) h3.1.1 e8 ha.1
      simp only [hs, sS_S] at see2
      by_cases c1 : seeF T n p = -1
      · rw [if_pos c1] at hok
        have po := hok ru rfl (sS R 8 (p : Nat)) h3.2.2.2.2.2.2.2.2.2 (by rw [mS_So (by decide)]; exact h9) h3.2.2.1 h3.2.2.2.1 (rCl_of (bg := 0) (c := 0) h3.2.2.2.2.1 h3.1.2.2.2.2.2.2.2.2.2 (by rw [Nat.zero_add]; exact h3.1.2.2.2.2.2.2.2.2.1)) ⟨h3.2.2.2.2.2.1, by have := h3.2.2.2.2.2.2.1; have := h3.2.2.2.2.2.2.2.1; omega⟩
        simp (disch := omega) only [b180_35, b180_36, b180_39, b180_40, b180_43, b180_45, b180_66, b180_67, b180_70, b180_71, b180_74, b180_75, b180_78, b180_79, b180_80, b180_81, b180_84, b180_87, b180_88, b180_89, b180_90, b180_93, b180_94, b180_97, b180_100, b180_101, b180_104, b180_105, b180_105o, b180_105z, b180_105c, ↓gm_0, ↓gm_1, ↓gm_2, ↓gm_3, ↓gm_4, ↓gm_5, ↓gm_6, ↓gm_7, ↓gm_8, ↓gm_9, ↓gm_10, ↓gm_11, ↓gm_12, ↓gm_13, ↓gm_14, ↓gm_15, ↓gm_16, ↓gm_17, ↓gm_18, ↓gm_19, ↓gm_20, ↓gm_21, ↓gm_22, ↓gm_23, ↓gm_24, ↓gm_25, ↓gm_26, ↓gm_27, ↓gm_28, ↓gm_29, ↓gm_30, ↓gm_31, ↓gm_32, ↓gm_33, ↓gm_34, ↓gm_35, ↓gm_36, ↓gm_37, ↓gm_38, ↓gm_39, ↓gm_40, ↓gm_41, ↓gm_42, ↓gm_43, ↓gm_44, ↓gm_45, ↓gm_46, ↓pm_1, ↓pm_2, ↓pm_8, ↓pm_9, ↓pm_10, ↓pm_11, ↓pm_12, ↓pm_13, ↓pm_14, ↓pm_16, ↓pm_18, ↓pm_21, ↓pm_22, ↓pm_23, ↓pm_24, ↓pm_25, ↓pm_26, ↓pm_28, ↓pm_31, ↓pm_35, ↓pm_36, ↓pm_37, ↓pm_38, ↓pm_40, ↓pm_43, ↓am_0, ↓wm_0, ↓am_3, ↓wm_3, ↓am_4, ↓wm_4, ↓am_5, ↓wm_5, ↓am_6, ↓wm_6, ↓am_7, ↓wm_7, ↓am_15, ↓wm_15, ↓am_17, ↓wm_17, ↓am_19, ↓wm_19, ↓am_20, ↓wm_20, ↓am_27, ↓wm_27, ↓am_29, ↓wm_29, ↓am_30, ↓wm_30, ↓am_32, ↓wm_32, ↓am_33, ↓wm_33, ↓am_34, ↓wm_34, ↓am_39, ↓wm_39, ↓am_41, ↓wm_41, ↓am_42, ↓wm_42, ↓am_44, ↓wm_44, ↓am_45, ↓wm_45, ↓am_46, ↓wm_46, ↓wn_0, ↓wn_46, or_false, false_or, rc_M, List.getElem?_cons_zero, List.getElem?_cons_succ, List.length_cons, List.length_nil, List.set_cons_zero, List.set_cons_succ, true_and, and_true, Option.toList_some, Option.toList_none, List.cons_append, List.nil_append, ↓reduceIte, not_false_eq_true, not_true_eq_false, Nat.reduceAdd, xj0_01, xj1_01, xb_B, xb_True, xb_False, ↓xj_in, xj_nat, Int.toNat_natCast, xj_lt_t, xj_lt_f, xj_le_t, xj_le_f, xj_eq_t, xj_eq_f, xj_lt, xj_le, xj_eq, xj_add, xj_sub, xj_mul, show ¬ xj 1 = xj 0 from by decide, tn_add, tn_mul, tn_sub, Int.toNat_natCast, Int.reduceToNat, mS_S, mS_So, mS_A, mS_J, mA_A, mA_Ao, mA_S, mA_J, mJ_J, mJ_Jo, mJ_S, mJ_A, sS_S, sA_A, sS_A, sS_J, sJ_A, m_see _ hTR h8 hq0, hs0, c1, see2, h9]
        exact po
      · rw [if_neg c1] at hno
        have po := hno _ rfl (sS (sS R 8 (p : Nat)) 9 (1 + 8 * p + 0)) (frL_t h3.2.2.2.2.2.2.2.2.2 (frL_S (by omega))) (by rw [mS_S]; omega) (by omega) (by have := ha.1; omega)
        have hpn := ha.1
        simp (disch := omega) only [b180_35, b180_36, b180_39, b180_40, b180_43, b180_45, b180_66, b180_67, b180_70, b180_71, b180_74, b180_75, b180_78, b180_79, b180_80, b180_81, b180_84, b180_87, b180_88, b180_89, b180_90, b180_93, b180_94, b180_97, b180_100, b180_101, b180_104, b180_105, b180_105o, b180_105z, b180_105c, ↓gm_0, ↓gm_1, ↓gm_2, ↓gm_3, ↓gm_4, ↓gm_5, ↓gm_6, ↓gm_7, ↓gm_8, ↓gm_9, ↓gm_10, ↓gm_11, ↓gm_12, ↓gm_13, ↓gm_14, ↓gm_15, ↓gm_16, ↓gm_17, ↓gm_18, ↓gm_19, ↓gm_20, ↓gm_21, ↓gm_22, ↓gm_23, ↓gm_24, ↓gm_25, ↓gm_26, ↓gm_27, ↓gm_28, ↓gm_29, ↓gm_30, ↓gm_31, ↓gm_32, ↓gm_33, ↓gm_34, ↓gm_35, ↓gm_36, ↓gm_37, ↓gm_38, ↓gm_39, ↓gm_40, ↓gm_41, ↓gm_42, ↓gm_43, ↓gm_44, ↓gm_45, ↓gm_46, ↓pm_1, ↓pm_2, ↓pm_8, ↓pm_9, ↓pm_10, ↓pm_11, ↓pm_12, ↓pm_13, ↓pm_14, ↓pm_16, ↓pm_18, ↓pm_21, ↓pm_22, ↓pm_23, ↓pm_24, ↓pm_25, ↓pm_26, ↓pm_28, ↓pm_31, ↓pm_35, ↓pm_36, ↓pm_37, ↓pm_38, ↓pm_40, ↓pm_43, ↓am_0, ↓wm_0, ↓am_3, ↓wm_3, ↓am_4, ↓wm_4, ↓am_5, ↓wm_5, ↓am_6, ↓wm_6, ↓am_7, ↓wm_7, ↓am_15, ↓wm_15, ↓am_17, ↓wm_17, ↓am_19, ↓wm_19, ↓am_20, ↓wm_20, ↓am_27, ↓wm_27, ↓am_29, ↓wm_29, ↓am_30, ↓wm_30, ↓am_32, ↓wm_32, ↓am_33, ↓wm_33, ↓am_34, ↓wm_34, ↓am_39, ↓wm_39, ↓am_41, ↓wm_41, ↓am_42, ↓wm_42, ↓am_44, ↓wm_44, ↓am_45, ↓wm_45, ↓am_46, ↓wm_46, ↓wn_0, ↓wn_46, or_false, false_or, rc_M, List.getElem?_cons_zero, List.getElem?_cons_succ, List.length_cons, List.length_nil, List.set_cons_zero, List.set_cons_succ, true_and, and_true, Option.toList_some, Option.toList_none, List.cons_append, List.nil_append, ↓reduceIte, not_false_eq_true, not_true_eq_false, Nat.reduceAdd, xj0_01, xj1_01, xb_B, xb_True, xb_False, ↓xj_in, xj_nat, Int.toNat_natCast, xj_lt_t, xj_lt_f, xj_le_t, xj_le_f, xj_eq_t, xj_eq_f, xj_lt, xj_le, xj_eq, xj_add, xj_sub, xj_mul, show ¬ xj 1 = xj 0 from by decide, tn_add, tn_mul, tn_sub, Int.toNat_natCast, Int.reduceToNat, mS_S, mS_So, mS_A, mS_J, mA_A, mA_Ao, mA_S, mA_J, mJ_J, mJ_Jo, mJ_S, mJ_A, sS_S, sA_A, sS_A, sS_J, sJ_A, m_see _ hTR h8 hq0, hs0, see2, m_fails _ h9p]
        exact po
theorem u_readsR (hD : 14 ≤ D) (hT : rT R T n) (ht : t < 6) (h11 : mS R 11 = (t : Nat)) (h6 : mA R 6 t = 0) (hok : ∀ ru', gRu T n 13 (skT T n 0) 0 [] = .inr ru' → ∀ R', frL t R R' → mS R' 9 = 0 → mA R' 6 t = (ru'.length : Nat) → ru'.length ≤ 12 → rCl R' t 0 ru' → ruOK ru' → K (some (.int (xj 1))) (xm f b (sS R' 1 0), w)) (hno : ∀ e : Nat, gRu T n 13 (skT T n 0) 0 [] = .inl e → ∀ R', frL t R R' → mS R' 9 = (e : Nat) → 1 ≤ e → e ≤ 4000 → K (some (.int (xj 0))) (xm f b (sS R' 1 0), w)) : xk_Cl D 180 [.ref b] (xm f b R, w) K := by
  rw [e180 (by omega)]
  have hn := hT.2.1
  have hT2 : ∀ i, i < n → 0 ≤ T i ∧ T i ≤ 255 := fun i hi => (hT.2.2 i hi).2
  have h4 : rQ R (sS (sS (sS (sS (sA R 4 (upI (mA R 4) t 0)) 14 0) 8 0) 9 0) 12 0) T n t (skT T n 0) 0 [] := by
    refine ⟨⟨hT, ht, h11, rfl, ⟨0, rfl, Nat.zero_le _, rfl⟩, rfl, Nat.zero_le _, ?_, Nat.zero_le _, trivial⟩, rfl, h6, Nat.zero_le _, trivial, fun x hx => absurd hx List.not_mem_nil, Nat.le_refl _, Nat.zero_le _, Nat.zero_le _, ?_⟩
    · show mA (sA R 4 (upI (mA R 4) t 0)) 4 t = 0
      rw [mA_A, up_e]
    · have a1 : frL t R (sA R 4 (upI (mA R 4) t 0)) := ⟨fun _ _ => rfl, fun j q => mA_Ao (by omega), fun _ _ => rfl, fun j q => ⟨by rw [mA_A, up_n q], rfl⟩, fun _ _ => rfl⟩
      exact frL_t a1 (frL_t (frL_S (by omega)) (frL_t (frL_S (by omega)) (frL_t (frL_S (by omega)) (frL_S (by omega)))))
  have hgu : gRu T n 13 (skT T n 0) 0 [] = gRq T n 12 [] (gRC T n 0 (skT T n 0) 0) := gRu_s
  rw [hgu] at hok hno
  simp (disch := omega) only [b180_0, b180_1, b180_4, b180_5, b180_8, b180_9, b180_10, b180_11, b180_12, b180_15, b180_16, b180_17, b180_20, b180_21, b180_22, b180_25, b180_26, b180_27, b180_30, ↓gm_0, ↓gm_1, ↓gm_2, ↓gm_3, ↓gm_4, ↓gm_5, ↓gm_6, ↓gm_7, ↓gm_8, ↓gm_9, ↓gm_10, ↓gm_11, ↓gm_12, ↓gm_13, ↓gm_14, ↓gm_15, ↓gm_16, ↓gm_17, ↓gm_18, ↓gm_19, ↓gm_20, ↓gm_21, ↓gm_22, ↓gm_23, ↓gm_24, ↓gm_25, ↓gm_26, ↓gm_27, ↓gm_28, ↓gm_29, ↓gm_30, ↓gm_31, ↓gm_32, ↓gm_33, ↓gm_34, ↓gm_35, ↓gm_36, ↓gm_37, ↓gm_38, ↓gm_39, ↓gm_40, ↓gm_41, ↓gm_42, ↓gm_43, ↓gm_44, ↓gm_45, ↓gm_46, ↓pm_1, ↓pm_2, ↓pm_8, ↓pm_9, ↓pm_10, ↓pm_11, ↓pm_12, ↓pm_13, ↓pm_14, ↓pm_16, ↓pm_18, ↓pm_21, ↓pm_22, ↓pm_23, ↓pm_24, ↓pm_25, ↓pm_26, ↓pm_28, ↓pm_31, ↓pm_35, ↓pm_36, ↓pm_37, ↓pm_38, ↓pm_40, ↓pm_43, ↓am_0, ↓wm_0, ↓am_3, ↓wm_3, ↓am_4, ↓wm_4, ↓am_5, ↓wm_5, ↓am_6, ↓wm_6, ↓am_7, ↓wm_7, ↓am_15, ↓wm_15, ↓am_17, ↓wm_17, ↓am_19, ↓wm_19, ↓am_20, ↓wm_20, ↓am_27, ↓wm_27, ↓am_29, ↓wm_29, ↓am_30, ↓wm_30, ↓am_32, ↓wm_32, ↓am_33, ↓wm_33, ↓am_34, ↓wm_34, ↓am_39, ↓wm_39, ↓am_41, ↓wm_41, ↓am_42, ↓wm_42, ↓am_44, ↓wm_44, ↓am_45, ↓wm_45, ↓am_46, ↓wm_46, ↓wn_0, ↓wn_46, or_false, false_or, rc_M, List.getElem?_cons_zero, List.getElem?_cons_succ, List.length_cons, List.length_nil, List.set_cons_zero, List.set_cons_succ, true_and, and_true, Option.toList_some, Option.toList_none, List.cons_append, List.nil_append, ↓reduceIte, not_false_eq_true, not_true_eq_false, Nat.reduceAdd, xj0_01, xj1_01, xb_B, xb_True, xb_False, ↓xj_in, xj_nat, Int.toNat_natCast, xj_lt_t, xj_lt_f, xj_le_t, xj_le_f, xj_eq_t, xj_eq_f, xj_lt, xj_le, xj_eq, xj_add, xj_sub, xj_mul, show ¬ xj 1 = xj 0 from by decide, tn_add, tn_mul, tn_sub, Int.toNat_natCast, Int.reduceToNat, mS_S, mS_So, mS_A, mS_J, mA_A, mA_Ao, mA_S, mA_J, mJ_J, mJ_Jo, mJ_S, mJ_A, sS_S, sA_A, sS_A, sS_J, sJ_A, h11]
  rw [b180_31, rc_M, true_and]
  refine u_clauseR (by omega) h4.1 h4.2.1 h4.2.2.1 h4.2.2.2.1 h4.2.2.2.2.2.2.2.2.1 (fun q hg R' f' p' m14 m6 i' j' => ?_) (fun e hg R' f' m9 => ?_)
  · have hg : gRC T n 0 (skT T n 0) 0 = .inr q := hg
    rw [hg] at hok hno
    have h5 := rQ_up hn h4 hg f' p' m14 m6 i' j'
    simp (disch := omega) only [b180_34, List.getElem?_cons_zero, List.getElem?_cons_succ, List.length_cons, List.length_nil, List.set_cons_zero, List.set_cons_succ, true_and, and_true, Option.toList_some, Option.toList_none, List.cons_append, List.nil_append, ↓reduceIte, not_false_eq_true, not_true_eq_false, Nat.reduceAdd, xj0_01, xj1_01, xb_B, xb_True, xb_False, ↓xj_in, xj_nat, Int.toNat_natCast, xj_lt_t, xj_lt_f, xj_le_t, xj_le_f, xj_eq_t, xj_eq_f, xj_lt, xj_le, xj_eq, xj_add, xj_sub, xj_mul, show ¬ xj 1 = xj 0 from by decide]
    exact u_loopR (by omega) hT2 rfl 12 _ _ _ R' rfl h5 hok hno
  · have hg : gRC T n 0 (skT T n 0) 0 = .inl e := hg
    rw [hg] at hno
    have hb := gRC_fb hn (sk_rng (T := T) (n := n) (p := 0) (Nat.zero_le _)).2 hg
    have fr := frL_t h4.2.2.2.2.2.2.2.2.2 f'
    have po := hno e rfl R' fr m9 (by omega) (by omega)
    simp (disch := omega) only [b180_34, b180_35, b180_36, b180_66, b180_67, b180_70, b180_71, b180_74, b180_75, b180_78, b180_79, b180_80, b180_81, b180_84, b180_87, b180_88, b180_89, b180_90, b180_93, b180_94, b180_97, b180_100, b180_101, b180_104, b180_105, b180_105o, b180_105z, b180_105c, ↓gm_0, ↓gm_1, ↓gm_2, ↓gm_3, ↓gm_4, ↓gm_5, ↓gm_6, ↓gm_7, ↓gm_8, ↓gm_9, ↓gm_10, ↓gm_11, ↓gm_12, ↓gm_13, ↓gm_14, ↓gm_15, ↓gm_16, ↓gm_17, ↓gm_18, ↓gm_19, ↓gm_20, ↓gm_21, ↓gm_22, ↓gm_23, ↓gm_24, ↓gm_25, ↓gm_26, ↓gm_27, ↓gm_28, ↓gm_29, ↓gm_30, ↓gm_31, ↓gm_32, ↓gm_33, ↓gm_34, ↓gm_35, ↓gm_36, ↓gm_37, ↓gm_38, ↓gm_39, ↓gm_40, ↓gm_41, ↓gm_42, ↓gm_43, ↓gm_44, ↓gm_45, ↓gm_46, ↓pm_1, ↓pm_2, ↓pm_8, ↓pm_9, ↓pm_10, ↓pm_11, ↓pm_12, ↓pm_13, ↓pm_14, ↓pm_16, ↓pm_18, ↓pm_21, ↓pm_22, ↓pm_23, ↓pm_24, ↓pm_25, ↓pm_26, ↓pm_28, ↓pm_31, ↓pm_35, ↓pm_36, ↓pm_37, ↓pm_38, ↓pm_40, ↓pm_43, ↓am_0, ↓wm_0, ↓am_3, ↓wm_3, ↓am_4, ↓wm_4, ↓am_5, ↓wm_5, ↓am_6, ↓wm_6, ↓am_7, ↓wm_7, ↓am_15, ↓wm_15, ↓am_17, ↓wm_17, ↓am_19, ↓wm_19, ↓am_20, ↓wm_20, ↓am_27, ↓wm_27, ↓am_29, ↓wm_29, ↓am_30, ↓wm_30, ↓am_32, ↓wm_32, ↓am_33, ↓wm_33, ↓am_34, ↓wm_34, ↓am_39, ↓wm_39, ↓am_41, ↓wm_41, ↓am_42, ↓wm_42, ↓am_44, ↓wm_44, ↓am_45, ↓wm_45, ↓am_46, ↓wm_46, ↓wn_0, ↓wn_46, or_false, false_or, rc_M, List.getElem?_cons_zero, List.getElem?_cons_succ, List.length_cons, List.length_nil, List.set_cons_zero, List.set_cons_succ, true_and, and_true, Option.toList_some, Option.toList_none, List.cons_append, List.nil_append, ↓reduceIte, not_false_eq_true, not_true_eq_false, Nat.reduceAdd, xj0_01, xj1_01, xb_B, xb_True, xb_False, ↓xj_in, xj_nat, Int.toNat_natCast, xj_lt_t, xj_lt_f, xj_le_t, xj_le_f, xj_eq_t, xj_eq_f, xj_lt, xj_le, xj_eq, xj_add, xj_sub, xj_mul, show ¬ xj 1 = xj 0 from by decide, tn_add, tn_mul, tn_sub, Int.toNat_natCast, Int.reduceToNat, mS_S, mS_So, mS_A, mS_J, mA_A, mA_Ao, mA_S, mA_J, mJ_J, mJ_Jo, mJ_S, mJ_A, sS_S, sA_A, sS_A, sS_J, sJ_A, m9]
    exact po
end XS90
