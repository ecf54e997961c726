/-! the model reads numbers, values, sums -/
theorem gVal_rm {T : Nat → Int} {n : Nat} {s s' : Ps} (hn : n ≤ 400) (h : gVal T n s = .inr s') : s.1 < s'.1 ∧ s'.1 ≤ n ∧ atP T n s'.1 ∧ s'.2.2.length + s.1 ≤ s.2.2.length + s'.1 := by
  unfold gVal at h
  have key : kdT T n s.1 ≠ 0 → ∀ (md : Nat) (c : St), (s' = (nxT T n s.1, md, s.2.2 ++ [c])) → s.1 < s'.1 ∧ s'.1 ≤ n ∧ atP T n s'.1 ∧ s'.2.2.length + s.1 ≤ s.2.2.length + s'.1 := by
    intro hk md c e
    obtain ⟨h1, h2, h3⟩ := nx_rng (T := T) hn (kd_lt hk)
    subst e
    refine ⟨h1, h2, h3, ?_⟩
    show (s.2.2 ++ [c]).length + s.1 ≤ s.2.2.length + nxT T n s.1
    rw [List.length_append]
    show s.2.2.length + 1 + s.1 ≤ _
    omega
  split at h
  · rename_i hk
    split at h
    · cases h
    · split at h
      · cases h
      · cases h; exact key (by omega) _ _ rfl
  · split at h
    · rename_i hk
      split at h
      · cases h
      · cases h; exact key (by omega) _ _ rfl
    · cases h
theorem bd_inr {r : Pr} {k : Ps → Pr} {s' : Ps} (h : bdP r k = .inr s') : ∃ s1, r = .inr s1 ∧ k s1 = .inr s' := by
  cases r with
  | inl e => cases h
  | inr s1 => exact ⟨s1, rfl, h⟩
def rmP (T : Nat → Int) (n : Nat) (s s' : Ps) : Prop := s.1 ≤ s'.1 ∧ s'.1 ≤ n ∧ atP T n s'.1 ∧ s'.2.2.length + s.1 ≤ s.2.2.length + s'.1
theorem rmP_t {T : Nat → Int} {n : Nat} {s s1 s2 : Ps} (h : rmP T n s s1) (h' : rmP T n s1 s2) : rmP T n s s2 := ⟨by have := h.1; have := h'.1; omega, h'.2.1, h'.2.2.1, by have := h.2.2.2; have := h'.2.2.2; omega⟩
theorem opM_kd {T : Nat → Int} {n p : Nat} (h : opM T n p ≠ 0) : p < n := by
  refine kd_lt (T := T) (fun q => h ?_)
  unfold opM
  rw [q]; rfl
theorem opS_kd {T : Nat → Int} {n p : Nat} (h : opS T n p ≠ 0) : p < n := by
  refine kd_lt (T := T) (fun q => h ?_)
  unfold opS
  rw [q]; rfl
theorem opC_kd {T : Nat → Int} {n p : Nat} (h : opC T n p ≠ 0) : p < n := by
  refine kd_lt (T := T) (fun q => h ?_)
  unfold opC
  rw [q]; rfl
theorem tm_rm {T : Nat → Int} {n : Nat} (hn : n ≤ 400) : ∀ f (s s' : Ps), atP T n s.1 → tmF T n f s = .inr s' → rmP T n s s' := by
  intro f
  induction f with
  | zero => intro s s' ha h; cases h; exact ⟨Nat.le_refl _, ha.1, ha, Nat.le_refl _⟩
  | succ f ih =>
    intro s s' ha h
    unfold tmF at h
    split at h
    · cases h; exact ⟨Nat.le_refl _, ha.1, ha, Nat.le_refl _⟩
    · rename_i hop
      obtain ⟨s1, h1, h2⟩ := bd_inr h
      obtain ⟨n1, n2, n3⟩ := nx_rng (T := T) hn (opM_kd hop)
      obtain ⟨g1, g2, g3, g4⟩ := gVal_rm hn h1
      have g1 : nxT T n s.1 < s1.1 := g1
      have g4 : s1.2.2.length + nxT T n s.1 ≤ s.2.2.length + s1.1 := g4
      obtain ⟨i1, i2, i3, i4⟩ := ih (s1.1, s1.2.1, s1.2.2 ++ [(opM T n s.1, 0)]) s' g3 h2
      have i1 : s1.1 ≤ s'.1 := i1
      have i4 : s'.2.2.length + s1.1 ≤ (s1.2.2 ++ [(opM T n s.1, 0)]).length + s'.1 := i4
      rw [List.length_append] at i4
      have i4 : s'.2.2.length + s1.1 ≤ s1.2.2.length + 1 + s'.1 := i4
      exact ⟨by omega, i2, i3, by omega⟩
theorem gTerm_rm {T : Nat → Int} {n : Nat} {s s' : Ps} (hn : n ≤ 400) (h : gTerm T n s = .inr s') : rmP T n s s' ∧ s.1 < s'.1 := by
  obtain ⟨s1, h1, h2⟩ := bd_inr h
  obtain ⟨g1, g2, g3, g4⟩ := gVal_rm hn h1
  have h3 := tm_rm hn 401 _ _ g3 h2
  exact ⟨rmP_t ⟨by omega, g2, g3, g4⟩ h3, by have := h3.1; omega⟩
theorem su_rm {T : Nat → Int} {n : Nat} (hn : n ≤ 400) : ∀ f (s s' : Ps), atP T n s.1 → suF T n f s = .inr s' → rmP T n s s' := by
  intro f
  induction f with
  | zero => intro s s' ha h; cases h; exact ⟨Nat.le_refl _, ha.1, ha, Nat.le_refl _⟩
  | succ f ih =>
    intro s s' ha h
    unfold suF at h
    split at h
    · cases h; exact ⟨Nat.le_refl _, ha.1, ha, Nat.le_refl _⟩
    · rename_i hop
      obtain ⟨s1, h1, h2⟩ := bd_inr h
      obtain ⟨n1, n2, n3⟩ := nx_rng (T := T) hn (opS_kd hop)
      obtain ⟨⟨g1, g2, g3, g4⟩, g5⟩ := gTerm_rm hn h1
      have g5 : nxT T n s.1 < s1.1 := g5
      have g4 : s1.2.2.length + nxT T n s.1 ≤ s.2.2.length + s1.1 := g4
      obtain ⟨i1, i2, i3, i4⟩ := ih (s1.1, s1.2.1, s1.2.2 ++ [(opS T n s.1, 0)]) s' g3 h2
      have i1 : s1.1 ≤ s'.1 := i1
      have i4 : s'.2.2.length + s1.1 ≤ (s1.2.2 ++ [(opS T n s.1, 0)]).length + s'.1 := i4
      rw [List.length_append] at i4
      have i4 : s'.2.2.length + s1.1 ≤ s1.2.2.length + 1 + s'.1 := i4
      exact ⟨by omega, i2, i3, by omega⟩
theorem gSum_rm {T : Nat → Int} {n : Nat} {s s' : Ps} (hn : n ≤ 400) (h : gSum T n s = .inr s') : rmP T n s s' ∧ s.1 < s'.1 := by
  obtain ⟨s1, h1, h2⟩ := bd_inr h
  obtain ⟨g1, g2⟩ := gTerm_rm hn h1
  have h3 := su_rm hn 401 _ _ g1.2.2.1 h2
  exact ⟨rmP_t g1 h3, by have := h3.1; omega⟩
theorem nv_rng {T : Nat → Int} {n p : Nat} : ∀ m, m ≤ 5 → (∀ i, i < m → dgB T n (p + i) = true) → 0 ≤ nvF T p m ∧ nvF T p m < 10 ^ m := by
  intro m
  induction m with
  | zero => intro _ _; exact ⟨Int.le_refl _, by show (0 : Int) < 1; decide⟩
  | succ m ih =>
    intro h5 h
    have i1 := ih (by omega) (fun i hi => h i (by omega))
    have h2 := of_decide_eq_true (h m (by omega))
    have e : nvF T p (m + 1) = 10 * nvF T p m + T (p + m) - 48 := by show (if m < 5 then _ else _) = _; rw [if_pos (by omega)]
    have e2 : (10 : Int) ^ (m + 1) = 10 ^ m * 10 := Int.pow_succ 10 m
    rw [e, e2]
    omega
theorem nv_rng2 {T : Nat → Int} {n p : Nat} : ∀ m, (∀ i, i < m → dgB T n (p + i) = true) → 0 ≤ nvF T p m ∧ nvF T p m ≤ 99999 := by
  intro m
  induction m with
  | zero => intro _; exact ⟨Int.le_refl _, by show (0 : Int) ≤ 99999; decide⟩
  | succ m ih =>
    intro h
    by_cases c : m < 5
    · have h1 := nv_rng (m + 1) (by omega) h
      have e5 : (10 : Int) ^ (m + 1) ≤ 10 ^ 5 := by
        have hm : m = 0 ∨ m = 1 ∨ m = 2 ∨ m = 3 ∨ m = 4 := by omega
        rcases hm with rfl | rfl | rfl | rfl | rfl <;> decide
      have e6 : (10 : Int) ^ 5 = 100000 := by decide
      omega
    · have e : nvF T p (m + 1) = nvF T p m := by show (if m < 5 then _ else _) = _; rw [if_neg c]
      rw [e]
      exact ih (fun i hi => h i (by omega))
def nmB (T : Nat → Int) (n p : Nat) (lo hi : Int) : Bool := decide (dgE T n p - p ≤ 5 ∧ lo ≤ nvF T p (dgE T n p - p) ∧ nvF T p (dgE T n p - p) ≤ hi)
section XS74
variable {D b k p q n t c v : Nat} {f g : Nat → xk_C} {w : Nat × Nat × Nat} {K : Option Value → xk_S → Prop} {R : Md} {x y z : Int} {T : Nat → Int} {s : Ps}
theorem m_number_no (hD : 2 ≤ D) (hT : rT R T n) (h9 : mS R 9 = 0) (h8 : mS R 8 = (q : Nat)) (hq : q ≤ n) (hd : dgB T n (skT T n q) = false) : xk_Cl D 155 [.ref b, .int (xj x), .int (xj y)] (xm f b R, w) K ↔ K (some (.int (xj 0))) (xm f b (sS (sS R 8 (skT T n q : Nat)) 9 (1 + 8 * (skT T n q : Nat))), w) := by
  rw [e155 (by omega)]
  have hs := sk_rng (T := T) hq
  have hn := hT.2.1
  have h8' : mS (sS R 8 (skT T n q : Nat)) 8 = (skT T n q : Nat) := mS_S
  have h9' : mS (sS R 8 (skT T n q : Nat)) 9 = 0 := (mS_So (by decide)).trans h9
  have hT' : rT (sS R 8 (skT T n q : Nat)) T n := hT
  simp (disch := omega) only [b155_0, b155_1, b155_4, b155_5, b155_6, b155_7, b155_10, b155_13, b155_16, b155_17, b155_18, b155_19, b155_22, b155_25, b155_25o, b155_25z, b155_25c, ↓gm_0, ↓gm_1, ↓gm_2, ↓gm_3, ↓gm_4, ↓gm_5, ↓gm_6, ↓gm_7, ↓gm_8, ↓gm_9, ↓gm_10, ↓gm_11, ↓gm_12, ↓gm_13, ↓gm_14, ↓gm_15, ↓gm_16, ↓gm_17, ↓gm_18, ↓gm_19, ↓gm_20, ↓gm_21, ↓gm_22, ↓gm_23, ↓gm_24, ↓gm_25, ↓gm_26, ↓gm_27, ↓gm_28, ↓gm_29, ↓gm_30, ↓gm_31, ↓gm_32, ↓gm_33, ↓gm_34, ↓gm_35, ↓gm_36, ↓gm_37, ↓gm_38, ↓gm_39, ↓gm_40, ↓gm_41, ↓gm_42, ↓gm_43, ↓gm_44, ↓gm_45, ↓gm_46, ↓pm_1, ↓pm_2, ↓pm_8, ↓pm_9, ↓pm_10, ↓pm_11, ↓pm_12, ↓pm_13, ↓pm_14, ↓pm_16, ↓pm_18, ↓pm_21, ↓pm_22, ↓pm_23, ↓pm_24, ↓pm_25, ↓pm_26, ↓pm_28, ↓pm_31, ↓pm_35, ↓pm_36, ↓pm_37, ↓pm_38, ↓pm_40, ↓pm_43, ↓am_0, ↓wm_0, ↓am_3, ↓wm_3, ↓am_4, ↓wm_4, ↓am_5, ↓wm_5, ↓am_6, ↓wm_6, ↓am_7, ↓wm_7, ↓am_15, ↓wm_15, ↓am_17, ↓wm_17, ↓am_19, ↓wm_19, ↓am_20, ↓wm_20, ↓am_27, ↓wm_27, ↓am_29, ↓wm_29, ↓am_30, ↓wm_30, ↓am_32, ↓wm_32, ↓am_33, ↓wm_33, ↓am_34, ↓wm_34, ↓am_39, ↓wm_39, ↓am_41, ↓wm_41, ↓am_42, ↓wm_42, ↓am_44, ↓wm_44, ↓am_45, ↓wm_45, ↓am_46, ↓wm_46, ↓wn_0, ↓wn_46, or_false, false_or, rc_M, List.getElem?_cons_zero, List.getElem?_cons_succ, List.length_cons, List.length_nil, List.set_cons_zero, List.set_cons_succ, true_and, and_true, Option.toList_some, Option.toList_none, List.cons_append, List.nil_append, ↓reduceIte, not_false_eq_true, not_true_eq_false, Nat.reduceAdd, xj0_01, xj1_01, xb_B, xb_True, xb_False, ↓xj_in, xj_nat, Int.toNat_natCast, xj_lt_t, xj_lt_f, xj_le_t, xj_le_f, xj_eq_t, xj_eq_f, xj_lt, xj_le, xj_eq, xj_add, xj_sub, xj_mul, show ¬ xj 1 = xj 0 from by decide, tn_add, tn_mul, tn_sub, Int.toNat_natCast, Int.reduceToNat, m_see _ hT h8, h8', m_isDigit _ hT', hd, Bool.false_eq_true, xb_F, m_fails, h9', Int.add_zero]
theorem m_number (hD : 2 ≤ D) (hT : rT R T n) (h9 : mS R 9 = 0) (h8 : mS R 8 = (q : Nat)) (hq : q ≤ n) (hd : dgB T n (skT T n q) = true) (x1 : -2147483648 ≤ x) (x2 : x ≤ 2147483647) (y1 : -2147483648 ≤ y) (y2 : y ≤ 2147483647) : xk_Cl D 155 [.ref b, .int (xj x), .int (xj y)] (xm f b R, w) K ↔ K (some (.int (xb (nmB T n (skT T n q) x y = true)))) (xm f b (if nmB T n (skT T n q) x y = true then sS (sS R 8 (dgE T n (skT T n q) : Nat)) 10 (nvF T (skT T n q) (dgE T n (skT T n q) - skT T n q)) else sS (sS (sS R 8 (dgE T n (skT T n q) : Nat)) 9 (1 + 8 * (skT T n q : Nat) + 1)) 10 (nvF T (skT T n q) (dgE T n (skT T n q) - skT T n q))), w) := by
  rw [e155 (by omega)]
  have hs := sk_rng (T := T) hq
  have hn := hT.2.1
  have h8' : mS (sS R 8 (skT T n q : Nat)) 8 = (skT T n q : Nat) := mS_S
  have hT' : rT (sS R 8 (skT T n q : Nat)) T n := hT
  have hl := (run_rng (T := T) hs.2).1
  simp (disch := omega) only [b155_0, b155_1, b155_4, b155_5, b155_6, b155_7, b155_10, b155_13, b155_16, b155_17, b155_18, b155_19, b155_22, b155_25, b155_26, b155_27, b155_30, b155_31, b155_32, b155_25o, b155_25z, b155_25c, ↓gm_0, ↓gm_1, ↓gm_2, ↓gm_3, ↓gm_4, ↓gm_5, ↓gm_6, ↓gm_7, ↓gm_8, ↓gm_9, ↓gm_10, ↓gm_11, ↓gm_12, ↓gm_13, ↓gm_14, ↓gm_15, ↓gm_16, ↓gm_17, ↓gm_18, ↓gm_19, ↓gm_20, ↓gm_21, ↓gm_22, ↓gm_23, ↓gm_24, ↓gm_25, ↓gm_26, ↓gm_27, ↓gm_28, ↓gm_29, ↓gm_30, ↓gm_31, ↓gm_32, ↓gm_33, ↓gm_34, ↓gm_35, ↓gm_36, ↓gm_37, ↓gm_38, ↓gm_39, ↓gm_40, ↓gm_41, ↓gm_42, ↓gm_43, ↓gm_44, ↓gm_45, ↓gm_46, ↓pm_1, ↓pm_2, ↓pm_8, ↓pm_9, ↓pm_10, ↓pm_11, ↓pm_12, ↓pm_13, ↓pm_14, ↓pm_16, ↓pm_18, ↓pm_21, ↓pm_22, ↓pm_23, ↓pm_24, ↓pm_25, ↓pm_26, ↓pm_28, ↓pm_31, ↓pm_35, ↓pm_36, ↓pm_37, ↓pm_38, ↓pm_40, ↓pm_43, ↓am_0, ↓wm_0, ↓am_3, ↓wm_3, ↓am_4, ↓wm_4, ↓am_5, ↓wm_5, ↓am_6, ↓wm_6, ↓am_7, ↓wm_7, ↓am_15, ↓wm_15, ↓am_17, ↓wm_17, ↓am_19, ↓wm_19, ↓am_20, ↓wm_20, ↓am_27, ↓wm_27, ↓am_29, ↓wm_29, ↓am_30, ↓wm_30, ↓am_32, ↓wm_32, ↓am_33, ↓wm_33, ↓am_34, ↓wm_34, ↓am_39, ↓wm_39, ↓am_41, ↓wm_41, ↓am_42, ↓wm_42, ↓am_44, ↓wm_44, ↓am_45, ↓wm_45, ↓am_46, ↓wm_46, ↓wn_0, ↓wn_46, or_false, false_or, rc_M, List.getElem?_cons_zero, List.getElem?_cons_succ, List.length_cons, List.length_nil, List.set_cons_zero, List.set_cons_succ, true_and, and_true, Option.toList_some, Option.toList_none, List.cons_append, List.nil_append, ↓reduceIte, not_false_eq_true, not_true_eq_false, Nat.reduceAdd, xj0_01, xj1_01, xb_B, xb_True, xb_False, ↓xj_in, xj_nat, Int.toNat_natCast, xj_lt_t, xj_lt_f, xj_le_t, xj_le_f, xj_eq_t, xj_eq_f, xj_lt, xj_le, xj_eq, xj_add, xj_sub, xj_mul, show ¬ xj 1 = xj 0 from by decide, tn_add, tn_mul, tn_sub, Int.toNat_natCast, Int.reduceToNat, m_see _ hT h8, h8', m_isDigit _ hT', hd, xb_T]
  unfold nmB
  generalize skT T n q = p at *
  have hall : ∀ i, i < dgE T n p - p → dgB T n (p + i) = true := fun i hi => reF_all (dgB T n) 400 p (p + i) (by omega) (by show p + i < dgE T n p; omega)
  have hend : dgB T n (dgE T n p) = false := reF_end dgB_n 400 p (by omega)
  generalize hm : dgE T n p - p = m at *
  have he : dgE T n p = p + m := by omega
  rw [he] at hend ⊢
  have key := xk_down (J := Unit) (n := m) (P := fun r _ => xk_B (D - 1) 155 34 [.ref b, .int (xj x), .int (xj y), .int (xj p), .int (xj (nvF T p r))] [] (xm f b (sS R 8 (p + r : Nat)), w) K) (Q := K (some (.int (xb (decide (m ≤ 5 ∧ x ≤ nvF T p m ∧ nvF T p m ≤ y) = true)))) (xm f b (if decide (m ≤ 5 ∧ x ≤ nvF T p m ∧ nvF T p m ≤ y) = true then sS (sS R 8 (p + m : Nat)) 10 (nvF T p m) else sS (sS (sS R 8 (p + m : Nat)) 9 (1 + 8 * (p : Nat) + 1)) 10 (nvF T p m)), w)) (fun j => ?_) (fun r hr ih j => ?_) 0 (Nat.zero_le _) ()
  · exact key
  · have hv := nv_rng2 (T := T) (n := n) (p := p) m hall
    have h8e : mS (sS R 8 (p + m : Nat)) 8 = (p + m : Nat) := mS_S
    have h9e : mS (sS (sS R 8 (p + m : Nat)) 10 (nvF T p m)) 9 = 0 := by rw [mS_So (by decide), mS_So (by decide), h9]
    have hTe : rT (sS R 8 (p + m : Nat)) T n := hT
    have em : ((p + m : Nat) : Int) - (p : Int) = m := by omega
    by_cases c1 : m ≤ 5
    · by_cases c2 : x ≤ nvF T p m ∧ nvF T p m ≤ y
      · rw [decide_eq_true (show m ≤ 5 ∧ x ≤ nvF T p m ∧ nvF T p m ≤ y from ⟨c1, c2⟩), if_pos rfl, xb_T rfl]
        simp (disch := omega) only [b155_34, b155_35, b155_36, b155_39, b155_42, b155_88, b155_89, b155_91, b155_94, b155_95, b155_98, b155_99, b155_100, b155_101, b155_104, b155_106, b155_107, b155_108, b155_109, b155_110, b155_111, b155_114, b155_117, b155_118, b155_119, b155_120, b155_123, b155_126, b155_127, b155_130, b155_131, b155_131o, b155_131z, b155_131c, ↓gm_0, ↓gm_1, ↓gm_2, ↓gm_3, ↓gm_4, ↓gm_5, ↓gm_6, ↓gm_7, ↓gm_8, ↓gm_9, ↓gm_10, ↓gm_11, ↓gm_12, ↓gm_13, ↓gm_14, ↓gm_15, ↓gm_16, ↓gm_17, ↓gm_18, ↓gm_19, ↓gm_20, ↓gm_21, ↓gm_22, ↓gm_23, ↓gm_24, ↓gm_25, ↓gm_26, ↓gm_27, ↓gm_28, ↓gm_29, ↓gm_30, ↓gm_31, ↓gm_32, ↓gm_33, ↓gm_34, ↓gm_35, ↓gm_36, ↓gm_37, ↓gm_38, ↓gm_39, ↓gm_40, ↓gm_41, ↓gm_42, ↓gm_43, ↓gm_44, ↓gm_45, ↓gm_46, ↓pm_1, ↓pm_2, ↓pm_8, ↓pm_9, ↓pm_10, ↓pm_11, ↓pm_12, ↓pm_13, ↓pm_14, ↓pm_16, ↓pm_18, ↓pm_21, ↓pm_22, ↓pm_23, ↓pm_24, ↓pm_25, ↓pm_26, ↓pm_28, ↓pm_31, ↓pm_35, ↓pm_36, ↓pm_37, ↓pm_38, ↓pm_40, ↓pm_43, ↓am_0, ↓wm_0, ↓am_3, ↓wm_3, ↓am_4, ↓wm_4, ↓am_5, ↓wm_5, ↓am_6, ↓wm_6, ↓am_7, ↓wm_7, ↓am_15, ↓wm_15, ↓am_17, ↓wm_17, ↓am_19, ↓wm_19, ↓am_20, ↓wm_20, ↓am_27, ↓wm_27, ↓am_29, ↓wm_29, ↓am_30, ↓wm_30, ↓am_32, ↓wm_32, ↓am_33, ↓wm_33, ↓am_34, ↓wm_34, ↓am_39, ↓wm_39, ↓am_41, ↓wm_41, ↓am_42, ↓wm_42, ↓am_44, ↓wm_44, ↓am_45, ↓wm_45, ↓am_46, ↓wm_46, ↓wn_0, ↓wn_46, or_false, false_or, rc_M, List.getElem?_cons_zero, List.getElem?_cons_succ, List.length_cons, List.length_nil, List.set_cons_zero, List.set_cons_succ, true_and, and_true, Option.toList_some, Option.toList_none, List.cons_append, List.nil_append, ↓reduceIte, not_false_eq_true, not_true_eq_false, Nat.reduceAdd, xj0_01, xj1_01, xb_B, xb_True, xb_False, ↓xj_in, xj_nat, Int.toNat_natCast, xj_lt_t, xj_lt_f, xj_le_t, xj_le_f, xj_eq_t, xj_eq_f, xj_lt, xj_le, xj_eq, xj_add, xj_sub, xj_mul, show ¬ xj 1 = xj 0 from by decide, tn_add, tn_mul, tn_sub, Int.toNat_natCast, Int.reduceToNat, mS_S, mS_So, mS_A, mS_J, mA_A, mA_Ao, mA_S, mA_J, mJ_J, mJ_Jo, mJ_S, mJ_A, sS_S, sA_A, sS_A, sS_J, sJ_A, h8e, m_isDigit _ hTe, hend, Bool.false_eq_true, xb_F, em, jx_i2l, m_in, c2, and_self, xb_T]
      · rw [decide_eq_false (show ¬ (m ≤ 5 ∧ x ≤ nvF T p m ∧ nvF T p m ≤ y) from fun q => c2 q.2), if_neg (by decide), xb_F (by decide)]
        simp (disch := omega) only [b155_34, b155_35, b155_36, b155_39, b155_42, b155_88, b155_89, b155_91, b155_94, b155_95, b155_98, b155_99, b155_100, b155_101, b155_104, b155_106, b155_107, b155_108, b155_109, b155_110, b155_111, b155_114, b155_117, b155_118, b155_119, b155_120, b155_123, b155_126, b155_127, b155_130, b155_131, b155_131o, b155_131z, b155_131c, ↓gm_0, ↓gm_1, ↓gm_2, ↓gm_3, ↓gm_4, ↓gm_5, ↓gm_6, ↓gm_7, ↓gm_8, ↓gm_9, ↓gm_10, ↓gm_11, ↓gm_12, ↓gm_13, ↓gm_14, ↓gm_15, ↓gm_16, ↓gm_17, ↓gm_18, ↓gm_19, ↓gm_20, ↓gm_21, ↓gm_22, ↓gm_23, ↓gm_24, ↓gm_25, ↓gm_26, ↓gm_27, ↓gm_28, ↓gm_29, ↓gm_30, ↓gm_31, ↓gm_32, ↓gm_33, ↓gm_34, ↓gm_35, ↓gm_36, ↓gm_37, ↓gm_38, ↓gm_39, ↓gm_40, ↓gm_41, ↓gm_42, ↓gm_43, ↓gm_44, ↓gm_45, ↓gm_46, ↓pm_1, ↓pm_2, ↓pm_8, ↓pm_9, ↓pm_10, ↓pm_11, ↓pm_12, ↓pm_13, ↓pm_14, ↓pm_16, ↓pm_18, ↓pm_21, ↓pm_22, ↓pm_23, ↓pm_24, ↓pm_25, ↓pm_26, ↓pm_28, ↓pm_31, ↓pm_35, ↓pm_36, ↓pm_37, ↓pm_38, ↓pm_40, ↓pm_43, ↓am_0, ↓wm_0, ↓am_3, ↓wm_3, ↓am_4, ↓wm_4, ↓am_5, ↓wm_5, ↓am_6, ↓wm_6, ↓am_7, ↓wm_7, ↓am_15, ↓wm_15, ↓am_17, ↓wm_17, ↓am_19, ↓wm_19, ↓am_20, ↓wm_20, ↓am_27, ↓wm_27, ↓am_29, ↓wm_29, ↓am_30, ↓wm_30, ↓am_32, ↓wm_32, ↓am_33, ↓wm_33, ↓am_34, ↓wm_34, ↓am_39, ↓wm_39, ↓am_41, ↓wm_41, ↓am_42, ↓wm_42, ↓am_44, ↓wm_44, ↓am_45, ↓wm_45, ↓am_46, ↓wm_46, ↓wn_0, ↓wn_46, or_false, false_or, rc_M, List.getElem?_cons_zero, List.getElem?_cons_succ, List.length_cons, List.length_nil, List.set_cons_zero, List.set_cons_succ, true_and, and_true, Option.toList_some, Option.toList_none, List.cons_append, List.nil_append, ↓reduceIte, not_false_eq_true, not_true_eq_false, Nat.reduceAdd, xj0_01, xj1_01, xb_B, xb_True, xb_False, ↓xj_in, xj_nat, Int.toNat_natCast, xj_lt_t, xj_lt_f, xj_le_t, xj_le_f, xj_eq_t, xj_eq_f, xj_lt, xj_le, xj_eq, xj_add, xj_sub, xj_mul, show ¬ xj 1 = xj 0 from by decide, tn_add, tn_mul, tn_sub, Int.toNat_natCast, Int.reduceToNat, mS_S, mS_So, mS_A, mS_J, mA_A, mA_Ao, mA_S, mA_J, mJ_J, mJ_Jo, mJ_S, mJ_A, sS_S, sA_A, sS_A, sS_J, sJ_A, sS_c, sA_c, h8e, m_isDigit _ hTe, hend, Bool.false_eq_true, xb_F, em, jx_i2l, m_in, c2, m_fails, h9]
    · rw [decide_eq_false (show ¬ (m ≤ 5 ∧ x ≤ nvF T p m ∧ nvF T p m ≤ y) from fun q => c1 q.1), if_neg (by decide), xb_F (by decide)]
      simp (disch := omega) only [b155_34, b155_35, b155_36, b155_39, b155_42, b155_88, b155_89, b155_91, b155_94, b155_95, b155_98, b155_99, b155_100, b155_101, b155_104, b155_106, b155_107, b155_108, b155_109, b155_110, b155_111, b155_114, b155_117, b155_118, b155_119, b155_120, b155_123, b155_126, b155_127, b155_130, b155_131, b155_131o, b155_131z, b155_131c, ↓gm_0, ↓gm_1, ↓gm_2, ↓gm_3, ↓gm_4, ↓gm_5, ↓gm_6, ↓gm_7, ↓gm_8, ↓gm_9, ↓gm_10, ↓gm_11, ↓gm_12, ↓gm_13, ↓gm_14, ↓gm_15, ↓gm_16, ↓gm_17, ↓gm_18, ↓gm_19, ↓gm_20, ↓gm_21, ↓gm_22, ↓gm_23, ↓gm_24, ↓gm_25, ↓gm_26, ↓gm_27, ↓gm_28, ↓gm_29, ↓gm_30, ↓gm_31, ↓gm_32, ↓gm_33, ↓gm_34, ↓gm_35, ↓gm_36, ↓gm_37, ↓gm_38, ↓gm_39, ↓gm_40, ↓gm_41, ↓gm_42, ↓gm_43, ↓gm_44, ↓gm_45, ↓gm_46, ↓pm_1, ↓pm_2, ↓pm_8, ↓pm_9, ↓pm_10, ↓pm_11, ↓pm_12, ↓pm_13, ↓pm_14, ↓pm_16, ↓pm_18, ↓pm_21, ↓pm_22, ↓pm_23, ↓pm_24, ↓pm_25, ↓pm_26, ↓pm_28, ↓pm_31, ↓pm_35, ↓pm_36, ↓pm_37, ↓pm_38, ↓pm_40, ↓pm_43, ↓am_0, ↓wm_0, ↓am_3, ↓wm_3, ↓am_4, ↓wm_4, ↓am_5, ↓wm_5, ↓am_6, ↓wm_6, ↓am_7, ↓wm_7, ↓am_15, ↓wm_15, ↓am_17, ↓wm_17, ↓am_19, ↓wm_19, ↓am_20, ↓wm_20, ↓am_27, ↓wm_27, ↓am_29, ↓wm_29, ↓am_30, ↓wm_30, ↓am_32, ↓wm_32, ↓am_33, ↓wm_33, ↓am_34, ↓wm_34, ↓am_39, ↓wm_39, ↓am_41, ↓wm_41, ↓am_42, ↓wm_42, ↓am_44, ↓wm_44, ↓am_45, ↓wm_45, ↓am_46, ↓wm_46, ↓wn_0, ↓wn_46, or_false, false_or, rc_M, List.getElem?_cons_zero, List.getElem?_cons_succ, List.length_cons, List.length_nil, List.set_cons_zero, List.set_cons_succ, true_and, and_true, Option.toList_some, Option.toList_none, List.cons_append, List.nil_append, ↓reduceIte, not_false_eq_true, not_true_eq_false, Nat.reduceAdd, xj0_01, xj1_01, xb_B, xb_True, xb_False, ↓xj_in, xj_nat, Int.toNat_natCast, xj_lt_t, xj_lt_f, xj_le_t, xj_le_f, xj_eq_t, xj_eq_f, xj_lt, xj_le, xj_eq, xj_add, xj_sub, xj_mul, show ¬ xj 1 = xj 0 from by decide, tn_add, tn_mul, tn_sub, Int.toNat_natCast, Int.reduceToNat, mS_S, mS_So, mS_A, mS_J, mA_A, mA_Ao, mA_S, mA_J, mJ_J, mJ_Jo, mJ_S, mJ_A, sS_S, sA_A, sS_A, sS_J, sJ_A, sS_c, sA_c, h8e, m_isDigit _ hTe, hend, Bool.false_eq_true, xb_F, em, m_fails, h9]
  · have hdr := hall r hr
    have hd2 := of_decide_eq_true hdr
    obtain ⟨t0, t1, t2⟩ := hT.2.2 (p + r) hd2.1
    have ttb : tb (T (p + r)) = T (p + r) := by unfold tb; rw [if_pos (by omega)]
    rw [ttb] at t0
    have t0' : mA (sS R 8 (p + r : Nat)) 0 (p + r) = T (p + r) := t0
    have h8e : mS (sS R 8 (p + r : Nat)) 8 = (p + r : Nat) := mS_S
    have hTe : rT (sS R 8 (p + r : Nat)) T n := hT
    have em : ((p + r : Nat) : Int) - (p : Int) = r := by omega
    have ew : nvF T p (r + 1) = if r < 5 then 10 * nvF T p r + T (p + r) - 48 else nvF T p r := rfl
    rw [b155_34, ← ih (), ew]
    generalize hpr : p + r = pr at *
    have e1 : p + (r + 1) = pr + 1 := by omega
    rw [e1]
    by_cases c : r < 5
    · rw [if_pos c]
      simp (disch := omega) only [b155_35, b155_36, b155_39, b155_42, b155_45, b155_46, b155_49, b155_50, b155_51, b155_52, b155_55, b155_57, b155_59, b155_60, b155_61, b155_64, b155_65, b155_68, b155_69, b155_70, b155_72, b155_73, b155_75, b155_76, b155_77, b155_80, b155_81, b155_82, b155_85, ↓gm_0, ↓gm_1, ↓gm_2, ↓gm_3, ↓gm_4, ↓gm_5, ↓gm_6, ↓gm_7, ↓gm_8, ↓gm_9, ↓gm_10, ↓gm_11, ↓gm_12, ↓gm_13, ↓gm_14, ↓gm_15, ↓gm_16, ↓gm_17, ↓gm_18, ↓gm_19, ↓gm_20, ↓gm_21, ↓gm_22, ↓gm_23, ↓gm_24, ↓gm_25, ↓gm_26, ↓gm_27, ↓gm_28, ↓gm_29, ↓gm_30, ↓gm_31, ↓gm_32, ↓gm_33, ↓gm_34, ↓gm_35, ↓gm_36, ↓gm_37, ↓gm_38, ↓gm_39, ↓gm_40, ↓gm_41, ↓gm_42, ↓gm_43, ↓gm_44, ↓gm_45, ↓gm_46, ↓pm_1, ↓pm_2, ↓pm_8, ↓pm_9, ↓pm_10, ↓pm_11, ↓pm_12, ↓pm_13, ↓pm_14, ↓pm_16, ↓pm_18, ↓pm_21, ↓pm_22, ↓pm_23, ↓pm_24, ↓pm_25, ↓pm_26, ↓pm_28, ↓pm_31, ↓pm_35, ↓pm_36, ↓pm_37, ↓pm_38, ↓pm_40, ↓pm_43, ↓am_0, ↓wm_0, ↓am_3, ↓wm_3, ↓am_4, ↓wm_4, ↓am_5, ↓wm_5, ↓am_6, ↓wm_6, ↓am_7, ↓wm_7, ↓am_15, ↓wm_15, ↓am_17, ↓wm_17, ↓am_19, ↓wm_19, ↓am_20, ↓wm_20, ↓am_27, ↓wm_27, ↓am_29, ↓wm_29, ↓am_30, ↓wm_30, ↓am_32, ↓wm_32, ↓am_33, ↓wm_33, ↓am_34, ↓wm_34, ↓am_39, ↓wm_39, ↓am_41, ↓wm_41, ↓am_42, ↓wm_42, ↓am_44, ↓wm_44, ↓am_45, ↓wm_45, ↓am_46, ↓wm_46, ↓wn_0, ↓wn_46, or_false, false_or, rc_M, List.getElem?_cons_zero, List.getElem?_cons_succ, List.length_cons, List.length_nil, List.set_cons_zero, List.set_cons_succ, true_and, and_true, Option.toList_some, Option.toList_none, List.cons_append, List.nil_append, ↓reduceIte, not_false_eq_true, not_true_eq_false, Nat.reduceAdd, xj0_01, xj1_01, xb_B, xb_True, xb_False, ↓xj_in, xj_nat, Int.toNat_natCast, xj_lt_t, xj_lt_f, xj_le_t, xj_le_f, xj_eq_t, xj_eq_f, xj_lt, xj_le, xj_eq, xj_add, xj_sub, xj_mul, show ¬ xj 1 = xj 0 from by decide, tn_add, tn_mul, tn_sub, Int.toNat_natCast, Int.reduceToNat, mS_S, mS_So, mS_A, mS_J, mA_A, mA_Ao, mA_S, mA_J, mJ_J, mJ_Jo, mJ_S, mJ_A, sS_S, sA_A, sS_A, sS_J, sJ_A, h8e, m_isDigit _ hTe, hdr, xb_T, em, t0']
      rfl
    · rw [if_neg c]
      simp (disch := omega) only [b155_35, b155_36, b155_39, b155_42, b155_45, b155_46, b155_49, b155_50, b155_51, b155_52, b155_55, b155_57, b155_59, b155_60, b155_61, b155_64, b155_65, b155_68, b155_69, b155_70, b155_72, b155_73, b155_75, b155_76, b155_77, b155_80, b155_81, b155_82, b155_85, ↓gm_0, ↓gm_1, ↓gm_2, ↓gm_3, ↓gm_4, ↓gm_5, ↓gm_6, ↓gm_7, ↓gm_8, ↓gm_9, ↓gm_10, ↓gm_11, ↓gm_12, ↓gm_13, ↓gm_14, ↓gm_15, ↓gm_16, ↓gm_17, ↓gm_18, ↓gm_19, ↓gm_20, ↓gm_21, ↓gm_22, ↓gm_23, ↓gm_24, ↓gm_25, ↓gm_26, ↓gm_27, ↓gm_28, ↓gm_29, ↓gm_30, ↓gm_31, ↓gm_32, ↓gm_33, ↓gm_34, ↓gm_35, ↓gm_36, ↓gm_37, ↓gm_38, ↓gm_39, ↓gm_40, ↓gm_41, ↓gm_42, ↓gm_43, ↓gm_44, ↓gm_45, ↓gm_46, ↓pm_1, ↓pm_2, ↓pm_8, ↓pm_9, ↓pm_10, ↓pm_11, ↓pm_12, ↓pm_13, ↓pm_14, ↓pm_16, ↓pm_18, ↓pm_21, ↓pm_22, ↓pm_23, ↓pm_24, ↓pm_25, ↓pm_26, ↓pm_28, ↓pm_31, ↓pm_35, ↓pm_36, ↓pm_37, ↓pm_38, ↓pm_40, ↓pm_43, ↓am_0, ↓wm_0, ↓am_3, ↓wm_3, ↓am_4, ↓wm_4, ↓am_5, ↓wm_5, ↓am_6, ↓wm_6, ↓am_7, ↓wm_7, ↓am_15, ↓wm_15, ↓am_17, ↓wm_17, ↓am_19, ↓wm_19, ↓am_20, ↓wm_20, ↓am_27, ↓wm_27, ↓am_29, ↓wm_29, ↓am_30, ↓wm_30, ↓am_32, ↓wm_32, ↓am_33, ↓wm_33, ↓am_34, ↓wm_34, ↓am_39, ↓wm_39, ↓am_41, ↓wm_41, ↓am_42, ↓wm_42, ↓am_44, ↓wm_44, ↓am_45, ↓wm_45, ↓am_46, ↓wm_46, ↓wn_0, ↓wn_46, or_false, false_or, rc_M, List.getElem?_cons_zero, List.getElem?_cons_succ, List.length_cons, List.length_nil, List.set_cons_zero, List.set_cons_succ, true_and, and_true, Option.toList_some, Option.toList_none, List.cons_append, List.nil_append, ↓reduceIte, not_false_eq_true, not_true_eq_false, Nat.reduceAdd, xj0_01, xj1_01, xb_B, xb_True, xb_False, ↓xj_in, xj_nat, Int.toNat_natCast, xj_lt_t, xj_lt_f, xj_le_t, xj_le_f, xj_eq_t, xj_eq_f, xj_lt, xj_le, xj_eq, xj_add, xj_sub, xj_mul, show ¬ xj 1 = xj 0 from by decide, tn_add, tn_mul, tn_sub, Int.toNat_natCast, Int.reduceToNat, mS_S, mS_So, mS_A, mS_J, mA_A, mA_Ao, mA_S, mA_J, mJ_J, mJ_Jo, mJ_S, mJ_A, sS_S, sA_A, sS_A, sS_J, sJ_A, h8e, m_isDigit _ hTe, hdr, xb_T, em]
      rfl
end XS74
