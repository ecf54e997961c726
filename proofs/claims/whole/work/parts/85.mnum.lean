/-! the model reads an office: numbers, cells -/
abbrev Qr : Type := Sum Nat (Nat × (Nat → Int))
def gNum (T : Nat → Int) (n : Nat) (lo hi : Int) (p : Nat) : Sum Nat (Nat × Int) := if dgB T n p = true then (if nmB T n p lo hi = true then .inr (nxT T n p, nvF T p (dgE T n p - p)) else .inl (1 + 8 * p + 1)) else .inl (1 + 8 * p)
def bdN (r : Sum Nat (Nat × Int)) (k : Nat → Int → Qr) : Qr := match r with | .inl e => .inl e | .inr s => k s.1 s.2
def bdQ (r : Qr) (k : Nat → (Nat → Int) → Qr) : Qr := match r with | .inl e => .inl e | .inr s => k s.1 s.2
def gCell (T : Nat → Int) (n i : Nat) (lo hi : Int) (p : Nat) (A : Nat → Int) : Qr := bdN (gNum T n lo hi p) (fun p' v => .inr (p', upI A i v))
def rZ (R : Md) (T : Nat → Int) (n p : Nat) : Prop := rT R T n ∧ mS R 11 = 6 ∧ mS R 9 = 0 ∧ ∃ q : Nat, mS R 8 = q ∧ q ≤ n ∧ skT T n q = p
def frZ (R R' : Md) : Prop := (∀ j, (j < 8 ∨ 10 < j) → mS R' j = mS R j) ∧ (∀ j, j ≠ 7 → mA R' j = mA R j)
theorem frZ_t {R R' R'' : Md} (h : frZ R R') (h' : frZ R' R'') : frZ R R'' := ⟨fun j q => (h'.1 j q).trans (h.1 j q), fun j q => (h'.2 j q).trans (h.2 j q)⟩
theorem frZ_S {R : Md} {j : Nat} {v : Int} (h : 7 < j ∧ j < 11) : frZ R (sS R j v) := ⟨fun i q => mS_So (by omega), fun _ _ => rfl⟩
theorem frZ_7 {R : Md} {h : Nat → Int} : frZ R (sA R 7 h) := ⟨fun _ _ => rfl, fun _ q => mA_Ao q⟩
theorem rZ_8 {R : Md} {T : Nat → Int} {n p p' q : Nat} (h : rZ R T n p) (hq : q ≤ n) (e : skT T n q = p') : rZ (sS R 8 (q : Nat)) T n p' := ⟨h.1, h.2.1, h.2.2.1, q, mS_S, hq, e⟩
theorem rZ_at {R : Md} {T : Nat → Int} {n p : Nat} (h : rZ R T n p) : atP T n p := by
  obtain ⟨q, _, hq, e⟩ := h.2.2.2
  rw [← e]
  exact sk_at h.1.2.1 hq
theorem gNum_rm {T : Nat → Int} {n p p' : Nat} {lo hi v : Int} (hn : n ≤ 400) (h : gNum T n lo hi p = .inr (p', v)) : p < p' ∧ p' ≤ n ∧ atP T n p' ∧ lo ≤ v ∧ v ≤ hi ∧ 0 ≤ v ∧ v ≤ 99999 := by
  unfold gNum at h
  by_cases hd : dgB T n p = true
  · rw [if_pos hd] at h
    by_cases hm : nmB T n p lo hi = true
    · rw [if_pos hm] at h
      cases h
      have hk := kd_1 hd
      obtain ⟨h1, h2, h3⟩ := nx_rng (T := T) hn (kd_lt (T := T) (n := n) (p := p) (by omega))
      have hv := nv_rng2 (T := T) (n := n) (p := p) (dgE T n p - p) (fun i hi => reF_all (dgB T n) 400 p (p + i) (by omega) (by show p + i < dgE T n p; omega))
      have hm := of_decide_eq_true hm
      exact ⟨h1, h2, h3, hm.2.1, hm.2.2, hv.1, hv.2⟩
    · rw [if_neg hm] at h; cases h
  · rw [if_neg hd] at h; cases h
section XS85
variable {D b k p q n t c v i : Nat} {f g : Nat → xk_C} {w : Nat × Nat × Nat} {K : Option Value → xk_S → Prop} {R : Md} {x y z : Int} {T : Nat → Int} {s : Ps}
theorem u_num (hD : 2 ≤ D) (hz : rZ R T n p) (x1 : -2147483648 ≤ x) (x2 : x ≤ 2147483647) (y1 : -2147483648 ≤ y) (y2 : y ≤ 2147483647) (hok : ∀ p' v, gNum T n x y p = .inr (p', v) → ∀ R', frZ R R' → mA R' 7 = mA R 7 → rZ R' T n p' → mS R' 10 = v → K (some (.int (xj 1))) (xm f b R', w)) (hno : ∀ e : Nat, gNum T n x y p = .inl e → ∀ R', frZ R R' → mS R' 9 = (e : Nat) → K (some (.int (xj 0))) (xm f b R', w)) : xk_Cl D 155 [.ref b, .int (xj x), .int (xj y)] (xm f b R, w) K := by
  obtain ⟨hT, h11, h9, q, h8, hq, hs⟩ := hz
  have hsr := sk_rng (T := T) hq
  rw [hs] at hsr
  unfold gNum at hok hno
  cases hd : dgB T n p
  · rw [hd, if_neg (by decide)] at hno
    rw [m_number_no hD hT h9 h8 hq (by rw [hs]; exact hd), hs]
    exact hno _ rfl _ (frZ_t (frZ_S (by omega)) (frZ_S (by omega))) (by rw [mS_S]; omega)
  · rw [hd, if_pos rfl] at hno hok
    rw [m_number hD hT h9 h8 hq (by rw [hs]; exact hd) x1 x2 y1 y2, hs]
    have he : dgE T n p ≤ n := (run_rng (T := T) hsr.2).1.2
    have hen : enT T n p = dgE T n p := by unfold enT; rw [if_pos (kd_1 hd)]
    cases hm : nmB T n p x y
    · rw [hm, if_neg (by decide)] at hno
      rw [if_neg (by decide), xb_F (by decide)]
      exact hno _ rfl _ (frZ_t (frZ_S (by omega)) (frZ_t (frZ_S (by omega)) (frZ_S (by omega)))) (by rw [mS_So (by decide), mS_S]; omega)
    · rw [hm, if_pos rfl] at hok
      rw [if_pos rfl, xb_T rfl]
      exact hok _ _ rfl _ (frZ_t (frZ_S (by omega)) (frZ_S (by omega))) rfl ⟨hT, h11, h9, dgE T n p, rfl, he, by unfold nxT; rw [hen]⟩ mS_S
theorem u_cell (hD : 3 ≤ D) (hz : rZ R T n p) (hi : i < 84) (x1 : -2147483648 ≤ x) (x2 : x ≤ 2147483647) (y1 : -2147483648 ≤ y) (y2 : y ≤ 2147483647) (hok : ∀ p' A', gCell T n i x y p (mA R 7) = .inr (p', A') → ∀ R', frZ R R' → mA R' 7 = A' → rZ R' T n p' → K (some (.int (xj 1))) (xm f b R', w)) (hno : ∀ e : Nat, gCell T n i x y p (mA R 7) = .inl e → ∀ R', frZ R R' → mS R' 9 = (e : Nat) → K (some (.int (xj 0))) (xm f b R', w)) : xk_Cl D 171 [.ref b, .int (xj i), .int (xj x), .int (xj y)] (xm f b R, w) K := by
  rw [e171 (by omega)]
  have hn := hz.1.2.1
  simp (disch := omega) only [b171_0, b171_1, b171_2, List.getElem?_cons_zero, List.getElem?_cons_succ, List.length_cons, List.length_nil, List.set_cons_zero, List.set_cons_succ, true_and, and_true, Option.toList_some, Option.toList_none, List.cons_append, List.nil_append, ↓reduceIte, not_false_eq_true, not_true_eq_false, Nat.reduceAdd, xj0_01, xj1_01, xb_B, xb_True, xb_False]
  rw [b171_3, rc_M, true_and]
  refine u_num (by omega) hz x1 x2 y1 y2 (fun p' v hg R1 f1 a1 z1 m1 => ?_) (fun e hg R1 f1 m9 => ?_)
  · have hv := gNum_rm hn hg
    have po := hok p' (upI (mA R 7) i v) (by unfold gCell; rw [hg]; rfl) (sA R1 7 (upI (mA R1 7) i v)) (frZ_t f1 frZ_7) (by rw [mA_A, a1]) z1
    simp (disch := omega) only [b171_6, b171_9, b171_10, b171_11, b171_12, b171_15, b171_16, b171_17, b171_20, b171_21, b171_22, b171_10o, b171_10z, b171_10c, b171_22o, b171_22z, b171_22c, ↓gm_0, ↓gm_1, ↓gm_2, ↓gm_3, ↓gm_4, ↓gm_5, ↓gm_6, ↓gm_7, ↓gm_8, ↓gm_9, ↓gm_10, ↓gm_11, ↓gm_12, ↓gm_13, ↓gm_14, ↓gm_15, ↓gm_16, ↓gm_17, ↓gm_18, ↓gm_19, ↓gm_20, ↓gm_21, ↓gm_22, ↓gm_23, ↓gm_24, ↓gm_25, ↓gm_26, ↓gm_27, ↓gm_28, ↓gm_29, ↓gm_30, ↓gm_31, ↓gm_32, ↓gm_33, ↓gm_34, ↓gm_35, ↓gm_36, ↓gm_37, ↓gm_38, ↓gm_39, ↓gm_40, ↓gm_41, ↓gm_42, ↓gm_43, ↓gm_44, ↓gm_45, ↓gm_46, ↓pm_1, ↓pm_2, ↓pm_8, ↓pm_9, ↓pm_10, ↓pm_11, ↓pm_12, ↓pm_13, ↓pm_14, ↓pm_16, ↓pm_18, ↓pm_21, ↓pm_22, ↓pm_23, ↓pm_24, ↓pm_25, ↓pm_26, ↓pm_28, ↓pm_31, ↓pm_35, ↓pm_36, ↓pm_37, ↓pm_38, ↓pm_40, ↓pm_43, ↓am_0, ↓wm_0, ↓am_3, ↓wm_3, ↓am_4, ↓wm_4, ↓am_5, ↓wm_5, ↓am_6, ↓wm_6, ↓am_7, ↓wm_7, ↓am_15, ↓wm_15, ↓am_17, ↓wm_17, ↓am_19, ↓wm_19, ↓am_20, ↓wm_20, ↓am_27, ↓wm_27, ↓am_29, ↓wm_29, ↓am_30, ↓wm_30, ↓am_32, ↓wm_32, ↓am_33, ↓wm_33, ↓am_34, ↓wm_34, ↓am_39, ↓wm_39, ↓am_41, ↓wm_41, ↓am_42, ↓wm_42, ↓am_44, ↓wm_44, ↓am_45, ↓wm_45, ↓am_46, ↓wm_46, ↓wn_0, ↓wn_46, or_false, false_or, rc_M, List.getElem?_cons_zero, List.getElem?_cons_succ, List.length_cons, List.length_nil, List.set_cons_zero, List.set_cons_succ, true_and, and_true, Option.toList_some, Option.toList_none, List.cons_append, List.nil_append, ↓reduceIte, not_false_eq_true, not_true_eq_false, Nat.reduceAdd, xj0_01, xj1_01, xb_B, xb_True, xb_False, ↓xj_in, xj_nat, Int.toNat_natCast, xj_lt_t, xj_lt_f, xj_le_t, xj_le_f, xj_eq_t, xj_eq_f, xj_lt, xj_le, xj_eq, xj_add, xj_sub, xj_mul, show ¬ xj 1 = xj 0 from by decide, tn_add, tn_mul, tn_sub, Int.toNat_natCast, Int.reduceToNat, m1]
    exact po
  · have po := hno e (by unfold gCell; rw [hg]; rfl) R1 f1 m9
    simp (disch := omega) only [b171_6, b171_9, b171_10, b171_11, b171_12, b171_15, b171_16, b171_17, b171_20, b171_21, b171_22, b171_10o, b171_10z, b171_10c, b171_22o, b171_22z, b171_22c, List.getElem?_cons_zero, List.getElem?_cons_succ, List.length_cons, List.length_nil, List.set_cons_zero, List.set_cons_succ, true_and, and_true, Option.toList_some, Option.toList_none, List.cons_append, List.nil_append, ↓reduceIte, not_false_eq_true, not_true_eq_false, Nat.reduceAdd, xj0_01, xj1_01, xb_B, xb_True, xb_False, ↓xj_in, xj_nat, Int.toNat_natCast, xj_lt_t, xj_lt_f, xj_le_t, xj_le_f, xj_eq_t, xj_eq_f, xj_lt, xj_le, xj_eq, xj_add, xj_sub, xj_mul, show ¬ xj 1 = xj 0 from by decide]
    exact po
end XS85
