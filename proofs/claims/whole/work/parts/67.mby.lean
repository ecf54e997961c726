/-! the model signs by rules -/
def rCl (R : Md) (t : Nat) : Nat → Ru → Prop
  | _, [] => True
  | c, cl :: r => (∃ bg : Nat, mA R 5 (48 * t + 4 * c) = bg ∧ mA R 5 (48 * t + 4 * c + 1) = (bg + cl.1.length : Nat) ∧ bg + cl.1.length ≤ 400 ∧ rCo (mA R 3) (400 * t + bg) cl.1) ∧ (match cl.2 with
    | none => mA R 5 (48 * t + 4 * c + 2) = -1
    | some u => ∃ bg : Nat, mA R 5 (48 * t + 4 * c + 2) = bg ∧ mA R 5 (48 * t + 4 * c + 3) = (bg + u.length : Nat) ∧ bg + u.length ≤ 400 ∧ rCo (mA R 3) (400 * t + bg) u) ∧ rCl R t (c + 1) r
def rRu (R : Md) (t : Nat) (ru : Ru) : Prop := mA R 6 t = (ru.length : Nat) ∧ ru.length ≤ 12 ∧ rCl R t 0 ru ∧ ruOK ru
def wdI (O : Of) (d : Dy) (p i : Nat) : Int := if i = 0 then p else if i = 1 then of_ow O p else if i = 2 then of_sk O p else if i = 3 then of_du O p else if i = 4 then of_wo O p else if i = 5 then wayF O d.2.1 (of_ow O p) else if i = 6 then of_du O p - d.1 else if i = 7 then (bcF (of_re O p &&& unsF O d) : Nat) else if i = 8 then (cnt (fun o => !d.2.2.2.2.1.testBit o && (of_re O o).testBit p) (of_np O) : Nat) else if i = 9 then d.2.2.1 else if i = 10 then d.2.2.2.1 else if i = 11 then d.1 else beginF O d p
def wdF (O : Of) (d : Dy) (p i : Nat) : Int64 := jx (wdI O d p i)
def nbF (O : Of) (d : Dy) (ru : Ru) : Nat → Int × Int64
  | 0 => (-1, 0)
  | p + 1 => if canF O d p = true ∧ (nbF O d ru p).2 < rvF (wdF O d p) ru then ((p : Int), rvF (wdF O d p) ru) else nbF O d ru p
theorem nbF_rng {O : Of} {d : Dy} {ru : Ru} : ∀ n, -1 ≤ (nbF O d ru n).1 ∧ (nbF O d ru n).1 < n ∧ (0 ≤ (nbF O d ru n).1 → canF O d (nbF O d ru n).1 = true) := by
  intro n
  induction n with
  | zero => exact ⟨Int.le_refl _, by show (-1 : Int) < 0; decide, fun h => absurd h (by show ¬ (0 : Int) ≤ -1; decide)⟩
  | succ n ih =>
    unfold nbF
    split
    · rename_i h
      exact ⟨by show (-1 : Int) ≤ (n : Int); omega, by show (n : Int) < ((n + 1 : Nat) : Int); omega, fun _ => h.1⟩
    · exact ⟨ih.1, by omega, ih.2.2⟩
def byF (O : Of) (ru : Ru) : Nat → Dy → Nat → (Nat → Int) → Dy × Nat × (Nat → Int)
  | 0, d, k, row => (d, k, row)
  | n + 1, d, k, row => if (nbF O d ru (of_np O)).1 < 0 then (d, k, row) else byF O ru n (writeD O d (nbF O d ru (of_np O)).1.toNat 63) (k + 1) (upI row k (nbF O d ru (of_np O)).1)
def byAns (O : Of) (t : Dy × Nat × (Nat → Int)) (y : Int) : Int := if y = 0 then wtF O t.1 else if y = 1 then t.1.1 else if y = 2 then t.2.1 else if y - 3 < t.2.1 then t.2.2 (y - 3).toNat else -2
def waF (O : Of) (t : Dy × Nat × (Nat → Int)) (c : Int) : Nat → Int × Int
  | 0 => (-1, 0)
  | k + 1 => if of_ow O (t.2.2 k).toNat = c then (t.1.2.2.2.2.2.2.2 (t.2.2 k).toNat, (waF O t c k).2 + of_sk O (t.2.2 k).toNat) else waF O t c k
def waAns (O : Of) (d : Dy) (t : Dy × Nat × (Nat → Int)) (c : Int) : Int := if (waF O t c t.2.1).1 < 0 then 0 else (waF O t c t.2.1).1 - d.1 - (waF O t c t.2.1).2
/-- what choosing leaves alone -/
def frN (R R' : Md) : Prop := (∀ j, (j < 18 ∨ (18 < j ∧ j < 23) ∨ 26 < j) → mS R' j = mS R j) ∧ ∀ j, mA R' j = mA R j
theorem frN_t {R R' R'' : Md} (h : frN R R') (h' : frN R' R'') : frN R R'' := ⟨fun j q => (h'.1 j q).trans (h.1 j q), fun j => (h'.2 j).trans (h.2 j)⟩
theorem frN_r (R : Md) : frN R R := ⟨fun _ _ => rfl, fun _ => rfl⟩
theorem frS_N {R R' : Md} (h : frS R R') : frN R R' := ⟨fun j q => h.1 j (by omega), h.2.1⟩
theorem frN_can {R : Md} {O : Of} {d : Dy} {p : Nat} : frN R (canR R O d p) := ⟨fun j q => can_S (by omega), fun _ => can_A⟩
theorem frN_reck {R : Md} {O : Of} {d : Dy} {p : Nat} : frN R (reckR R O d p) := ⟨fun j q => rk_S (by omega), fun _ => rfl⟩
theorem rCl_ext {R R' : Md} {t : Nat} (h3 : mA R' 3 = mA R 3) (h5 : mA R' 5 = mA R 5) : ∀ {ru : Ru} {c : Nat}, rCl R t c ru → rCl R' t c ru := by
  intro ru
  induction ru with
  | nil => intro c _; trivial
  | cons cl r ih =>
    intro c h
    unfold rCl at h ⊢
    rw [h3, h5]
    exact ⟨h.1, h.2.1, ih h.2.2⟩
theorem rRu_ext {R R' : Md} {t : Nat} {ru : Ru} (h3 : mA R' 3 = mA R 3) (h5 : mA R' 5 = mA R 5) (h6 : mA R' 6 = mA R 6) (h : rRu R t ru) : rRu R' t ru :=
  ⟨by rw [h6]; exact h.1, h.2.1, rCl_ext h3 h5 h.2.2.1, h.2.2.2⟩
theorem uJ_uJ {A : Nat → Nat → Int64} {k : Nat} {g h : Nat → Int64} : uJ (uJ A k g) k h = uJ A k h := by funext i; unfold uJ; by_cases c : i = k; rw [if_pos c, if_pos c]; rw [if_neg c, if_neg c, if_neg c]
theorem sJ_J {R : Md} {k : Nat} {g h : Nat → Int64} : sJ (sJ R k g) k h = sJ R k h := by unfold sJ; simp only [uJ_uJ]
section XS67
variable {D b k p q s n t : Nat} {f g : Nat → xk_C} {w : Nat × Nat × Nat} {K : Option Value → xk_S → Prop} {O : Of} {L : Lg} {d : Dy} {R : Md} {x y z : Int} {u v : Int64} {ru : Ru}
theorem u_summedBy {wd : Nat → Int64} (hD : 3 ≤ D) (ht : t < 6) (hwd : ∀ i, i < 13 → mJ R 19 i = wd i) (hr : rRu R t ru) (hpost : ∀ R', frS R R' → K (some (.long (rvF wd ru))) (xm f b R', w)) : xk_Cl D 216 [.ref b, .int (xj t)] (xm f b R, w) K := by
  rw [e216 (by omega)]
  obtain ⟨h6, h12, hcl, hok, hpc⟩ := hr
  simp only [b216_0, b216_1]
  have loop : ∀ (r : Ru) (c : Nat) (R' : Md) (l3 : Value), c + r.length = ru.length → rCl R t c r → (∀ x, x ∈ r → clOK x) → pcR r ≤ 60 → rvF wd r = rvF wd ru → frS R R' → xk_B (D - 1) 216 2 [.ref b, .int (xj t), .int (xj c), l3] [] (xm f b R', w) K := by
    intro r
    induction r with
    | nil =>
      intro c R' l3 hc hcl hok hpc hv fr
      have hc : c = ru.length := hc
      have po := hpost R' fr
      rw [← hv] at po
      have h6' : mA R' 6 t = (ru.length : Nat) := by rw [fr.2.1]; exact h6
      simp (disch := omega) only [b216_2, b216_3, b216_4, b216_7, b216_8, b216_9, b216_84, b216_85, ↓gm_0, ↓gm_1, ↓gm_2, ↓gm_3, ↓gm_4, ↓gm_5, ↓gm_6, ↓gm_7, ↓gm_8, ↓gm_9, ↓gm_10, ↓gm_11, ↓gm_12, ↓gm_13, ↓gm_14, ↓gm_15, ↓gm_16, ↓gm_17, ↓gm_18, ↓gm_19, ↓gm_20, ↓gm_21, ↓gm_22, ↓gm_23, ↓gm_24, ↓gm_25, ↓gm_26, ↓gm_27, ↓gm_28, ↓gm_29, ↓gm_30, ↓gm_31, ↓gm_32, ↓gm_33, ↓gm_34, ↓gm_35, ↓gm_36, ↓gm_37, ↓gm_38, ↓gm_39, ↓gm_40, ↓gm_41, ↓gm_42, ↓gm_43, ↓gm_44, ↓gm_45, ↓gm_46, ↓pm_1, ↓pm_2, ↓pm_8, ↓pm_9, ↓pm_10, ↓pm_11, ↓pm_12, ↓pm_13, ↓pm_14, ↓pm_16, ↓pm_18, ↓pm_21, ↓pm_22, ↓pm_23, ↓pm_24, ↓pm_25, ↓pm_26, ↓pm_28, ↓pm_31, ↓pm_35, ↓pm_36, ↓pm_37, ↓pm_38, ↓pm_40, ↓pm_43, ↓am_0, ↓wm_0, ↓am_3, ↓wm_3, ↓am_4, ↓wm_4, ↓am_5, ↓wm_5, ↓am_6, ↓wm_6, ↓am_7, ↓wm_7, ↓am_15, ↓wm_15, ↓am_17, ↓wm_17, ↓am_19, ↓wm_19, ↓am_20, ↓wm_20, ↓am_27, ↓wm_27, ↓am_29, ↓wm_29, ↓am_30, ↓wm_30, ↓am_32, ↓wm_32, ↓am_33, ↓wm_33, ↓am_34, ↓wm_34, ↓am_39, ↓wm_39, ↓am_41, ↓wm_41, ↓am_42, ↓wm_42, ↓am_44, ↓wm_44, ↓am_45, ↓wm_45, ↓am_46, ↓wm_46, ↓wn_0, ↓wn_46, or_false, false_or, rc_M, List.getElem?_cons_zero, List.getElem?_cons_succ, List.length_cons, List.length_nil, List.set_cons_zero, List.set_cons_succ, true_and, and_true, Option.toList_some, Option.toList_none, List.cons_append, List.nil_append, ↓reduceIte, not_false_eq_true, not_true_eq_false, Nat.reduceAdd, xj0_01, xj1_01, xb_B, xb_True, xb_False, ↓xj_in, xj_nat, Int.toNat_natCast, xj_lt_t, xj_lt_f, xj_le_t, xj_le_f, xj_eq_t, xj_eq_f, xj_lt, xj_le, xj_eq, xj_add, xj_sub, xj_mul, show ¬ xj 1 = xj 0 from by decide, tn_add, tn_mul, tn_sub, Int.toNat_natCast, Int.reduceToNat, h6']
      exact po
    | cons cl r ih =>
      intro c R' l3 hc hcl hok hpc hv fr
      have hc : c + (r.length + 1) = ru.length := hc
      have h6' : mA R' 6 t = (ru.length : Nat) := by rw [fr.2.1]; exact h6
      obtain ⟨⟨bg, g0, g1, g2, g3⟩, hts, hnx⟩ := hcl
      have hclo := hok cl List.mem_cons_self
      have hpc2 : pcC cl.1 + (match cl.2 with | some t => pcC t | none => 0) + pcR r ≤ 60 := hpc
      have g0' : ∀ R2, frS R R2 → mA R2 5 (48 * t + 4 * c) = (bg : Nat) := fun R2 f2 => by rw [f2.2.1]; exact g0
      have g1' : ∀ R2, frS R R2 → mA R2 5 (48 * t + 4 * c + 1) = (bg + cl.1.length : Nat) := fun R2 f2 => by rw [f2.2.1]; exact g1
      have sum : ∀ R2, frS R R2 → rvF wd ru = topE (ev wd cl.1 []) → xk_B (D - 1) 216 58 [.ref b, .int (xj t), .int (xj c), .int (xj (48 * (t : Int) + 4 * (c : Int)))] [] (xm f b R2, w) K := by
        intro R2 f2 hv2
        have e0 := g0' R2 f2
        have e1 := g1' R2 f2
        simp (disch := omega) only [b216_58, b216_59, b216_60, b216_61, b216_64, b216_65, b216_66, b216_67, b216_70, b216_71, b216_72, b216_73, ↓gm_0, ↓gm_1, ↓gm_2, ↓gm_3, ↓gm_4, ↓gm_5, ↓gm_6, ↓gm_7, ↓gm_8, ↓gm_9, ↓gm_10, ↓gm_11, ↓gm_12, ↓gm_13, ↓gm_14, ↓gm_15, ↓gm_16, ↓gm_17, ↓gm_18, ↓gm_19, ↓gm_20, ↓gm_21, ↓gm_22, ↓gm_23, ↓gm_24, ↓gm_25, ↓gm_26, ↓gm_27, ↓gm_28, ↓gm_29, ↓gm_30, ↓gm_31, ↓gm_32, ↓gm_33, ↓gm_34, ↓gm_35, ↓gm_36, ↓gm_37, ↓gm_38, ↓gm_39, ↓gm_40, ↓gm_41, ↓gm_42, ↓gm_43, ↓gm_44, ↓gm_45, ↓gm_46, ↓pm_1, ↓pm_2, ↓pm_8, ↓pm_9, ↓pm_10, ↓pm_11, ↓pm_12, ↓pm_13, ↓pm_14, ↓pm_16, ↓pm_18, ↓pm_21, ↓pm_22, ↓pm_23, ↓pm_24, ↓pm_25, ↓pm_26, ↓pm_28, ↓pm_31, ↓pm_35, ↓pm_36, ↓pm_37, ↓pm_38, ↓pm_40, ↓pm_43, ↓am_0, ↓wm_0, ↓am_3, ↓wm_3, ↓am_4, ↓wm_4, ↓am_5, ↓wm_5, ↓am_6, ↓wm_6, ↓am_7, ↓wm_7, ↓am_15, ↓wm_15, ↓am_17, ↓wm_17, ↓am_19, ↓wm_19, ↓am_20, ↓wm_20, ↓am_27, ↓wm_27, ↓am_29, ↓wm_29, ↓am_30, ↓wm_30, ↓am_32, ↓wm_32, ↓am_33, ↓wm_33, ↓am_34, ↓wm_34, ↓am_39, ↓wm_39, ↓am_41, ↓wm_41, ↓am_42, ↓wm_42, ↓am_44, ↓wm_44, ↓am_45, ↓wm_45, ↓am_46, ↓wm_46, ↓wn_0, ↓wn_46, or_false, false_or, rc_M, List.getElem?_cons_zero, List.getElem?_cons_succ, List.length_cons, List.length_nil, List.set_cons_zero, List.set_cons_succ, true_and, and_true, Option.toList_some, Option.toList_none, List.cons_append, List.nil_append, ↓reduceIte, not_false_eq_true, not_true_eq_false, Nat.reduceAdd, xj0_01, xj1_01, xb_B, xb_True, xb_False, ↓xj_in, xj_nat, Int.toNat_natCast, xj_lt_t, xj_lt_f, xj_le_t, xj_le_f, xj_eq_t, xj_eq_f, xj_lt, xj_le, xj_eq, xj_add, xj_sub, xj_mul, show ¬ xj 1 = xj 0 from by decide, tn_add, tn_mul, tn_sub, Int.toNat_natCast, Int.reduceToNat, e0, e1]
        rw [b216_74, rc_M, true_and]
        refine u_reckons (wd := wd) (by omega) ht (fun i hi => by rw [f2.2.2 19 (by decide)]; exact hwd i hi) hclo.1 (by omega) g2 (by rw [f2.2.1]; exact g3) (fun R3 f3 => ?_)
        have po := hpost R3 (frS_t f2 f3)
        rw [hv2] at po
        simp (disch := omega) only [b216_77, List.getElem?_cons_zero, List.getElem?_cons_succ, List.length_cons, List.length_nil, List.set_cons_zero, List.set_cons_succ, true_and, and_true, Option.toList_some, Option.toList_none, List.cons_append, List.nil_append, ↓reduceIte, not_false_eq_true, not_true_eq_false, Nat.reduceAdd, xj0_01, xj1_01, xb_B, xb_True, xb_False]
        exact po
      rw [b216_2]
      obtain ⟨s1, o1⟩ := cl
      cases o1 with
      | none =>
        have hts : mA R 5 (48 * t + 4 * c + 2) = -1 := hts
        have hts' : mA R' 5 (48 * t + 4 * c + 2) = -1 := by rw [fr.2.1]; exact hts
        have su := sum R' fr hv.symm
        simp (disch := omega) only [b216_3, b216_4, b216_7, b216_8, b216_9, b216_12, b216_14, b216_15, b216_16, b216_17, b216_18, b216_19, b216_20, b216_21, b216_22, b216_25, b216_26, b216_27, b216_28, b216_29, ↓gm_0, ↓gm_1, ↓gm_2, ↓gm_3, ↓gm_4, ↓gm_5, ↓gm_6, ↓gm_7, ↓gm_8, ↓gm_9, ↓gm_10, ↓gm_11, ↓gm_12, ↓gm_13, ↓gm_14, ↓gm_15, ↓gm_16, ↓gm_17, ↓gm_18, ↓gm_19, ↓gm_20, ↓gm_21, ↓gm_22, ↓gm_23, ↓gm_24, ↓gm_25, ↓gm_26, ↓gm_27, ↓gm_28, ↓gm_29, ↓gm_30, ↓gm_31, ↓gm_32, ↓gm_33, ↓gm_34, ↓gm_35, ↓gm_36, ↓gm_37, ↓gm_38, ↓gm_39, ↓gm_40, ↓gm_41, ↓gm_42, ↓gm_43, ↓gm_44, ↓gm_45, ↓gm_46, ↓pm_1, ↓pm_2, ↓pm_8, ↓pm_9, ↓pm_10, ↓pm_11, ↓pm_12, ↓pm_13, ↓pm_14, ↓pm_16, ↓pm_18, ↓pm_21, ↓pm_22, ↓pm_23, ↓pm_24, ↓pm_25, ↓pm_26, ↓pm_28, ↓pm_31, ↓pm_35, ↓pm_36, ↓pm_37, ↓pm_38, ↓pm_40, ↓pm_43, ↓am_0, ↓wm_0, ↓am_3, ↓wm_3, ↓am_4, ↓wm_4, ↓am_5, ↓wm_5, ↓am_6, ↓wm_6, ↓am_7, ↓wm_7, ↓am_15, ↓wm_15, ↓am_17, ↓wm_17, ↓am_19, ↓wm_19, ↓am_20, ↓wm_20, ↓am_27, ↓wm_27, ↓am_29, ↓wm_29, ↓am_30, ↓wm_30, ↓am_32, ↓wm_32, ↓am_33, ↓wm_33, ↓am_34, ↓wm_34, ↓am_39, ↓wm_39, ↓am_41, ↓wm_41, ↓am_42, ↓wm_42, ↓am_44, ↓wm_44, ↓am_45, ↓wm_45, ↓am_46, ↓wm_46, ↓wn_0, ↓wn_46, or_false, false_or, rc_M, List.getElem?_cons_zero, List.getElem?_cons_succ, List.length_cons, List.length_nil, List.set_cons_zero, List.set_cons_succ, true_and, and_true, Option.toList_some, Option.toList_none, List.cons_append, List.nil_append, ↓reduceIte, not_false_eq_true, not_true_eq_false, Nat.reduceAdd, xj0_01, xj1_01, xb_B, xb_True, xb_False, ↓xj_in, xj_nat, Int.toNat_natCast, xj_lt_t, xj_lt_f, xj_le_t, xj_le_f, xj_eq_t, xj_eq_f, xj_lt, xj_le, xj_eq, xj_add, xj_sub, xj_mul, show ¬ xj 1 = xj 0 from by decide, tn_add, tn_mul, tn_sub, Int.toNat_natCast, Int.reduceToNat, h6', hts']
        exact su
      | some u =>
        obtain ⟨bt, t0, t1, t2, t3⟩ := hts
        have t0' : mA R' 5 (48 * t + 4 * c + 2) = (bt : Nat) := by rw [fr.2.1]; exact t0
        have t1' : mA R' 5 (48 * t + 4 * c + 3) = (bt + u.length : Nat) := by rw [fr.2.1]; exact t1
        have hpc2 : pcC s1 + pcC u + pcR r ≤ 60 := hpc2
        simp (disch := omega) only [b216_3, b216_4, b216_7, b216_8, b216_9, b216_12, b216_14, b216_15, b216_16, b216_17, b216_18, b216_19, b216_20, b216_21, b216_22, b216_25, b216_26, b216_27, b216_28, b216_29, b216_32, b216_33, b216_34, b216_35, b216_38, b216_39, b216_40, b216_41, b216_42, b216_43, b216_46, b216_47, b216_48, b216_49, ↓gm_0, ↓gm_1, ↓gm_2, ↓gm_3, ↓gm_4, ↓gm_5, ↓gm_6, ↓gm_7, ↓gm_8, ↓gm_9, ↓gm_10, ↓gm_11, ↓gm_12, ↓gm_13, ↓gm_14, ↓gm_15, ↓gm_16, ↓gm_17, ↓gm_18, ↓gm_19, ↓gm_20, ↓gm_21, ↓gm_22, ↓gm_23, ↓gm_24, ↓gm_25, ↓gm_26, ↓gm_27, ↓gm_28, ↓gm_29, ↓gm_30, ↓gm_31, ↓gm_32, ↓gm_33, ↓gm_34, ↓gm_35, ↓gm_36, ↓gm_37, ↓gm_38, ↓gm_39, ↓gm_40, ↓gm_41, ↓gm_42, ↓gm_43, ↓gm_44, ↓gm_45, ↓gm_46, ↓pm_1, ↓pm_2, ↓pm_8, ↓pm_9, ↓pm_10, ↓pm_11, ↓pm_12, ↓pm_13, ↓pm_14, ↓pm_16, ↓pm_18, ↓pm_21, ↓pm_22, ↓pm_23, ↓pm_24, ↓pm_25, ↓pm_26, ↓pm_28, ↓pm_31, ↓pm_35, ↓pm_36, ↓pm_37, ↓pm_38, ↓pm_40, ↓pm_43, ↓am_0, ↓wm_0, ↓am_3, ↓wm_3, ↓am_4, ↓wm_4, ↓am_5, ↓wm_5, ↓am_6, ↓wm_6, ↓am_7, ↓wm_7, ↓am_15, ↓wm_15, ↓am_17, ↓wm_17, ↓am_19, ↓wm_19, ↓am_20, ↓wm_20, ↓am_27, ↓wm_27, ↓am_29, ↓wm_29, ↓am_30, ↓wm_30, ↓am_32, ↓wm_32, ↓am_33, ↓wm_33, ↓am_34, ↓wm_34, ↓am_39, ↓wm_39, ↓am_41, ↓wm_41, ↓am_42, ↓wm_42, ↓am_44, ↓wm_44, ↓am_45, ↓wm_45, ↓am_46, ↓wm_46, ↓wn_0, ↓wn_46, or_false, false_or, rc_M, List.getElem?_cons_zero, List.getElem?_cons_succ, List.length_cons, List.length_nil, List.set_cons_zero, List.set_cons_succ, true_and, and_true, Option.toList_some, Option.toList_none, List.cons_append, List.nil_append, ↓reduceIte, not_false_eq_true, not_true_eq_false, Nat.reduceAdd, xj0_01, xj1_01, xb_B, xb_True, xb_False, ↓xj_in, xj_nat, Int.toNat_natCast, xj_lt_t, xj_lt_f, xj_le_t, xj_le_f, xj_eq_t, xj_eq_f, xj_lt, xj_le, xj_eq, xj_add, xj_sub, xj_mul, show ¬ xj 1 = xj 0 from by decide, tn_add, tn_mul, tn_sub, Int.toNat_natCast, Int.reduceToNat, h6', t0', t1']
        rw [b216_50, rc_M, true_and]
        refine u_reckons (wd := wd) (by omega) ht (fun i hi => by rw [fr.2.2 19 (by decide)]; exact hwd i hi) hclo.2 (by omega) t2 (by rw [fr.2.1]; exact t3) (fun R3 f3 => ?_)
        have hv3 : (if topE (ev wd u []) = 1 then topE (ev wd s1 []) else rvF wd r) = rvF wd ru := hv
        by_cases c1 : topE (ev wd u []) = 1
        · rw [if_pos c1] at hv3
          have su := sum R3 (frS_t fr f3) hv3.symm
          simp (disch := omega) only [b216_53, b216_54, b216_55, List.getElem?_cons_zero, List.getElem?_cons_succ, List.length_cons, List.length_nil, List.set_cons_zero, List.set_cons_succ, true_and, and_true, Option.toList_some, Option.toList_none, List.cons_append, List.nil_append, ↓reduceIte, not_false_eq_true, not_true_eq_false, Nat.reduceAdd, xj0_01, xj1_01, xb_B, xb_True, xb_False, ↓xj_in, xj_nat, Int.toNat_natCast, xj_lt_t, xj_lt_f, xj_le_t, xj_le_f, xj_eq_t, xj_eq_f, xj_lt, xj_le, xj_eq, xj_add, xj_sub, xj_mul, show ¬ xj 1 = xj 0 from by decide, lc_eq, c1]
          exact su
        · rw [if_neg c1] at hv3
          have nx := ih (c + 1) R3 (.int (xj (48 * (t : Int) + 4 * (c : Int)))) (by omega) hnx (fun x hx => hok x (List.mem_cons_of_mem _ hx)) (by omega) hv3 (frS_t fr f3)
          simp (disch := omega) only [b216_53, b216_54, b216_55, b216_78, b216_81, List.getElem?_cons_zero, List.getElem?_cons_succ, List.length_cons, List.length_nil, List.set_cons_zero, List.set_cons_succ, true_and, and_true, Option.toList_some, Option.toList_none, List.cons_append, List.nil_append, ↓reduceIte, not_false_eq_true, not_true_eq_false, Nat.reduceAdd, xj0_01, xj1_01, xb_B, xb_True, xb_False, ↓xj_in, xj_nat, Int.toNat_natCast, xj_lt_t, xj_lt_f, xj_le_t, xj_le_f, xj_eq_t, xj_eq_f, xj_lt, xj_le, xj_eq, xj_add, xj_sub, xj_mul, show ¬ xj 1 = xj 0 from by decide, lc_eq, c1]
          exact nx
  exact loop ru 0 R xk_dd (Nat.zero_add _) hcl hok hpc rfl (frS_r R)
theorem u_words (hD : 4 ≤ D) (hr : rK R O d) (hp : p < of_np O) (h23 : mS R 23 = beginF O d p) (hpost : ∀ R', (∀ j, mS R' j = mS R j) → (∀ j, mA R' j = mA R j) → (∀ i, i < 13 → mJ R' 19 i = wdF O d p i) → K none (xm f b R', w)) : xk_Cl D 217 [.ref b, .int (xj p)] (xm f b R, w) K := by
  rw [e217 (by omega)]
  have hr0 := hr
  obtain ⟨hw, hd, ⟨o0, o1, o2, o3, o4, o5, o6, o7, o8⟩, e0, e1, e2, e3, e4, e5⟩ := hr
  have hn := hw.2.2.2.1
  have hnc := hw.2.1
  obtain ⟨q0, q1, q2, q3, q4⟩ := o8 p hp
  have hs := hw.2.2.2.2.2.2 p hp
  have hp4 := e4 (by omega)
  obtain ⟨y, hy⟩ : ∃ y : Nat, d.2.1 = y := ⟨d.2.1.toNat, by omega⟩
  obtain ⟨z, hz⟩ : ∃ z : Nat, of_ow O p = z := ⟨(of_ow O p).toNat, by omega⟩
  have sy := hw.2.2.2.2.1 y (by omega)
  have sz := hw.2.2.2.2.1 z (by omega)
  have o6y := o6 y (by omega)
  have o6z := o6 z (by omega)
  have hwa := wayF_ap (O := O) (x := y) (y := z) (by omega) (by omega)
  have hb := beginF_rng hw hd hp
  obtain ⟨d1, d2, d3, d4, d5, d6, d7, d8, d9, d10, d11, d12⟩ := hd
  have hu := uns_lt (d := d) hw
  have hre : of_re O p < 64 := Nat.lt_of_lt_of_le hs.2.2.2.2.2.2.2.2 (Nat.pow_le_pow_right (n := 2) (i := of_np O) (j := 6) (by decide) hn)
  have ha := and64 (b := unsF O d) hre
  have hbc := bc_le (of_re O p &&& unsF O d)
  have hcn := cnt_le (fun o => !d.2.2.2.2.1.testBit o && (of_re O o).testBit p) (of_np O)
  simp only [b217_0, b217_1, b217_2, b217_3]
  have key := xk_down (J := Unit) (n := of_np O) (P := fun r _ => xk_B (D - 1) 217 4 [.ref b, .int (xj p), .int (xj (cnt (fun o => !d.2.2.2.2.1.testBit o && (of_re O o).testBit p) r : Nat)), .int (xj r)] [] (xm f b R, w) K) (Q := xk_B (D - 1) 217 49 [.ref b, .int (xj p), .int (xj (cnt (fun o => !d.2.2.2.2.1.testBit o && (of_re O o).testBit p) (of_np O) : Nat)), .int (xj (of_np O : Nat))] [] (xm f b R, w) K) (fun j => ?_) (fun r hrr ih j => ?_) 0 (Nat.zero_le _) ()
  · refine key.mpr ?_
    have ap : (if of_seat O y < of_seat O z then of_seat O z - of_seat O y else of_seat O y - of_seat O z) = wayF O d.2.1 (of_ow O p) := by rw [hy, hz, hwa]
    have hwr := wayF_rng (x := d.2.1) (y := of_ow O p) hw
    have an : xj (of_re O p : Nat) &&& xj (unsF O d : Nat) = xj ((of_re O p &&& unsF O d : Nat) : Int) := xj_and (by omega) (by omega)
    rw [hy] at e1
    have q0z : mA R 20 (54 + 5 * p + 0) = (z : Nat) := by rw [q0, hz]
    have fx : ∀ (R2 : Md) (r : Nat) (K : Option Value → xk_S → Prop), r < 4 → mA R2 20 = mA R 20 → (xk_Cl (D - 1) 192 [.ref b, .int (xj p), .int (xj r)] (xm f b R2, w) K ↔ K (some (.int (xj (wdI O d p (1 + r))))) (xm f b R2, w)) := by
      intro R2 r K hr4 h20
      rw [m_fixedOf (by omega) (by omega) (by omega) (by omega), h20, Int.toNat_natCast]
      have hrc : r = 0 ∨ r = 1 ∨ r = 2 ∨ r = 3 := by omega
      rcases hrc with rfl | rfl | rfl | rfl
      · rw [q0]; exact Iff.rfl
      · rw [q1]; exact Iff.rfl
      · rw [q2]; exact Iff.rfl
      · rw [q3]; exact Iff.rfl
    simp (disch := omega) only [b217_49, b217_50, b217_53, b217_54, b217_55, b217_56, b217_57, b217_58, ↓gm_0, ↓gm_1, ↓gm_2, ↓gm_3, ↓gm_4, ↓gm_5, ↓gm_6, ↓gm_7, ↓gm_8, ↓gm_9, ↓gm_10, ↓gm_11, ↓gm_12, ↓gm_13, ↓gm_14, ↓gm_15, ↓gm_16, ↓gm_17, ↓gm_18, ↓gm_19, ↓gm_20, ↓gm_21, ↓gm_22, ↓gm_23, ↓gm_24, ↓gm_25, ↓gm_26, ↓gm_27, ↓gm_28, ↓gm_29, ↓gm_30, ↓gm_31, ↓gm_32, ↓gm_33, ↓gm_34, ↓gm_35, ↓gm_36, ↓gm_37, ↓gm_38, ↓gm_39, ↓gm_40, ↓gm_41, ↓gm_42, ↓gm_43, ↓gm_44, ↓gm_45, ↓gm_46, ↓pm_1, ↓pm_2, ↓pm_8, ↓pm_9, ↓pm_10, ↓pm_11, ↓pm_12, ↓pm_13, ↓pm_14, ↓pm_16, ↓pm_18, ↓pm_21, ↓pm_22, ↓pm_23, ↓pm_24, ↓pm_25, ↓pm_26, ↓pm_28, ↓pm_31, ↓pm_35, ↓pm_36, ↓pm_37, ↓pm_38, ↓pm_40, ↓pm_43, ↓am_0, ↓wm_0, ↓am_3, ↓wm_3, ↓am_4, ↓wm_4, ↓am_5, ↓wm_5, ↓am_6, ↓wm_6, ↓am_7, ↓wm_7, ↓am_15, ↓wm_15, ↓am_17, ↓wm_17, ↓am_19, ↓wm_19, ↓am_20, ↓wm_20, ↓am_27, ↓wm_27, ↓am_29, ↓wm_29, ↓am_30, ↓wm_30, ↓am_32, ↓wm_32, ↓am_33, ↓wm_33, ↓am_34, ↓wm_34, ↓am_39, ↓wm_39, ↓am_41, ↓wm_41, ↓am_42, ↓wm_42, ↓am_44, ↓wm_44, ↓am_45, ↓wm_45, ↓am_46, ↓wm_46, ↓wn_0, ↓wn_46, or_false, false_or, rc_M, List.getElem?_cons_zero, List.getElem?_cons_succ, List.length_cons, List.length_nil, List.set_cons_zero, List.set_cons_succ, true_and, and_true, Option.toList_some, Option.toList_none, List.cons_append, List.nil_append, ↓reduceIte, not_false_eq_true, not_true_eq_false, Nat.reduceAdd, xj0_01, xj1_01, xb_B, xb_True, xb_False, ↓xj_in, xj_nat, Int.toNat_natCast, xj_lt_t, xj_lt_f, xj_le_t, xj_le_f, xj_eq_t, xj_eq_f, xj_lt, xj_le, xj_eq, xj_add, xj_sub, xj_mul, show ¬ xj 1 = xj 0 from by decide, tn_add, tn_mul, tn_sub, Int.toNat_natCast, Int.reduceToNat, jx_i2l]
    have wr : ∀ r : Nat, r < 4 → -2147483648 ≤ wdI O d p (1 + r) ∧ wdI O d p (1 + r) ≤ 2147483647 := by
      intro r hr4
      have hrc : r = 0 ∨ r = 1 ∨ r = 2 ∨ r = 3 := by omega
      rcases hrc with rfl | rfl | rfl | rfl
      · show -2147483648 ≤ of_ow O p ∧ of_ow O p ≤ 2147483647; omega
      · show -2147483648 ≤ of_sk O p ∧ of_sk O p ≤ 2147483647; omega
      · show -2147483648 ≤ of_du O p ∧ of_du O p ≤ 2147483647; omega
      · show -2147483648 ≤ of_wo O p ∧ of_wo O p ≤ 2147483647; omega
    have key2 := xk_down (J := Unit) (n := 4) (P := fun r _ => xk_B (D - 1) 217 59 [.ref b, .int (xj p), .int (xj (cnt (fun o => !d.2.2.2.2.1.testBit o && (of_re O o).testBit p) (of_np O) : Nat)), .int (xj r)] [] (xm f b (sJ R 19 (fun i => if i < 1 + r then wdF O d p i else mJ R 19 i)), w) K) (Q := xk_B (D - 1) 217 85 [.ref b, .int (xj p), .int (xj (cnt (fun o => !d.2.2.2.2.1.testBit o && (of_re O o).testBit p) (of_np O) : Nat)), .int (xj (4 : Nat))] [] (xm f b (sJ R 19 (fun i => if i < 5 then wdF O d p i else mJ R 19 i)), w) K) (fun j => ?_) (fun r hrr ih j => ?_) 0 (Nat.zero_le _) ()
    · have e9 : va_up (mJ R 19) 0 (jx p) = fun i => if i < 1 + 0 then wdF O d p i else mJ R 19 i := by
        funext i
        unfold va_up
        by_cases c : i = 0
        · subst c; rw [if_pos rfl, if_pos (by omega)]; rfl
        · rw [if_neg c, if_neg (by omega)]
      rw [e9]
      refine key2.mpr ?_
      have h20 : ∀ h, mA (sJ R 19 h) 20 = mA R 20 := fun _ => rfl
      have hrJ : ∀ h, rK (sJ R 19 h) O d := fun _ => hr0
      have mu := fun h K => m_unsigned (D := D - 1) (f := f) (b := b) (w := w) (K := K) (by omega) (hrJ h)
      simp (disch := omega) only [b217_85, b217_86, b217_89, b217_90, b217_91, b217_94, b217_96, b217_97, b217_98, b217_99, b217_102, b217_103, b217_104, b217_105, b217_108, b217_110, b217_111, b217_114, b217_116, b217_117, b217_118, b217_119, b217_122, b217_123, b217_124, b217_125, b217_128, b217_130, b217_131, b217_132, b217_133, b217_136, b217_137, b217_140, b217_142, b217_143, b217_144, b217_145, b217_146, b217_147, b217_150, b217_152, b217_153, b217_154, b217_155, b217_158, b217_159, b217_162, b217_163, b217_166, b217_167, b217_168, b217_169, b217_172, b217_174, b217_175, b217_176, b217_177, b217_178, b217_181, b217_183, b217_184, b217_187, b217_189, b217_190, b217_191, b217_192, b217_193, b217_196, b217_198, b217_199, b217_202, b217_204, b217_205, b217_206, b217_207, b217_208, b217_211, b217_213, b217_214, b217_217, b217_219, b217_220, b217_221, b217_222, b217_223, b217_226, b217_228, b217_229, b217_232, b217_233, b217_234, ↓gm_0, ↓gm_1, ↓gm_2, ↓gm_3, ↓gm_4, ↓gm_5, ↓gm_6, ↓gm_7, ↓gm_8, ↓gm_9, ↓gm_10, ↓gm_11, ↓gm_12, ↓gm_13, ↓gm_14, ↓gm_15, ↓gm_16, ↓gm_17, ↓gm_18, ↓gm_19, ↓gm_20, ↓gm_21, ↓gm_22, ↓gm_23, ↓gm_24, ↓gm_25, ↓gm_26, ↓gm_27, ↓gm_28, ↓gm_29, ↓gm_30, ↓gm_31, ↓gm_32, ↓gm_33, ↓gm_34, ↓gm_35, ↓gm_36, ↓gm_37, ↓gm_38, ↓gm_39, ↓gm_40, ↓gm_41, ↓gm_42, ↓gm_43, ↓gm_44, ↓gm_45, ↓gm_46, ↓pm_1, ↓pm_2, ↓pm_8, ↓pm_9, ↓pm_10, ↓pm_11, ↓pm_12, ↓pm_13, ↓pm_14, ↓pm_16, ↓pm_18, ↓pm_21, ↓pm_22, ↓pm_23, ↓pm_24, ↓pm_25, ↓pm_26, ↓pm_28, ↓pm_31, ↓pm_35, ↓pm_36, ↓pm_37, ↓pm_38, ↓pm_40, ↓pm_43, ↓am_0, ↓wm_0, ↓am_3, ↓wm_3, ↓am_4, ↓wm_4, ↓am_5, ↓wm_5, ↓am_6, ↓wm_6, ↓am_7, ↓wm_7, ↓am_15, ↓wm_15, ↓am_17, ↓wm_17, ↓am_19, ↓wm_19, ↓am_20, ↓wm_20, ↓am_27, ↓wm_27, ↓am_29, ↓wm_29, ↓am_30, ↓wm_30, ↓am_32, ↓wm_32, ↓am_33, ↓wm_33, ↓am_34, ↓wm_34, ↓am_39, ↓wm_39, ↓am_41, ↓wm_41, ↓am_42, ↓wm_42, ↓am_44, ↓wm_44, ↓am_45, ↓wm_45, ↓am_46, ↓wm_46, ↓wn_0, ↓wn_46, or_false, false_or, rc_M, List.getElem?_cons_zero, List.getElem?_cons_succ, List.length_cons, List.length_nil, List.set_cons_zero, List.set_cons_succ, true_and, and_true, Option.toList_some, Option.toList_none, List.cons_append, List.nil_append, ↓reduceIte, not_false_eq_true, not_true_eq_false, Nat.reduceAdd, xj0_01, xj1_01, xb_B, xb_True, xb_False, ↓xj_in, xj_nat, Int.toNat_natCast, xj_lt_t, xj_lt_f, xj_le_t, xj_le_f, xj_eq_t, xj_eq_f, xj_lt, xj_le, xj_eq, xj_add, xj_sub, xj_mul, show ¬ xj 1 = xj 0 from by decide, tn_add, tn_mul, tn_sub, Int.toNat_natCast, Int.reduceToNat, mS_S, mS_So, mS_A, mS_J, mA_A, mA_Ao, mA_S, mA_J, mJ_J, mJ_Jo, mJ_S, mJ_A, sS_S, sA_A, sS_A, sS_J, sJ_A, m_fixedOf, q0z, q2, q4, e0, e1, e2, e3, o6y, o6z, m_apart, ap, jx_i2l, mu, an, m_bits, h23, sJ_J]
      refine hpost _ (fun _ => rfl) (fun _ => rfl) (fun i hi => ?_)
      rw [mJ_J]
      have hic : i = 12 ∨ i = 11 ∨ i = 10 ∨ i = 9 ∨ i = 8 ∨ i = 7 ∨ i = 6 ∨ i = 5 ∨ i < 5 := by omega
      unfold va_up
      rcases hic with rfl | rfl | rfl | rfl | rfl | rfl | rfl | rfl | hic
      · rfl
      · rfl
      · rfl
      · rfl
      · rfl
      · rfl
      · rfl
      · rfl
      · rw [if_neg (by omega), if_neg (by omega), if_neg (by omega), if_neg (by omega), if_neg (by omega), if_neg (by omega), if_neg (by omega), if_neg (by omega)]; exact if_pos hic
    · simp (disch := omega) only [b217_59, b217_60, b217_61, ↓gm_0, ↓gm_1, ↓gm_2, ↓gm_3, ↓gm_4, ↓gm_5, ↓gm_6, ↓gm_7, ↓gm_8, ↓gm_9, ↓gm_10, ↓gm_11, ↓gm_12, ↓gm_13, ↓gm_14, ↓gm_15, ↓gm_16, ↓gm_17, ↓gm_18, ↓gm_19, ↓gm_20, ↓gm_21, ↓gm_22, ↓gm_23, ↓gm_24, ↓gm_25, ↓gm_26, ↓gm_27, ↓gm_28, ↓gm_29, ↓gm_30, ↓gm_31, ↓gm_32, ↓gm_33, ↓gm_34, ↓gm_35, ↓gm_36, ↓gm_37, ↓gm_38, ↓gm_39, ↓gm_40, ↓gm_41, ↓gm_42, ↓gm_43, ↓gm_44, ↓gm_45, ↓gm_46, ↓pm_1, ↓pm_2, ↓pm_8, ↓pm_9, ↓pm_10, ↓pm_11, ↓pm_12, ↓pm_13, ↓pm_14, ↓pm_16, ↓pm_18, ↓pm_21, ↓pm_22, ↓pm_23, ↓pm_24, ↓pm_25, ↓pm_26, ↓pm_28, ↓pm_31, ↓pm_35, ↓pm_36, ↓pm_37, ↓pm_38, ↓pm_40, ↓pm_43, ↓am_0, ↓wm_0, ↓am_3, ↓wm_3, ↓am_4, ↓wm_4, ↓am_5, ↓wm_5, ↓am_6, ↓wm_6, ↓am_7, ↓wm_7, ↓am_15, ↓wm_15, ↓am_17, ↓wm_17, ↓am_19, ↓wm_19, ↓am_20, ↓wm_20, ↓am_27, ↓wm_27, ↓am_29, ↓wm_29, ↓am_30, ↓wm_30, ↓am_32, ↓wm_32, ↓am_33, ↓wm_33, ↓am_34, ↓wm_34, ↓am_39, ↓wm_39, ↓am_41, ↓wm_41, ↓am_42, ↓wm_42, ↓am_44, ↓wm_44, ↓am_45, ↓wm_45, ↓am_46, ↓wm_46, ↓wn_0, ↓wn_46, or_false, false_or, rc_M, List.getElem?_cons_zero, List.getElem?_cons_succ, List.length_cons, List.length_nil, List.set_cons_zero, List.set_cons_succ, true_and, and_true, Option.toList_some, Option.toList_none, List.cons_append, List.nil_append, ↓reduceIte, not_false_eq_true, not_true_eq_false, Nat.reduceAdd, xj0_01, xj1_01, xb_B, xb_True, xb_False, ↓xj_in, xj_nat, Int.toNat_natCast, xj_lt_t, xj_lt_f, xj_le_t, xj_le_f, xj_eq_t, xj_eq_f, xj_lt, xj_le, xj_eq, xj_add, xj_sub, xj_mul, show ¬ xj 1 = xj 0 from by decide, tn_add, tn_mul, tn_sub, Int.toNat_natCast, Int.reduceToNat]
    · have fr := fun K => fx (sJ R 19 (fun i => if i < 1 + r then wdF O d p i else mJ R 19 i)) r K hrr rfl
      have wrr := wr r hrr
      have e9 : va_up (fun i => if i < 1 + r then wdF O d p i else mJ R 19 i) (1 + r) (jx (wdI O d p (1 + r))) = fun i => if i < 1 + (r + 1) then wdF O d p i else mJ R 19 i := by
        funext i
        unfold va_up
        by_cases c : i = 1 + r
        · subst c; rw [if_pos rfl, if_pos (by omega)]; rfl
        · rw [if_neg c]
          dsimp only
          by_cases c2 : i < 1 + r
          · rw [if_pos c2, if_pos (by omega)]
          · rw [if_neg c2, if_neg (by omega)]
      rw [b217_59, ← ih ()]
      simp (disch := omega) only [b217_60, b217_61, b217_64, b217_65, b217_68, b217_69, b217_70, b217_71, b217_72, b217_73, b217_74, b217_77, b217_78, b217_79, b217_82, ↓gm_0, ↓gm_1, ↓gm_2, ↓gm_3, ↓gm_4, ↓gm_5, ↓gm_6, ↓gm_7, ↓gm_8, ↓gm_9, ↓gm_10, ↓gm_11, ↓gm_12, ↓gm_13, ↓gm_14, ↓gm_15, ↓gm_16, ↓gm_17, ↓gm_18, ↓gm_19, ↓gm_20, ↓gm_21, ↓gm_22, ↓gm_23, ↓gm_24, ↓gm_25, ↓gm_26, ↓gm_27, ↓gm_28, ↓gm_29, ↓gm_30, ↓gm_31, ↓gm_32, ↓gm_33, ↓gm_34, ↓gm_35, ↓gm_36, ↓gm_37, ↓gm_38, ↓gm_39, ↓gm_40, ↓gm_41, ↓gm_42, ↓gm_43, ↓gm_44, ↓gm_45, ↓gm_46, ↓pm_1, ↓pm_2, ↓pm_8, ↓pm_9, ↓pm_10, ↓pm_11, ↓pm_12, ↓pm_13, ↓pm_14, ↓pm_16, ↓pm_18, ↓pm_21, ↓pm_22, ↓pm_23, ↓pm_24, ↓pm_25, ↓pm_26, ↓pm_28, ↓pm_31, ↓pm_35, ↓pm_36, ↓pm_37, ↓pm_38, ↓pm_40, ↓pm_43, ↓am_0, ↓wm_0, ↓am_3, ↓wm_3, ↓am_4, ↓wm_4, ↓am_5, ↓wm_5, ↓am_6, ↓wm_6, ↓am_7, ↓wm_7, ↓am_15, ↓wm_15, ↓am_17, ↓wm_17, ↓am_19, ↓wm_19, ↓am_20, ↓wm_20, ↓am_27, ↓wm_27, ↓am_29, ↓wm_29, ↓am_30, ↓wm_30, ↓am_32, ↓wm_32, ↓am_33, ↓wm_33, ↓am_34, ↓wm_34, ↓am_39, ↓wm_39, ↓am_41, ↓wm_41, ↓am_42, ↓wm_42, ↓am_44, ↓wm_44, ↓am_45, ↓wm_45, ↓am_46, ↓wm_46, ↓wn_0, ↓wn_46, or_false, false_or, rc_M, List.getElem?_cons_zero, List.getElem?_cons_succ, List.length_cons, List.length_nil, List.set_cons_zero, List.set_cons_succ, true_and, and_true, Option.toList_some, Option.toList_none, List.cons_append, List.nil_append, ↓reduceIte, not_false_eq_true, not_true_eq_false, Nat.reduceAdd, xj0_01, xj1_01, xb_B, xb_True, xb_False, ↓xj_in, xj_nat, Int.toNat_natCast, xj_lt_t, xj_lt_f, xj_le_t, xj_le_f, xj_eq_t, xj_eq_f, xj_lt, xj_le, xj_eq, xj_add, xj_sub, xj_mul, show ¬ xj 1 = xj 0 from by decide, tn_add, tn_mul, tn_sub, Int.toNat_natCast, Int.reduceToNat, mS_S, mS_So, mS_A, mS_J, mA_A, mA_Ao, mA_S, mA_J, mJ_J, mJ_Jo, mJ_S, mJ_A, sS_S, sA_A, sS_A, sS_J, sJ_A, fr, jx_i2l, e9, sJ_J]
      rfl
  · simp (disch := omega) only [b217_4, b217_5, b217_6, b217_9, b217_10, b217_11, ↓gm_0, ↓gm_1, ↓gm_2, ↓gm_3, ↓gm_4, ↓gm_5, ↓gm_6, ↓gm_7, ↓gm_8, ↓gm_9, ↓gm_10, ↓gm_11, ↓gm_12, ↓gm_13, ↓gm_14, ↓gm_15, ↓gm_16, ↓gm_17, ↓gm_18, ↓gm_19, ↓gm_20, ↓gm_21, ↓gm_22, ↓gm_23, ↓gm_24, ↓gm_25, ↓gm_26, ↓gm_27, ↓gm_28, ↓gm_29, ↓gm_30, ↓gm_31, ↓gm_32, ↓gm_33, ↓gm_34, ↓gm_35, ↓gm_36, ↓gm_37, ↓gm_38, ↓gm_39, ↓gm_40, ↓gm_41, ↓gm_42, ↓gm_43, ↓gm_44, ↓gm_45, ↓gm_46, ↓pm_1, ↓pm_2, ↓pm_8, ↓pm_9, ↓pm_10, ↓pm_11, ↓pm_12, ↓pm_13, ↓pm_14, ↓pm_16, ↓pm_18, ↓pm_21, ↓pm_22, ↓pm_23, ↓pm_24, ↓pm_25, ↓pm_26, ↓pm_28, ↓pm_31, ↓pm_35, ↓pm_36, ↓pm_37, ↓pm_38, ↓pm_40, ↓pm_43, ↓am_0, ↓wm_0, ↓am_3, ↓wm_3, ↓am_4, ↓wm_4, ↓am_5, ↓wm_5, ↓am_6, ↓wm_6, ↓am_7, ↓wm_7, ↓am_15, ↓wm_15, ↓am_17, ↓wm_17, ↓am_19, ↓wm_19, ↓am_20, ↓wm_20, ↓am_27, ↓wm_27, ↓am_29, ↓wm_29, ↓am_30, ↓wm_30, ↓am_32, ↓wm_32, ↓am_33, ↓wm_33, ↓am_34, ↓wm_34, ↓am_39, ↓wm_39, ↓am_41, ↓wm_41, ↓am_42, ↓wm_42, ↓am_44, ↓wm_44, ↓am_45, ↓wm_45, ↓am_46, ↓wm_46, ↓wn_0, ↓wn_46, or_false, false_or, rc_M, List.getElem?_cons_zero, List.getElem?_cons_succ, List.length_cons, List.length_nil, List.set_cons_zero, List.set_cons_succ, true_and, and_true, Option.toList_some, Option.toList_none, List.cons_append, List.nil_append, ↓reduceIte, not_false_eq_true, not_true_eq_false, Nat.reduceAdd, xj0_01, xj1_01, xb_B, xb_True, xb_False, ↓xj_in, xj_nat, Int.toNat_natCast, xj_lt_t, xj_lt_f, xj_le_t, xj_le_f, xj_eq_t, xj_eq_f, xj_lt, xj_le, xj_eq, xj_add, xj_sub, xj_mul, show ¬ xj 1 = xj 0 from by decide, tn_add, tn_mul, tn_sub, Int.toNat_natCast, Int.reduceToNat, o5]
  · obtain ⟨r0, r1, r2, r3, r4⟩ := o8 r hrr
    have hrr2 : of_re O r < 2147483648 := hw.n31 (hw.2.2.2.2.2.2 r hrr).2.2.2.2.2.2.2.2
    have hc := cnt_le (fun o => !d.2.2.2.2.1.testBit o && (of_re O o).testBit p) r
    rw [b217_4, ← ih ()]
    have e : cnt (fun o => !d.2.2.2.2.1.testBit o && (of_re O o).testBit p) (r + 1) = if (!d.2.2.2.2.1.testBit r && (of_re O r).testBit p) = true then cnt (fun o => !d.2.2.2.2.1.testBit o && (of_re O o).testBit p) r + 1 else cnt (fun o => !d.2.2.2.2.1.testBit o && (of_re O o).testBit p) r := rfl
    rw [e]
    cases c1 : d.2.2.2.2.1.testBit r
    · cases c2 : (of_re O r).testBit p
      · simp (disch := omega) only [b217_5, b217_6, b217_9, b217_10, b217_11, b217_14, b217_15, b217_16, b217_17, b217_20, b217_23, b217_24, b217_25, b217_26, b217_29, b217_30, b217_33, b217_36, b217_37, b217_40, b217_41, b217_42, b217_43, b217_46, ↓gm_0, ↓gm_1, ↓gm_2, ↓gm_3, ↓gm_4, ↓gm_5, ↓gm_6, ↓gm_7, ↓gm_8, ↓gm_9, ↓gm_10, ↓gm_11, ↓gm_12, ↓gm_13, ↓gm_14, ↓gm_15, ↓gm_16, ↓gm_17, ↓gm_18, ↓gm_19, ↓gm_20, ↓gm_21, ↓gm_22, ↓gm_23, ↓gm_24, ↓gm_25, ↓gm_26, ↓gm_27, ↓gm_28, ↓gm_29, ↓gm_30, ↓gm_31, ↓gm_32, ↓gm_33, ↓gm_34, ↓gm_35, ↓gm_36, ↓gm_37, ↓gm_38, ↓gm_39, ↓gm_40, ↓gm_41, ↓gm_42, ↓gm_43, ↓gm_44, ↓gm_45, ↓gm_46, ↓pm_1, ↓pm_2, ↓pm_8, ↓pm_9, ↓pm_10, ↓pm_11, ↓pm_12, ↓pm_13, ↓pm_14, ↓pm_16, ↓pm_18, ↓pm_21, ↓pm_22, ↓pm_23, ↓pm_24, ↓pm_25, ↓pm_26, ↓pm_28, ↓pm_31, ↓pm_35, ↓pm_36, ↓pm_37, ↓pm_38, ↓pm_40, ↓pm_43, ↓am_0, ↓wm_0, ↓am_3, ↓wm_3, ↓am_4, ↓wm_4, ↓am_5, ↓wm_5, ↓am_6, ↓wm_6, ↓am_7, ↓wm_7, ↓am_15, ↓wm_15, ↓am_17, ↓wm_17, ↓am_19, ↓wm_19, ↓am_20, ↓wm_20, ↓am_27, ↓wm_27, ↓am_29, ↓wm_29, ↓am_30, ↓wm_30, ↓am_32, ↓wm_32, ↓am_33, ↓wm_33, ↓am_34, ↓wm_34, ↓am_39, ↓wm_39, ↓am_41, ↓wm_41, ↓am_42, ↓wm_42, ↓am_44, ↓wm_44, ↓am_45, ↓wm_45, ↓am_46, ↓wm_46, ↓wn_0, ↓wn_46, or_false, false_or, rc_M, List.getElem?_cons_zero, List.getElem?_cons_succ, List.length_cons, List.length_nil, List.set_cons_zero, List.set_cons_succ, true_and, and_true, Option.toList_some, Option.toList_none, List.cons_append, List.nil_append, ↓reduceIte, not_false_eq_true, not_true_eq_false, Nat.reduceAdd, xj0_01, xj1_01, xb_B, xb_True, xb_False, ↓xj_in, xj_nat, Int.toNat_natCast, xj_lt_t, xj_lt_f, xj_le_t, xj_le_f, xj_eq_t, xj_eq_f, xj_lt, xj_le, xj_eq, xj_add, xj_sub, xj_mul, show ¬ xj 1 = xj 0 from by decide, tn_add, tn_mul, tn_sub, Int.toNat_natCast, Int.reduceToNat, o5, m_isSigned _ hr0, c1, m_fixedOf, r4, s_isOf _ hrr2, c2, Bool.false_eq_true, xb_F, Bool.not_false, Bool.and_false, Int.add_zero]
        rfl
      · simp (disch := omega) only [b217_5, b217_6, b217_9, b217_10, b217_11, b217_14, b217_15, b217_16, b217_17, b217_20, b217_23, b217_24, b217_25, b217_26, b217_29, b217_30, b217_33, b217_36, b217_37, b217_40, b217_41, b217_42, b217_43, b217_46, ↓gm_0, ↓gm_1, ↓gm_2, ↓gm_3, ↓gm_4, ↓gm_5, ↓gm_6, ↓gm_7, ↓gm_8, ↓gm_9, ↓gm_10, ↓gm_11, ↓gm_12, ↓gm_13, ↓gm_14, ↓gm_15, ↓gm_16, ↓gm_17, ↓gm_18, ↓gm_19, ↓gm_20, ↓gm_21, ↓gm_22, ↓gm_23, ↓gm_24, ↓gm_25, ↓gm_26, ↓gm_27, ↓gm_28, ↓gm_29, ↓gm_30, ↓gm_31, ↓gm_32, ↓gm_33, ↓gm_34, ↓gm_35, ↓gm_36, ↓gm_37, ↓gm_38, ↓gm_39, ↓gm_40, ↓gm_41, ↓gm_42, ↓gm_43, ↓gm_44, ↓gm_45, ↓gm_46, ↓pm_1, ↓pm_2, ↓pm_8, ↓pm_9, ↓pm_10, ↓pm_11, ↓pm_12, ↓pm_13, ↓pm_14, ↓pm_16, ↓pm_18, ↓pm_21, ↓pm_22, ↓pm_23, ↓pm_24, ↓pm_25, ↓pm_26, ↓pm_28, ↓pm_31, ↓pm_35, ↓pm_36, ↓pm_37, ↓pm_38, ↓pm_40, ↓pm_43, ↓am_0, ↓wm_0, ↓am_3, ↓wm_3, ↓am_4, ↓wm_4, ↓am_5, ↓wm_5, ↓am_6, ↓wm_6, ↓am_7, ↓wm_7, ↓am_15, ↓wm_15, ↓am_17, ↓wm_17, ↓am_19, ↓wm_19, ↓am_20, ↓wm_20, ↓am_27, ↓wm_27, ↓am_29, ↓wm_29, ↓am_30, ↓wm_30, ↓am_32, ↓wm_32, ↓am_33, ↓wm_33, ↓am_34, ↓wm_34, ↓am_39, ↓wm_39, ↓am_41, ↓wm_41, ↓am_42, ↓wm_42, ↓am_44, ↓wm_44, ↓am_45, ↓wm_45, ↓am_46, ↓wm_46, ↓wn_0, ↓wn_46, or_false, false_or, rc_M, List.getElem?_cons_zero, List.getElem?_cons_succ, List.length_cons, List.length_nil, List.set_cons_zero, List.set_cons_succ, true_and, and_true, Option.toList_some, Option.toList_none, List.cons_append, List.nil_append, ↓reduceIte, not_false_eq_true, not_true_eq_false, Nat.reduceAdd, xj0_01, xj1_01, xb_B, xb_True, xb_False, ↓xj_in, xj_nat, Int.toNat_natCast, xj_lt_t, xj_lt_f, xj_le_t, xj_le_f, xj_eq_t, xj_eq_f, xj_lt, xj_le, xj_eq, xj_add, xj_sub, xj_mul, show ¬ xj 1 = xj 0 from by decide, tn_add, tn_mul, tn_sub, Int.toNat_natCast, Int.reduceToNat, o5, m_isSigned _ hr0, c1, m_fixedOf, r4, s_isOf _ hrr2, c2, Bool.false_eq_true, xb_F, xb_T, Bool.not_false, Bool.and_true]
        rfl
    · simp (disch := omega) only [b217_5, b217_6, b217_9, b217_10, b217_11, b217_14, b217_15, b217_16, b217_17, b217_20, b217_23, b217_24, b217_25, b217_26, b217_29, b217_30, b217_33, b217_36, b217_37, b217_40, b217_41, b217_42, b217_43, b217_46, ↓gm_0, ↓gm_1, ↓gm_2, ↓gm_3, ↓gm_4, ↓gm_5, ↓gm_6, ↓gm_7, ↓gm_8, ↓gm_9, ↓gm_10, ↓gm_11, ↓gm_12, ↓gm_13, ↓gm_14, ↓gm_15, ↓gm_16, ↓gm_17, ↓gm_18, ↓gm_19, ↓gm_20, ↓gm_21, ↓gm_22, ↓gm_23, ↓gm_24, ↓gm_25, ↓gm_26, ↓gm_27, ↓gm_28, ↓gm_29, ↓gm_30, ↓gm_31, ↓gm_32, ↓gm_33, ↓gm_34, ↓gm_35, ↓gm_36, ↓gm_37, ↓gm_38, ↓gm_39, ↓gm_40, ↓gm_41, ↓gm_42, ↓gm_43, ↓gm_44, ↓gm_45, ↓gm_46, ↓pm_1, ↓pm_2, ↓pm_8, ↓pm_9, ↓pm_10, ↓pm_11, ↓pm_12, ↓pm_13, ↓pm_14, ↓pm_16, ↓pm_18, ↓pm_21, ↓pm_22, ↓pm_23, ↓pm_24, ↓pm_25, ↓pm_26, ↓pm_28, ↓pm_31, ↓pm_35, ↓pm_36, ↓pm_37, ↓pm_38, ↓pm_40, ↓pm_43, ↓am_0, ↓wm_0, ↓am_3, ↓wm_3, ↓am_4, ↓wm_4, ↓am_5, ↓wm_5, ↓am_6, ↓wm_6, ↓am_7, ↓wm_7, ↓am_15, ↓wm_15, ↓am_17, ↓wm_17, ↓am_19, ↓wm_19, ↓am_20, ↓wm_20, ↓am_27, ↓wm_27, ↓am_29, ↓wm_29, ↓am_30, ↓wm_30, ↓am_32, ↓wm_32, ↓am_33, ↓wm_33, ↓am_34, ↓wm_34, ↓am_39, ↓wm_39, ↓am_41, ↓wm_41, ↓am_42, ↓wm_42, ↓am_44, ↓wm_44, ↓am_45, ↓wm_45, ↓am_46, ↓wm_46, ↓wn_0, ↓wn_46, or_false, false_or, rc_M, List.getElem?_cons_zero, List.getElem?_cons_succ, List.length_cons, List.length_nil, List.set_cons_zero, List.set_cons_succ, true_and, and_true, Option.toList_some, Option.toList_none, List.cons_append, List.nil_append, ↓reduceIte, not_false_eq_true, not_true_eq_false, Nat.reduceAdd, xj0_01, xj1_01, xb_B, xb_True, xb_False, ↓xj_in, xj_nat, Int.toNat_natCast, xj_lt_t, xj_lt_f, xj_le_t, xj_le_f, xj_eq_t, xj_eq_f, xj_lt, xj_le, xj_eq, xj_add, xj_sub, xj_mul, show ¬ xj 1 = xj 0 from by decide, tn_add, tn_mul, tn_sub, Int.toNat_natCast, Int.reduceToNat, o5, m_isSigned _ hr0, c1, xb_T, Bool.not_true, Bool.false_and, Bool.false_eq_true, Int.add_zero]
      rfl
end XS67
