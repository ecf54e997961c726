/-! the model reads a clause of a rule -/
def frC (t : Nat) (R R' : Md) : Prop := (∀ j, (j < 8 ∨ j = 11 ∨ j = 14 ∨ 16 < j) → mS R' j = mS R j) ∧ (∀ j, (j < 3 ∨ (6 < j ∧ j < 15) ∨ 15 < j) → mA R' j = mA R j) ∧ (∀ i, (i < 400 * t ∨ 400 * t + 400 ≤ i) → mA R' 3 i = mA R 3 i) ∧ (∀ i, i ≠ t → mA R' 4 i = mA R 4 i ∧ mA R' 6 i = mA R 6 i) ∧ ∀ i, (i < 48 * t ∨ 48 * t + 48 ≤ i) → mA R' 5 i = mA R 5 i
theorem frC_t {t : Nat} {R R' R'' : Md} (h : frC t R R') (h' : frC t R' R'') : frC t R R'' := ⟨fun j q => (h'.1 j q).trans (h.1 j q), fun j q => (h'.2.1 j q).trans (h.2.1 j q), fun j q => (h'.2.2.1 j q).trans (h.2.2.1 j q), fun j q => ⟨((h'.2.2.2.1 j q).1).trans (h.2.2.2.1 j q).1, ((h'.2.2.2.1 j q).2).trans (h.2.2.2.1 j q).2⟩, fun j q => (h'.2.2.2.2 j q).trans (h.2.2.2.2 j q)⟩
theorem frC_X {t : Nat} {R R' : Md} (h : frX t R R') : frC t R R' := ⟨h.1, fun j q => h.2.1 j (by omega), h.2.2.1, fun i q => ⟨h.2.2.2 i q, by rw [h.2.1 6 (by omega)]⟩, fun i _ => by rw [h.2.1 5 (by omega)]⟩
theorem frC_5 {t i : Nat} {R : Md} {v : Int} (h : 48 * t ≤ i ∧ i < 48 * t + 48) : frC t R (sA R 5 (upI (mA R 5) i v)) := ⟨fun _ _ => rfl, fun j q => mA_Ao (by omega), fun _ _ => rfl, fun _ _ => ⟨rfl, rfl⟩, fun j q => by rw [mA_A, up_n (by omega)]⟩
theorem frC_6 {t : Nat} {R : Md} {v : Int} : frC t R (sA R 6 (upI (mA R 6) t v)) := ⟨fun _ _ => rfl, fun j q => mA_Ao (by omega), fun _ _ => rfl, fun j q => ⟨rfl, by rw [mA_A, up_n q]⟩, fun _ _ => rfl⟩
/-- the rows of a clause: where its sum begins and ends, its test -/
def ixR (g : Nat → Int) (i : Nat) (b0 b1 : Nat) (tst : Bool) (b2 : Nat) : Prop := g i = (b0 : Nat) ∧ g (i + 1) = (b1 : Nat) ∧ g (i + 2) = (if tst = true then (b1 : Int) else -1) ∧ g (i + 3) = (b2 : Nat)
section XS84
variable {D b k p q n t c v : Nat} {f g : Nat → xk_C} {w : Nat × Nat × Nat} {K : Option Value → xk_S → Prop} {R : Md} {x y z : Int} {T : Nat → Int} {s : Ps} {cs : List St}
theorem u_sign (hD : 11 ≤ D) (hp : rP R T n t (p, c, cs)) (h8 : mS R 8 = (p : Nat)) (h6 : mA R 6 t = (k : Nat)) (hk : k < 12) (hw : wdA T n p = 16) (hr : cs.length ≤ p) (hok : ∀ s1 (tst : Bool) s2, gSum T n (nxT T n p, c, cs) = .inr s1 → (tst = true ∧ wdA T n s1.1 = 17 ∧ gT T n (nxT T n s1.1, s1.2) = .inr s2 ∨ tst = false ∧ wdA T n s1.1 ≠ 17 ∧ s2 = s1) → ∀ R', frC t R R' → rP R' T n t s2 → mA R' 6 t = (k + 1 : Nat) → ixR (mA R' 5) (48 * t + 4 * k) cs.length s1.2.2.length tst s2.2.2.length → (∀ i, (i < 48 * t + 4 * k ∨ 48 * t + 4 * k + 4 ≤ i) → mA R' 5 i = mA R 5 i) → K (some (.int (xj 1))) (xm f b R', w)) (hno : ∀ e : Nat, (gSum T n (nxT T n p, c, cs) = .inl e ∨ ∃ s1, gSum T n (nxT T n p, c, cs) = .inr s1 ∧ wdA T n s1.1 = 17 ∧ gT T n (nxT T n s1.1, s1.2) = .inl e) → ∀ R', frC t R R' → mS R' 9 = (e : Nat) → K (some (.int (xj 0))) (xm f b R', w)) : xk_Cl D 170 [.ref b] (xm f b R, w) K := by
  rw [e170 (by omega)]
  have hn := hp.1.2.1
  have ht6 := hp.2.1
  have ha := rP_at hp
  have h11 := hp.2.2.1
  have h4 : mA R 4 t = (cs.length : Nat) := hp.2.2.2.2.2.2.2.1
  have h14 : cs.length ≤ 400 := hp.2.2.2.2.2.2.2.2.1
  have hwl := wd_lt (T := T) (n := n) (p := p) (by omega)
  have he : ltE T n p ≤ n := by rw [← wd_en (T := T) (n := n) (p := p) (by omega)]; exact (en_rng hwl.1).2
  obtain ⟨n1, n2, n3⟩ := nx_rng (T := T) hn hwl.1
  have ei : (48 : Int) * (t : Nat) + 4 * (k : Nat) = ((48 * t + 4 * k : Nat) : Int) := by omega
  have hp2 : rP (sA (sS R 8 (ltE T n p : Nat)) 5 (upI (mA R 5) (48 * t + 4 * k) (cs.length : Nat))) T n t (nxT T n p, c, cs) := rP_8 hp he (by unfold nxT; rw [wd_en (by omega)])
  have f2 : frC t R (sA (sS R 8 (ltE T n p : Nat)) 5 (upI (mA R 5) (48 * t + 4 * k) (cs.length : Nat))) := frC_t (frC_X (frX_S (j := 8) (v := (ltE T n p : Nat)) (by omega))) (frC_5 (R := sS R 8 (ltE T n p : Nat)) (by omega))
  simp (disch := omega) only [b170_0, b170_1, b170_4, b170_6, b170_7, b170_10, b170_11, b170_12, b170_13, b170_16, b170_17, b170_20, b170_21, b170_22, b170_23, b170_24, b170_25, b170_28, b170_29, b170_30, b170_33, b170_34, b170_37, b170_38, b170_39, ↓gm_0, ↓gm_1, ↓gm_2, ↓gm_3, ↓gm_4, ↓gm_5, ↓gm_6, ↓gm_7, ↓gm_8, ↓gm_9, ↓gm_10, ↓gm_11, ↓gm_12, ↓gm_13, ↓gm_14, ↓gm_15, ↓gm_16, ↓gm_17, ↓gm_18, ↓gm_19, ↓gm_20, ↓gm_21, ↓gm_22, ↓gm_23, ↓gm_24, ↓gm_25, ↓gm_26, ↓gm_27, ↓gm_28, ↓gm_29, ↓gm_30, ↓gm_31, ↓gm_32, ↓gm_33, ↓gm_34, ↓gm_35, ↓gm_36, ↓gm_37, ↓gm_38, ↓gm_39, ↓gm_40, ↓gm_41, ↓gm_42, ↓gm_43, ↓gm_44, ↓gm_45, ↓gm_46, ↓pm_1, ↓pm_2, ↓pm_8, ↓pm_9, ↓pm_10, ↓pm_11, ↓pm_12, ↓pm_13, ↓pm_14, ↓pm_16, ↓pm_18, ↓pm_21, ↓pm_22, ↓pm_23, ↓pm_24, ↓pm_25, ↓pm_26, ↓pm_28, ↓pm_31, ↓pm_35, ↓pm_36, ↓pm_37, ↓pm_38, ↓pm_40, ↓pm_43, ↓am_0, ↓wm_0, ↓am_3, ↓wm_3, ↓am_4, ↓wm_4, ↓am_5, ↓wm_5, ↓am_6, ↓wm_6, ↓am_7, ↓wm_7, ↓am_15, ↓wm_15, ↓am_17, ↓wm_17, ↓am_19, ↓wm_19, ↓am_20, ↓wm_20, ↓am_27, ↓wm_27, ↓am_29, ↓wm_29, ↓am_30, ↓wm_30, ↓am_32, ↓wm_32, ↓am_33, ↓wm_33, ↓am_34, ↓wm_34, ↓am_39, ↓wm_39, ↓am_41, ↓wm_41, ↓am_42, ↓wm_42, ↓am_44, ↓wm_44, ↓am_45, ↓wm_45, ↓am_46, ↓wm_46, ↓wn_0, ↓wn_46, or_false, false_or, rc_M, List.getElem?_cons_zero, List.getElem?_cons_succ, List.length_cons, List.length_nil, List.set_cons_zero, List.set_cons_succ, true_and, and_true, Option.toList_some, Option.toList_none, List.cons_append, List.nil_append, ↓reduceIte, not_false_eq_true, not_true_eq_false, Nat.reduceAdd, xj0_01, xj1_01, xb_B, xb_True, xb_False, ↓xj_in, xj_nat, Int.toNat_natCast, xj_lt_t, xj_lt_f, xj_le_t, xj_le_f, xj_eq_t, xj_eq_f, xj_lt, xj_le, xj_eq, xj_add, xj_sub, xj_mul, show ¬ xj 1 = xj 0 from by decide, tn_add, tn_mul, tn_sub, Int.toNat_natCast, Int.reduceToNat, mS_S, mS_So, mS_A, mS_J, mA_A, mA_Ao, mA_S, mA_J, mJ_J, mJ_Jo, mJ_S, mJ_A, sS_S, sA_A, sS_A, sS_J, sJ_A, m_passWord _ hp.1 h8 ha.1, h11, h6, h4, ei]
  rw [b170_40, rc_M, true_and]
  refine u_sum (by omega) hp2 (by show cs.length < nxT T n p; omega) (fun s1 hs1 R3 f3 p3 => ?_) (fun e hs1 R3 f3 m9 => ?_)
  · obtain ⟨⟨_, r2, r3, r4⟩, r5⟩ := gSum_rm hn hs1
    have r4 : s1.2.2.length + nxT T n p ≤ cs.length + s1.1 := r4
    have r5 : nxT T n p < s1.1 := r5
    have g11 := p3.2.2.1
    have g4 := p3.2.2.2.2.2.2.2.1
    have g6 : mA R3 6 t = (k : Nat) := by rw [f3.2.1 6 (by omega), mA_Ao (by decide)]; exact h6
    have g5 : mA R3 5 = upI (mA R 5) (48 * t + 4 * k) (cs.length : Nat) := by rw [f3.2.1 5 (by omega), mA_A]
    obtain ⟨q8, h83, hq, hsk⟩ := p3.2.2.2.2.1
    have e1 : ((48 * t + 4 * k : Nat) : Int) + 1 = ((48 * t + 4 * k + 1 : Nat) : Int) := by omega
    have e2 : ((48 * t + 4 * k : Nat) : Int) + 2 = ((48 * t + 4 * k + 2 : Nat) : Int) := by omega
    have e3 : ((48 * t + 4 * k : Nat) : Int) + 3 = ((48 * t + 4 * k + 3 : Nat) : Int) := by omega
    -- the row of clauses as it stands before the test
    have p4 : ∀ A, rP (sA R3 5 A) T n t s1 := fun _ => p3
    have tw := fun A K' => m_takesWord (D := D - 1) (b := b) (f := f) (w := w) (K := K') (R := sA R3 5 A) (u := 26982) (k := 17) (by omega) (p4 A).1 h83 hq (by omega) rfl
    rw [hsk] at tw
    have fA : ∀ v, frC t R (sA R3 5 (upI (upI (mA R3 5) (48 * t + 4 * k + 1) (s1.2.2.length : Nat)) (48 * t + 4 * k + 2) v)) := fun v => by
      have a1 := frC_5 (t := t) (R := R3) (i := 48 * t + 4 * k + 1) (v := (s1.2.2.length : Nat)) (by omega)
      have a2 := frC_5 (t := t) (R := sA R3 5 (upI (mA R3 5) (48 * t + 4 * k + 1) (s1.2.2.length : Nat))) (i := 48 * t + 4 * k + 2) (v := v) (by omega)
      rw [mA_A, sA_A] at a2
      exact frC_t f2 (frC_t (frC_X (frX_P f3)) (frC_t a1 a2))
    -- the end: the test's end and one clause more
    have fin : ∀ (tst : Bool) (s2 : Ps) (R5 : Md) (l1 : Value), frC t R R5 → rP R5 T n t s2 → mA R5 6 t = (k : Nat) → (tst = true ∧ wdA T n s1.1 = 17 ∧ gT T n (nxT T n s1.1, s1.2) = .inr s2 ∨ tst = false ∧ wdA T n s1.1 ≠ 17 ∧ s2 = s1) → mA R5 5 = upI (upI (upI (mA R 5) (48 * t + 4 * k) (cs.length : Nat)) (48 * t + 4 * k + 1) (s1.2.2.length : Nat)) (48 * t + 4 * k + 2) (if tst = true then (s1.2.2.length : Int) else -1) → xk_B (D - 1) 170 110 [.ref b, .int (xj ((48 * t + 4 * k : Nat) : Int))] [] (xm f b R5, w) K := by
      intro tst s2 R5 l1 f5 p5 k5 hc c5
      have i11 := p5.2.2.1
      have i4 := p5.2.2.2.2.2.2.2.1
      have ek : ((k : Nat) : Int) + 1 = ((k + 1 : Nat) : Int) := by omega
      have a3 := frC_5 (t := t) (R := R5) (i := 48 * t + 4 * k + 3) (v := (s2.2.2.length : Nat)) (by omega)
      have a4 := frC_6 (t := t) (R := sA R5 5 (upI (mA R5 5) (48 * t + 4 * k + 3) (s2.2.2.length : Nat))) (v := (k + 1 : Nat))
      rw [mA_Ao (by decide)] at a4
      have po := hok s1 tst s2 hs1 hc (sA (sA R5 5 (upI (mA R5 5) (48 * t + 4 * k + 3) (s2.2.2.length : Nat))) 6 (upI (mA R5 6) t (k + 1 : Nat))) (frC_t f5 (frC_t a3 a4)) p5 (by rw [mA_A, up_e]) (by
        rw [mA_Ao (by decide), mA_A, c5]
        exact ⟨by rw [up_n (by omega), up_n (by omega), up_n (by omega), up_e], by rw [up_n (by omega), up_n (by omega), up_e], by rw [up_n (by omega), up_e], by rw [up_e]⟩) (fun i hi => by
        rw [mA_Ao (by decide), mA_A, c5, up_n (by omega), up_n (by omega), up_n (by omega), up_n (by omega)])
      simp (disch := omega) only [b170_110, b170_111, b170_114, b170_115, b170_116, b170_117, b170_118, b170_121, b170_122, b170_125, b170_126, b170_127, b170_128, b170_131, b170_132, b170_135, b170_136, b170_137, b170_138, b170_139, b170_140, b170_141, b170_141o, b170_141z, b170_141c, ↓gm_0, ↓gm_1, ↓gm_2, ↓gm_3, ↓gm_4, ↓gm_5, ↓gm_6, ↓gm_7, ↓gm_8, ↓gm_9, ↓gm_10, ↓gm_11, ↓gm_12, ↓gm_13, ↓gm_14, ↓gm_15, ↓gm_16, ↓gm_17, ↓gm_18, ↓gm_19, ↓gm_20, ↓gm_21, ↓gm_22, ↓gm_23, ↓gm_24, ↓gm_25, ↓gm_26, ↓gm_27, ↓gm_28, ↓gm_29, ↓gm_30, ↓gm_31, ↓gm_32, ↓gm_33, ↓gm_34, ↓gm_35, ↓gm_36, ↓gm_37, ↓gm_38, ↓gm_39, ↓gm_40, ↓gm_41, ↓gm_42, ↓gm_43, ↓gm_44, ↓gm_45, ↓gm_46, ↓pm_1, ↓pm_2, ↓pm_8, ↓pm_9, ↓pm_10, ↓pm_11, ↓pm_12, ↓pm_13, ↓pm_14, ↓pm_16, ↓pm_18, ↓pm_21, ↓pm_22, ↓pm_23, ↓pm_24, ↓pm_25, ↓pm_26, ↓pm_28, ↓pm_31, ↓pm_35, ↓pm_36, ↓pm_37, ↓pm_38, ↓pm_40, ↓pm_43, ↓am_0, ↓wm_0, ↓am_3, ↓wm_3, ↓am_4, ↓wm_4, ↓am_5, ↓wm_5, ↓am_6, ↓wm_6, ↓am_7, ↓wm_7, ↓am_15, ↓wm_15, ↓am_17, ↓wm_17, ↓am_19, ↓wm_19, ↓am_20, ↓wm_20, ↓am_27, ↓wm_27, ↓am_29, ↓wm_29, ↓am_30, ↓wm_30, ↓am_32, ↓wm_32, ↓am_33, ↓wm_33, ↓am_34, ↓wm_34, ↓am_39, ↓wm_39, ↓am_41, ↓wm_41, ↓am_42, ↓wm_42, ↓am_44, ↓wm_44, ↓am_45, ↓wm_45, ↓am_46, ↓wm_46, ↓wn_0, ↓wn_46, or_false, false_or, rc_M, List.getElem?_cons_zero, List.getElem?_cons_succ, List.length_cons, List.length_nil, List.set_cons_zero, List.set_cons_succ, true_and, and_true, Option.toList_some, Option.toList_none, List.cons_append, List.nil_append, ↓reduceIte, not_false_eq_true, not_true_eq_false, Nat.reduceAdd, xj0_01, xj1_01, xb_B, xb_True, xb_False, ↓xj_in, xj_nat, Int.toNat_natCast, xj_lt_t, xj_lt_f, xj_le_t, xj_le_f, xj_eq_t, xj_eq_f, xj_lt, xj_le, xj_eq, xj_add, xj_sub, xj_mul, show ¬ xj 1 = xj 0 from by decide, tn_add, tn_mul, tn_sub, Int.toNat_natCast, Int.reduceToNat, mS_S, mS_So, mS_A, mS_J, mA_A, mA_Ao, mA_S, mA_J, mJ_J, mJ_Jo, mJ_S, mJ_A, sS_S, sA_A, sS_A, sS_J, sJ_A, i11, i4, k5, ek, e3]
      exact po
    by_cases cw : wdA T n s1.1 = 17
    · have xw : ∀ i, @xb (wdA T n s1.1 = ((17 : Nat) : Int)) i = xj 1 := fun i => xb_T cw
      have hw1 := wd_lt (T := T) (n := n) (p := s1.1) (by omega)
      have he1 : ltE T n s1.1 ≤ n := by rw [← wd_en (T := T) (n := n) (p := s1.1) (by omega)]; exact (en_rng hw1.1).2
      obtain ⟨m1, m2, m3⟩ := nx_rng (T := T) hn hw1.1
      have iw : (if wdA T n s1.1 = ((17 : Nat) : Int) then ltE T n s1.1 else s1.1) = ltE T n s1.1 := if_pos cw
      have f5 := frC_t (fA (s1.2.2.length : Nat)) (frC_X (frX_S (t := t) (j := 8) (v := (ltE T n s1.1 : Nat)) (by omega)))
      have p5 : rP (sS (sA R3 5 (upI (upI (mA R3 5) (48 * t + 4 * k + 1) (s1.2.2.length : Nat)) (48 * t + 4 * k + 2) (s1.2.2.length : Nat))) 8 (ltE T n s1.1 : Nat)) T n t (nxT T n s1.1, s1.2) := rP_8 (p4 _) he1 (by unfold nxT; rw [wd_en (by omega)])
      have uu : ∀ (G : Nat → Int) (i : Nat) (u v : Int), upI (upI G i u) i v = upI G i v := fun G i u v => by
        funext j
        by_cases cj : j = i
        · rw [cj, up_e, up_e]
        · rw [up_n cj, up_n cj, up_n cj]
      simp (disch := omega) only [b170_43, b170_46, b170_47, b170_48, b170_49, b170_52, b170_53, b170_54, b170_55, b170_56, b170_59, b170_60, b170_63, b170_64, b170_65, b170_66, b170_69, b170_70, b170_71, b170_72, b170_73, b170_74, b170_75, b170_78, b170_81, b170_84, b170_85, b170_88, b170_89, b170_90, b170_91, b170_92, b170_95, b170_96, b170_99, b170_100, b170_101, b170_47o, b170_47z, b170_47c, ↓gm_0, ↓gm_1, ↓gm_2, ↓gm_3, ↓gm_4, ↓gm_5, ↓gm_6, ↓gm_7, ↓gm_8, ↓gm_9, ↓gm_10, ↓gm_11, ↓gm_12, ↓gm_13, ↓gm_14, ↓gm_15, ↓gm_16, ↓gm_17, ↓gm_18, ↓gm_19, ↓gm_20, ↓gm_21, ↓gm_22, ↓gm_23, ↓gm_24, ↓gm_25, ↓gm_26, ↓gm_27, ↓gm_28, ↓gm_29, ↓gm_30, ↓gm_31, ↓gm_32, ↓gm_33, ↓gm_34, ↓gm_35, ↓gm_36, ↓gm_37, ↓gm_38, ↓gm_39, ↓gm_40, ↓gm_41, ↓gm_42, ↓gm_43, ↓gm_44, ↓gm_45, ↓gm_46, ↓pm_1, ↓pm_2, ↓pm_8, ↓pm_9, ↓pm_10, ↓pm_11, ↓pm_12, ↓pm_13, ↓pm_14, ↓pm_16, ↓pm_18, ↓pm_21, ↓pm_22, ↓pm_23, ↓pm_24, ↓pm_25, ↓pm_26, ↓pm_28, ↓pm_31, ↓pm_35, ↓pm_36, ↓pm_37, ↓pm_38, ↓pm_40, ↓pm_43, ↓am_0, ↓wm_0, ↓am_3, ↓wm_3, ↓am_4, ↓wm_4, ↓am_5, ↓wm_5, ↓am_6, ↓wm_6, ↓am_7, ↓wm_7, ↓am_15, ↓wm_15, ↓am_17, ↓wm_17, ↓am_19, ↓wm_19, ↓am_20, ↓wm_20, ↓am_27, ↓wm_27, ↓am_29, ↓wm_29, ↓am_30, ↓wm_30, ↓am_32, ↓wm_32, ↓am_33, ↓wm_33, ↓am_34, ↓wm_34, ↓am_39, ↓wm_39, ↓am_41, ↓wm_41, ↓am_42, ↓wm_42, ↓am_44, ↓wm_44, ↓am_45, ↓wm_45, ↓am_46, ↓wm_46, ↓wn_0, ↓wn_46, or_false, false_or, rc_M, List.getElem?_cons_zero, List.getElem?_cons_succ, List.length_cons, List.length_nil, List.set_cons_zero, List.set_cons_succ, true_and, and_true, Option.toList_some, Option.toList_none, List.cons_append, List.nil_append, ↓reduceIte, not_false_eq_true, not_true_eq_false, Nat.reduceAdd, xj0_01, xj1_01, xb_B, xb_True, xb_False, ↓xj_in, xj_nat, Int.toNat_natCast, xj_lt_t, xj_lt_f, xj_le_t, xj_le_f, xj_eq_t, xj_eq_f, xj_lt, xj_le, xj_eq, xj_add, xj_sub, xj_mul, show ¬ xj 1 = xj 0 from by decide, tn_add, tn_mul, tn_sub, Int.toNat_natCast, Int.reduceToNat, mS_S, mS_So, mS_A, mS_J, mA_A, mA_Ao, mA_S, mA_J, mJ_J, mJ_Jo, mJ_S, mJ_A, sS_S, sA_A, sS_A, sS_J, sJ_A, g11, g4, e1, e2, tw, iw, xw, uu]
      rw [b170_102, rc_M, true_and]
      refine u_tested (by omega) p5 (by show s1.2.2.length < nxT T n s1.1; omega) (fun s2 hs2 R6 f6 p6 => ?_) (fun e hs2 R6 f6 m9 => ?_)
      · have k6 : mA R6 6 t = (k : Nat) := by rw [f6.2.1 6 (by omega)]; exact g6
        have c6 := f6.2.1 5 (by omega)
        rw [mA_A, g5] at c6
        have po := fin true s2 R6 xk_dd (frC_t f5 (frC_X f6)) p6 k6 (Or.inl ⟨rfl, cw, hs2⟩) c6
        simp (disch := omega) only [b170_105, b170_108, b170_109, b170_109o, b170_109z, b170_109c, List.getElem?_cons_zero, List.getElem?_cons_succ, List.length_cons, List.length_nil, List.set_cons_zero, List.set_cons_succ, true_and, and_true, Option.toList_some, Option.toList_none, List.cons_append, List.nil_append, ↓reduceIte, not_false_eq_true, not_true_eq_false, Nat.reduceAdd, xj0_01, xj1_01, xb_B, xb_True, xb_False, ↓xj_in, xj_nat, Int.toNat_natCast, xj_lt_t, xj_lt_f, xj_le_t, xj_le_f, xj_eq_t, xj_eq_f, xj_lt, xj_le, xj_eq, xj_add, xj_sub, xj_mul, show ¬ xj 1 = xj 0 from by decide]
        exact po
      · have po := hno e (Or.inr ⟨s1, hs1, cw, hs2⟩) R6 (frC_t f5 (frC_X f6)) m9
        simp (disch := omega) only [b170_105, b170_108, b170_109, b170_109o, b170_109z, b170_109c, List.getElem?_cons_zero, List.getElem?_cons_succ, List.length_cons, List.length_nil, List.set_cons_zero, List.set_cons_succ, true_and, and_true, Option.toList_some, Option.toList_none, List.cons_append, List.nil_append, ↓reduceIte, not_false_eq_true, not_true_eq_false, Nat.reduceAdd, xj0_01, xj1_01, xb_B, xb_True, xb_False, ↓xj_in, xj_nat, Int.toNat_natCast, xj_lt_t, xj_lt_f, xj_le_t, xj_le_f, xj_eq_t, xj_eq_f, xj_lt, xj_le, xj_eq, xj_add, xj_sub, xj_mul, show ¬ xj 1 = xj 0 from by decide]
        exact po
    · have xw : ∀ i, @xb (wdA T n s1.1 = ((17 : Nat) : Int)) i = xj 0 := fun i => xb_F cw
      have iw : (if wdA T n s1.1 = ((17 : Nat) : Int) then ltE T n s1.1 else s1.1) = s1.1 := if_neg cw
      have f5 := frC_t (fA (-1)) (frC_X (frX_S (t := t) (j := 8) (v := (s1.1 : Nat)) (by omega)))
      have p5 : rP (sS (sA R3 5 (upI (upI (mA R3 5) (48 * t + 4 * k + 1) (s1.2.2.length : Nat)) (48 * t + 4 * k + 2) (-1))) 8 (s1.1 : Nat)) T n t s1 := rP_8 (p4 _) r2 (at_sk hn r3)
      have po := fin false s1 _ xk_dd f5 p5 g6 (Or.inr ⟨rfl, cw, rfl⟩) (by rw [mA_S, mA_A, g5]; rfl)
      simp (disch := omega) only [b170_43, b170_46, b170_47, b170_48, b170_49, b170_52, b170_53, b170_54, b170_55, b170_56, b170_59, b170_60, b170_63, b170_64, b170_65, b170_66, b170_69, b170_70, b170_71, b170_72, b170_73, b170_74, b170_75, b170_78, b170_81, b170_47o, b170_47z, b170_47c, ↓gm_0, ↓gm_1, ↓gm_2, ↓gm_3, ↓gm_4, ↓gm_5, ↓gm_6, ↓gm_7, ↓gm_8, ↓gm_9, ↓gm_10, ↓gm_11, ↓gm_12, ↓gm_13, ↓gm_14, ↓gm_15, ↓gm_16, ↓gm_17, ↓gm_18, ↓gm_19, ↓gm_20, ↓gm_21, ↓gm_22, ↓gm_23, ↓gm_24, ↓gm_25, ↓gm_26, ↓gm_27, ↓gm_28, ↓gm_29, ↓gm_30, ↓gm_31, ↓gm_32, ↓gm_33, ↓gm_34, ↓gm_35, ↓gm_36, ↓gm_37, ↓gm_38, ↓gm_39, ↓gm_40, ↓gm_41, ↓gm_42, ↓gm_43, ↓gm_44, ↓gm_45, ↓gm_46, ↓pm_1, ↓pm_2, ↓pm_8, ↓pm_9, ↓pm_10, ↓pm_11, ↓pm_12, ↓pm_13, ↓pm_14, ↓pm_16, ↓pm_18, ↓pm_21, ↓pm_22, ↓pm_23, ↓pm_24, ↓pm_25, ↓pm_26, ↓pm_28, ↓pm_31, ↓pm_35, ↓pm_36, ↓pm_37, ↓pm_38, ↓pm_40, ↓pm_43, ↓am_0, ↓wm_0, ↓am_3, ↓wm_3, ↓am_4, ↓wm_4, ↓am_5, ↓wm_5, ↓am_6, ↓wm_6, ↓am_7, ↓wm_7, ↓am_15, ↓wm_15, ↓am_17, ↓wm_17, ↓am_19, ↓wm_19, ↓am_20, ↓wm_20, ↓am_27, ↓wm_27, ↓am_29, ↓wm_29, ↓am_30, ↓wm_30, ↓am_32, ↓wm_32, ↓am_33, ↓wm_33, ↓am_34, ↓wm_34, ↓am_39, ↓wm_39, ↓am_41, ↓wm_41, ↓am_42, ↓wm_42, ↓am_44, ↓wm_44, ↓am_45, ↓wm_45, ↓am_46, ↓wm_46, ↓wn_0, ↓wn_46, or_false, false_or, rc_M, List.getElem?_cons_zero, List.getElem?_cons_succ, List.length_cons, List.length_nil, List.set_cons_zero, List.set_cons_succ, true_and, and_true, Option.toList_some, Option.toList_none, List.cons_append, List.nil_append, ↓reduceIte, not_false_eq_true, not_true_eq_false, Nat.reduceAdd, xj0_01, xj1_01, xb_B, xb_True, xb_False, ↓xj_in, xj_nat, Int.toNat_natCast, xj_lt_t, xj_lt_f, xj_le_t, xj_le_f, xj_eq_t, xj_eq_f, xj_lt, xj_le, xj_eq, xj_add, xj_sub, xj_mul, show ¬ xj 1 = xj 0 from by decide, tn_add, tn_mul, tn_sub, Int.toNat_natCast, Int.reduceToNat, mS_S, mS_So, mS_A, mS_J, mA_A, mA_Ao, mA_S, mA_J, mJ_J, mJ_Jo, mJ_S, mJ_A, sS_S, sA_A, sS_A, sS_J, sJ_A, g11, g4, e1, e2, tw, iw, xw]
      exact po
  · have po := hno e (Or.inl hs1) R3 (frC_t f2 (frC_X (frX_P f3))) m9
    simp (disch := omega) only [b170_43, b170_46, b170_47, b170_47o, b170_47z, b170_47c, List.getElem?_cons_zero, List.getElem?_cons_succ, List.length_cons, List.length_nil, List.set_cons_zero, List.set_cons_succ, true_and, and_true, Option.toList_some, Option.toList_none, List.cons_append, List.nil_append, ↓reduceIte, not_false_eq_true, not_true_eq_false, Nat.reduceAdd, xj0_01, xj1_01, xb_B, xb_True, xb_False, ↓xj_in, xj_nat, Int.toNat_natCast, xj_lt_t, xj_lt_f, xj_le_t, xj_le_f, xj_eq_t, xj_eq_f, xj_lt, xj_le, xj_eq, xj_add, xj_sub, xj_mul, show ¬ xj 1 = xj 0 from by decide]
    exact po
end XS84
