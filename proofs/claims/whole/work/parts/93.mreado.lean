/-! the model reads an office, to its end -/
theorem bdN_inl {r : Sum Nat (Nat × Int)} {k : Nat → Int → Qr} {e : Nat} (h : bdN r k = .inl e) : r = .inl e ∨ ∃ p v, r = .inr (p, v) ∧ k p v = .inl e := by
  cases r with
  | inl e' => cases h; exact Or.inl rfl
  | inr s => exact Or.inr ⟨s.1, s.2, rfl, h⟩
theorem bdQ_inl {r : Qr} {k : Nat → (Nat → Int) → Qr} {e : Nat} (h : bdQ r k = .inl e) : r = .inl e ∨ ∃ p A, r = .inr (p, A) ∧ k p A = .inl e := by
  cases r with
  | inl e' => cases h; exact Or.inl rfl
  | inr s => exact Or.inr ⟨s.1, s.2, rfl, h⟩
theorem gNum_fb {T : Nat → Int} {n p e : Nat} {lo hi : Int} (hp : p ≤ n) (h : gNum T n lo hi p = .inl e) : 1 ≤ e ∧ e ≤ 8 * n + 5 := by
  unfold gNum at h
  split at h
  · split at h
    · cases h
    · cases h; omega
  · cases h; omega
theorem gCell_fb {T : Nat → Int} {n i p e : Nat} {lo hi : Int} {A : Nat → Int} (hp : p ≤ n) (h : gCell T n i lo hi p A = .inl e) : 1 ≤ e ∧ e ≤ 8 * n + 5 := by
  rcases bdN_inl h with h1 | ⟨p1, v, h1, h2⟩
  · exact gNum_fb hp h1
  · cases h2
theorem gLine_fb {T : Nat → Int} {n p e : Nat} {A : Nat → Int} (hn : n ≤ 400) (hp : p ≤ n) (hx : nxT T n p ≤ n) (h : gLine T n p A = .inl e) : 1 ≤ e ∧ e ≤ 8 * n + 5 := by
  have cr : ∀ {i p p' : Nat} {lo hi : Int} {A A' : Nat → Int}, gCell T n i lo hi p A = .inr (p', A') → p' ≤ n := fun h => by
    obtain ⟨_, _, _, _, _, _, _, h7, _⟩ := cell_ext hn h
    exact h7
  unfold gLine at h
  split at h
  · unfold gOffL at h
    split at h
    · cases h; omega
    · rcases bdN_inl h with h1 | ⟨p1, v, h1, h⟩
      · exact gNum_fb hx h1
      · have k1 := (gNum_rm hn h1).2.1
        rcases bdQ_inl h with h2 | ⟨p2, A2, h2, h⟩
        · exact gCell_fb k1 h2
        · rcases bdQ_inl h with h3 | ⟨p3, A3, h3, h⟩
          · exact gCell_fb (cr h2) h3
          · cases h
  · split at h
    · cases h; omega
    · split at h
      · unfold gClkL at h
        split at h
        · cases h; omega
        · rcases bdQ_inl h with h2 | ⟨p2, A2, h2, h⟩
          · exact gCell_fb hx h2
          · cases h
      · split at h
        · unfold gAwyL at h
          split at h
          · cases h; omega
          · rcases bdQ_inl h with h1 | ⟨p1, A1, h1, h⟩
            · exact gCell_fb hx h1
            · rcases bdQ_inl h with h2 | ⟨p2, A2, h2, h⟩
              · exact gCell_fb (cr h1) h2
              · rcases bdQ_inl h with h3 | ⟨p3, A3, h3, h⟩
                · exact gCell_fb (cr h2) h3
                · cases h
        · split at h
          · unfold gPapL at h
            split at h
            · cases h; omega
            · rcases bdQ_inl h with h1 | ⟨p1, A1, h1, h⟩
              · exact gCell_fb hx h1
              · rcases bdQ_inl h with h2 | ⟨p2, A2, h2, h⟩
                · exact gCell_fb (cr h1) h2
                · rcases bdQ_inl h with h3 | ⟨p3, A3, h3, h⟩
                  · exact gCell_fb (cr h2) h3
                  · rcases bdQ_inl h with h4 | ⟨p4, A4, h4, h⟩
                    · exact gCell_fb (cr h3) h4
                    · cases h
          · unfold gRstL at h
            rcases bdN_inl h with h1 | ⟨p1, v, h1, h⟩
            · exact gNum_fb hx h1
            · have k1 := (gNum_rm hn h1).2.1
              rcases bdN_inl h with h2 | ⟨p2, v2, h2, h⟩
              · exact gNum_fb k1 h2
              · split at h
                · cases h; omega
                · cases h
theorem gOC_fb {T : Nat → Int} {n k p e : Nat} {A : Nat → Int} (hn : n ≤ 400) (hp : p ≤ n) (h : gOC T n k p A = .inl e) : 1 ≤ e ∧ e ≤ 8 * n + 5 := by
  unfold gOC at h
  split at h
  · rename_i hw
    split at h
    · cases h; omega
    · exact gLine_fb hn hp (nx_rng (T := T) hn (wd_lt (T := T) (n := n) (p := p) (by omega)).1).2.1 h
  · cases h; omega
def gOq (T : Nat → Int) (n f k : Nat) (r : Qr) : Sum Nat (Nat → Int) := match r with
  | .inl e => .inl e
  | .inr q => gOe T n f (k + 1) q.1 q.2
theorem gOf_s {T : Nat → Int} {n f k p : Nat} {A : Nat → Int} : gOf T n (f + 1) k p A = gOq T n f k (gOC T n k p A) := by
  show gOn T n (gOf T n f (k + 1)) (gOC T n k p A) = gOq T n f k (gOC T n k p A)
  generalize gOC T n k p A = r
  cases r with
  | inl e => rfl
  | inr q => rfl
/-- the model behind some clauses of an office -/
def rW (R0 R : Md) (T : Nat → Int) (n p k : Nat) (A : Nat → Int) : Prop := rZ R T n p ∧ mS R 14 = (k : Nat) ∧ k ≤ 40 ∧ mA R 7 = A ∧ zW A ∧ frY R0 R
section XS93
variable {D b k p q n t c v : Nat} {f g : Nat → xk_C} {w : Nat × Nat × Nat} {K : Option Value → xk_S → Prop} {R R0 : Md} {x y z : Int} {T : Nat → Int} {s : Ps} {cs : List St} {A : Nat → Int}
theorem rW_8 (h : rW R0 R T n p k A) {q p' : Nat} (hq : q ≤ n) (e : skT T n q = p') : rW R0 (sS R 8 (q : Nat)) T n p' k A := by
  obtain ⟨h1, h2, h3, h4, h5, h6⟩ := h
  exact ⟨rZ_8 h1 hq e, by rw [mS_So (by decide)]; exact h2, h3, h4, h5, frY_t h6 (frY_S (by omega))⟩
theorem u_loopO (hD : 8 ≤ D) (hT : ∀ i, i < n → 0 ≤ T i ∧ T i ≤ 255) {l0 : Value} (hl0 : l0 = .ref b) : ∀ (fu k p : Nat) (A : Nat → Int) (R : Md), k + fu = 41 → 0 < A 0 → rW R0 R T n p k A → (∀ A', gOe T n fu k p A = .inr A' → ∀ R', frY R0 R' → mS R' 9 = 0 → mA R' 7 = A' → zW A' → 0 < A' 0 → K (some (.int (xj 1))) (xm f b (sS R' 1 0), w)) → (∀ e : Nat, gOe T n fu k p A = .inl e → ∀ R', frY R0 R' → mS R' 9 = (e : Nat) → 1 ≤ e → e ≤ 4000 → K (some (.int (xj 0))) (xm f b (sS R' 1 0), w)) → xk_B D 180 35 [l0, .int (xj 1)] [] (xm f b R, w) K := by
  subst hl0
  intro fu
  induction fu with
  | zero => intro k p A R h1 _ h2; have := h2.2.2.1; omega
  | succ fu ih =>
    intro k p A R h1 h0 h2 hok hno
    have hn := h2.1.1.2.1
    have ha : atP T n p := rZ_at h2.1
    have hs := at_sk hn ha
    obtain ⟨q0, h8, hq0, hs0⟩ := h2.1.2.2.2
    have hTR := h2.1.1
    have h3 := rW_8 h2 ha.1 hs
    have h9 : mS R 9 = 0 := h2.1.2.2.1
    have h9p : mS (sS R 8 (p : Nat)) 9 = 0 := by rw [mS_So (by decide)]; exact h9
    have sr := see_rng (n := n) (p := p) hT
    unfold gOe at hok hno
    by_cases c59 : seeF T n p = 59
    · rw [if_pos c59] at hok hno
      obtain ⟨hp, hen⟩ := see_en2 c59
      have hnx : skT T n (p + 1) = nxT T n p := by unfold nxT; rw [hen]
      have nx := nx_rng (T := T) hn hp
      have h4 := rW_8 h3 (q := p + 1) (by omega) hnx
      rw [sS_S] at h4
      have ep : ((p : Nat) : Int) + 1 = ((p + 1 : Nat) : Int) := by omega
      simp (disch := omega) only [b180_35, b180_36, b180_39, b180_40, b180_43, b180_45, b180_48, b180_49, b180_50, b180_53, b180_54, b180_55, b180_58, ↓gm_0, ↓gm_1, ↓gm_2, ↓gm_3, ↓gm_4, ↓gm_5, ↓gm_6, ↓gm_7, ↓gm_8, ↓gm_9, ↓gm_10, ↓gm_11, ↓gm_12, ↓gm_13, ↓gm_14, ↓gm_15, ↓gm_16, ↓gm_17, ↓gm_18, ↓gm_19, ↓gm_20, ↓gm_21, ↓gm_22, ↓gm_23, ↓gm_24, ↓gm_25, ↓gm_26, ↓gm_27, ↓gm_28, ↓gm_29, ↓gm_30, ↓gm_31, ↓gm_32, ↓gm_33, ↓gm_34, ↓gm_35, ↓gm_36, ↓gm_37, ↓gm_38, ↓gm_39, ↓gm_40, ↓gm_41, ↓gm_42, ↓gm_43, ↓gm_44, ↓gm_45, ↓gm_46, ↓pm_1, ↓pm_2, ↓pm_8, ↓pm_9, ↓pm_10, ↓pm_11, ↓pm_12, ↓pm_13, ↓pm_14, ↓pm_16, ↓pm_18, ↓pm_21, ↓pm_22, ↓pm_23, ↓pm_24, ↓pm_25, ↓pm_26, ↓pm_28, ↓pm_31, ↓pm_35, ↓pm_36, ↓pm_37, ↓pm_38, ↓pm_40, ↓pm_43, ↓am_0, ↓wm_0, ↓am_3, ↓wm_3, ↓am_4, ↓wm_4, ↓am_5, ↓wm_5, ↓am_6, ↓wm_6, ↓am_7, ↓wm_7, ↓am_15, ↓wm_15, ↓am_17, ↓wm_17, ↓am_19, ↓wm_19, ↓am_20, ↓wm_20, ↓am_27, ↓wm_27, ↓am_29, ↓wm_29, ↓am_30, ↓wm_30, ↓am_32, ↓wm_32, ↓am_33, ↓wm_33, ↓am_34, ↓wm_34, ↓am_39, ↓wm_39, ↓am_41, ↓wm_41, ↓am_42, ↓wm_42, ↓am_44, ↓wm_44, ↓am_45, ↓wm_45, ↓am_46, ↓wm_46, ↓wn_0, ↓wn_46, or_false, false_or, rc_M, List.getElem?_cons_zero, List.getElem?_cons_succ, List.length_cons, List.length_nil, List.set_cons_zero, List.set_cons_succ, true_and, and_true, Option.toList_some, Option.toList_none, List.cons_append, List.nil_append, ↓reduceIte, not_false_eq_true, not_true_eq_false, Nat.reduceAdd, xj0_01, xj1_01, xb_B, xb_True, xb_False, ↓xj_in, xj_nat, Int.toNat_natCast, xj_lt_t, xj_lt_f, xj_le_t, xj_le_f, xj_eq_t, xj_eq_f, xj_lt, xj_le, xj_eq, xj_add, xj_sub, xj_mul, show ¬ xj 1 = xj 0 from by decide, tn_add, tn_mul, tn_sub, Int.toNat_natCast, Int.reduceToNat, mS_S, mS_So, mS_A, mS_J, mA_A, mA_Ao, mA_S, mA_J, mJ_J, mJ_Jo, mJ_S, mJ_A, sS_S, sA_A, sS_A, sS_J, sJ_A, m_see _ hTR h8 hq0, hs0, c59, ep]
      rw [b180_59, rc_M, true_and]
      have hgu : gOf T n (fu + 1) k (nxT T n p) A = gOq T n fu k (gOC T n k (nxT T n p) A) := gOf_s
      rw [hgu] at hok hno
      refine u_clauseO (by omega) h4.1 h4.2.1 h4.2.2.1 (by rw [h4.2.2.2.1]; exact h4.2.2.2.2.1.1) (by rw [h4.2.2.2.1]; exact zW_re h4.2.2.2.2.1) (fun q hg R' f' a' z' m14 => ?_) (fun e hg R' f' m9 => ?_)
      · rw [h4.2.2.2.1] at hg
        rw [hg] at hok hno
        obtain ⟨o1, o2, o3, o4, o5⟩ := gOC_ok hn h4.2.2.2.2.1 hg
        have h5 : rW R0 R' T n q.1 (k + 1) q.2 := ⟨z', m14, by have := h4.2.2.1; omega, a', o1, frY_t h4.2.2.2.2.2 f'⟩
        simp (disch := omega) only [b180_62, b180_63, List.getElem?_cons_zero, List.getElem?_cons_succ, List.length_cons, List.length_nil, List.set_cons_zero, List.set_cons_succ, true_and, and_true, Option.toList_some, Option.toList_none, List.cons_append, List.nil_append, ↓reduceIte, not_false_eq_true, not_true_eq_false, Nat.reduceAdd, xj0_01, xj1_01, xb_B, xb_True, xb_False, ↓xj_in, xj_nat, Int.toNat_natCast, xj_lt_t, xj_lt_f, xj_le_t, xj_le_f, xj_eq_t, xj_eq_f, xj_lt, xj_le, xj_eq, xj_add, xj_sub, xj_mul, show ¬ xj 1 = xj 0 from by decide]
        exact ih _ _ _ R' (by omega) o2 h5 hok hno
      · rw [h4.2.2.2.1] at hg
        rw [hg] at hno
        have hb := gOC_fb hn nx.2.1 hg
        have fr := frY_t h4.2.2.2.2.2 f'
        have po := hno e rfl R' fr m9 (by omega) (by omega)
        simp (disch := omega) only [b180_62, b180_63, b180_35, b180_36, b180_66, b180_67, b180_70, b180_71, b180_74, b180_75, b180_78, b180_79, b180_80, b180_81, b180_84, b180_87, b180_88, b180_89, b180_90, b180_93, b180_94, b180_97, b180_100, b180_101, b180_104, b180_105, b180_105o, b180_105z, b180_105c, ↓gm_0, ↓gm_1, ↓gm_2, ↓gm_3, ↓gm_4, ↓gm_5, ↓gm_6, ↓gm_7, ↓gm_8, ↓gm_9, ↓gm_10, ↓gm_11, ↓gm_12, ↓gm_13, ↓gm_14, ↓gm_15, ↓gm_16, ↓gm_17, ↓gm_18, ↓gm_19, ↓gm_20, ↓gm_21, ↓gm_22, ↓gm_23, ↓gm_24, ↓gm_25, ↓gm_26, ↓gm_27, ↓gm_28, ↓gm_29, ↓gm_30, ↓gm_31, ↓gm_32, ↓gm_33, ↓gm_34, ↓gm_35, ↓gm_36, ↓gm_37, ↓gm_38, ↓gm_39, ↓gm_40, ↓gm_41, ↓gm_42, ↓gm_43, ↓gm_44, ↓gm_45, ↓gm_46, ↓pm_1, ↓pm_2, ↓pm_8, ↓pm_9, ↓pm_10, ↓pm_11, ↓pm_12, ↓pm_13, ↓pm_14, ↓pm_16, ↓pm_18, ↓pm_21, ↓pm_22, ↓pm_23, ↓pm_24, ↓pm_25, ↓pm_26, ↓pm_28, ↓pm_31, ↓pm_35, ↓pm_36, ↓pm_37, ↓pm_38, ↓pm_40, ↓pm_43, ↓am_0, ↓wm_0, ↓am_3, ↓wm_3, ↓am_4, ↓wm_4, ↓am_5, ↓wm_5, ↓am_6, ↓wm_6, ↓am_7, ↓wm_7, ↓am_15, ↓wm_15, ↓am_17, ↓wm_17, ↓am_19, ↓wm_19, ↓am_20, ↓wm_20, ↓am_27, ↓wm_27, ↓am_29, ↓wm_29, ↓am_30, ↓wm_30, ↓am_32, ↓wm_32, ↓am_33, ↓wm_33, ↓am_34, ↓wm_34, ↓am_39, ↓wm_39, ↓am_41, ↓wm_41, ↓am_42, ↓wm_42, ↓am_44, ↓wm_44, ↓am_45, ↓wm_45, ↓am_46, ↓wm_46, ↓wn_0, ↓wn_46, or_false, false_or, rc_M, List.getElem?_cons_zero, List.getElem?_cons_succ, List.length_cons, List.length_nil, List.set_cons_zero, List.set_cons_succ, true_and, and_true, Option.toList_some, Option.toList_none, List.cons_append, List.nil_append, ↓reduceIte, not_false_eq_true, not_true_eq_false, Nat.reduceAdd, xj0_01, xj1_01, xb_B, xb_True, xb_False, ↓xj_in, xj_nat, Int.toNat_natCast, xj_lt_t, xj_lt_f, xj_le_t, xj_le_f, xj_eq_t, xj_eq_f, xj_lt, xj_le, xj_eq, xj_add, xj_sub, xj_mul, show ¬ xj 1 = xj 0 from by decide, tn_add, tn_mul, tn_sub, Int.toNat_natCast, Int.reduceToNat, mS_S, mS_So, mS_A, mS_J, mA_A, mA_Ao, mA_S, mA_J, mJ_J, mJ_Jo, mJ_S, mJ_A, sS_S, sA_A, sS_A, sS_J, sJ_A, m9]
        exact po
    · rw [if_neg c59] at hok hno
      have e8 : mS (sS R 8 (p : Nat)) 8 = (p : Nat) := mS_S
      have see2 := fun (K' : Option Value → xk_S → Prop) => m_see (D := D) (K := K') (f := f) (b := b) (w := w) (by omega) h3.1.1 e8 ha.1
      simp only [hs, sS_S] at see2
      by_cases c1 : seeF T n p = -1
      · rw [if_pos c1] at hok
        have po := hok A rfl (sS R 8 (p : Nat)) h3.2.2.2.2.2 (by rw [mS_So (by decide)]; exact h9) h3.2.2.2.1 h3.2.2.2.2.1 h0
        simp (disch := omega) only [b180_35, b180_36, b180_39, b180_40, b180_43, b180_45, b180_66, b180_67, b180_70, b180_71, b180_74, b180_75, b180_78, b180_79, b180_80, b180_81, b180_84, b180_87, b180_88, b180_89, b180_90, b180_93, b180_94, b180_97, b180_100, b180_101, b180_104, b180_105, b180_105o, b180_105z, b180_105c, ↓gm_0, ↓gm_1, ↓gm_2, ↓gm_3, ↓gm_4, ↓gm_5, ↓gm_6, ↓gm_7, ↓gm_8, ↓gm_9, ↓gm_10, ↓gm_11, ↓gm_12, ↓gm_13, ↓gm_14, ↓gm_15, ↓gm_16, ↓gm_17, ↓gm_18, ↓gm_19, ↓gm_20, ↓gm_21, ↓gm_22, ↓gm_23, ↓gm_24, ↓gm_25, ↓gm_26, ↓gm_27, ↓gm_28, ↓gm_29, ↓gm_30, ↓gm_31, ↓gm_32, ↓gm_33, ↓gm_34, ↓gm_35, ↓gm_36, ↓gm_37, ↓gm_38, ↓gm_39, ↓gm_40, ↓gm_41, ↓gm_42, ↓gm_43, ↓gm_44, ↓gm_45, ↓gm_46, ↓pm_1, ↓pm_2, ↓pm_8, ↓pm_9, ↓pm_10, ↓pm_11, ↓pm_12, ↓pm_13, ↓pm_14, ↓pm_16, ↓pm_18, ↓pm_21, ↓pm_22, ↓pm_23, ↓pm_24, ↓pm_25, ↓pm_26, ↓pm_28, ↓pm_31, ↓pm_35, ↓pm_36, ↓pm_37, ↓pm_38, ↓pm_40, ↓pm_43, ↓am_0, ↓wm_0, ↓am_3, ↓wm_3, ↓am_4, ↓wm_4, ↓am_5, ↓wm_5, ↓am_6, ↓wm_6, ↓am_7, ↓wm_7, ↓am_15, ↓wm_15, ↓am_17, ↓wm_17, ↓am_19, ↓wm_19, ↓am_20, ↓wm_20, ↓am_27, ↓wm_27, ↓am_29, ↓wm_29, ↓am_30, ↓wm_30, ↓am_32, ↓wm_32, ↓am_33, ↓wm_33, ↓am_34, ↓wm_34, ↓am_39, ↓wm_39, ↓am_41, ↓wm_41, ↓am_42, ↓wm_42, ↓am_44, ↓wm_44, ↓am_45, ↓wm_45, ↓am_46, ↓wm_46, ↓wn_0, ↓wn_46, or_false, false_or, rc_M, List.getElem?_cons_zero, List.getElem?_cons_succ, List.length_cons, List.length_nil, List.set_cons_zero, List.set_cons_succ, true_and, and_true, Option.toList_some, Option.toList_none, List.cons_append, List.nil_append, ↓reduceIte, not_false_eq_true, not_true_eq_false, Nat.reduceAdd, xj0_01, xj1_01, xb_B, xb_True, xb_False, ↓xj_in, xj_nat, Int.toNat_natCast, xj_lt_t, xj_lt_f, xj_le_t, xj_le_f, xj_eq_t, xj_eq_f, xj_lt, xj_le, xj_eq, xj_add, xj_sub, xj_mul, show ¬ xj 1 = xj 0 from by decide, tn_add, tn_mul, tn_sub, Int.toNat_natCast, Int.reduceToNat, mS_S, mS_So, mS_A, mS_J, mA_A, mA_Ao, mA_S, mA_J, mJ_J, mJ_Jo, mJ_S, mJ_A, sS_S, sA_A, sS_A, sS_J, sJ_A, m_see _ hTR h8 hq0, hs0, c1, see2, h9]
        exact po
      · rw [if_neg c1] at hno
        have hpn := ha.1
        have po := hno _ rfl (sS (sS R 8 (p : Nat)) 9 (1 + 8 * p + 0)) (frY_t h3.2.2.2.2.2 (frY_S (by omega))) (by rw [mS_S]; omega) (by omega) (by omega)
        simp (disch := omega) only [b180_35, b180_36, b180_39, b180_40, b180_43, b180_45, b180_66, b180_67, b180_70, b180_71, b180_74, b180_75, b180_78, b180_79, b180_80, b180_81, b180_84, b180_87, b180_88, b180_89, b180_90, b180_93, b180_94, b180_97, b180_100, b180_101, b180_104, b180_105, b180_105o, b180_105z, b180_105c, ↓gm_0, ↓gm_1, ↓gm_2, ↓gm_3, ↓gm_4, ↓gm_5, ↓gm_6, ↓gm_7, ↓gm_8, ↓gm_9, ↓gm_10, ↓gm_11, ↓gm_12, ↓gm_13, ↓gm_14, ↓gm_15, ↓gm_16, ↓gm_17, ↓gm_18, ↓gm_19, ↓gm_20, ↓gm_21, ↓gm_22, ↓gm_23, ↓gm_24, ↓gm_25, ↓gm_26, ↓gm_27, ↓gm_28, ↓gm_29, ↓gm_30, ↓gm_31, ↓gm_32, ↓gm_33, ↓gm_34, ↓gm_35, ↓gm_36, ↓gm_37, ↓gm_38, ↓gm_39, ↓gm_40, ↓gm_41, ↓gm_42, ↓gm_43, ↓gm_44, ↓gm_45, ↓gm_46, ↓pm_1, ↓pm_2, ↓pm_8, ↓pm_9, ↓pm_10, ↓pm_11, ↓pm_12, ↓pm_13, ↓pm_14, ↓pm_16, ↓pm_18, ↓pm_21, ↓pm_22, ↓pm_23, ↓pm_24, ↓pm_25, ↓pm_26, ↓pm_28, ↓pm_31, ↓pm_35, ↓pm_36, ↓pm_37, ↓pm_38, ↓pm_40, ↓pm_43, ↓am_0, ↓wm_0, ↓am_3, ↓wm_3, ↓am_4, ↓wm_4, ↓am_5, ↓wm_5, ↓am_6, ↓wm_6, ↓am_7, ↓wm_7, ↓am_15, ↓wm_15, ↓am_17, ↓wm_17, ↓am_19, ↓wm_19, ↓am_20, ↓wm_20, ↓am_27, ↓wm_27, ↓am_29, ↓wm_29, ↓am_30, ↓wm_30, ↓am_32, ↓wm_32, ↓am_33, ↓wm_33, ↓am_34, ↓wm_34, ↓am_39, ↓wm_39, ↓am_41, ↓wm_41, ↓am_42, ↓wm_42, ↓am_44, ↓wm_44, ↓am_45, ↓wm_45, ↓am_46, ↓wm_46, ↓wn_0, ↓wn_46, or_false, false_or, rc_M, List.getElem?_cons_zero, List.getElem?_cons_succ, List.length_cons, List.length_nil, List.set_cons_zero, List.set_cons_succ, true_and, and_true, Option.toList_some, Option.toList_none, List.cons_append, List.nil_append, ↓reduceIte, not_false_eq_true, not_true_eq_false, Nat.reduceAdd, xj0_01, xj1_01, xb_B, xb_True, xb_False, ↓xj_in, xj_nat, Int.toNat_natCast, xj_lt_t, xj_lt_f, xj_le_t, xj_le_f, xj_eq_t, xj_eq_f, xj_lt, xj_le, xj_eq, xj_add, xj_sub, xj_mul, show ¬ xj 1 = xj 0 from by decide, tn_add, tn_mul, tn_sub, Int.toNat_natCast, Int.reduceToNat, mS_S, mS_So, mS_A, mS_J, mA_A, mA_Ao, mA_S, mA_J, mJ_J, mJ_Jo, mJ_S, mJ_A, sS_S, sA_A, sS_A, sS_J, sJ_A, m_see _ hTR h8 hq0, hs0, see2, m_fails _ h9p]
        exact po
def rdS (R : Md) : Md := sS (sS (sS (sS (sA R 4 (upI (mA R 4) 6 0)) 14 0) 8 0) 9 0) 12 0
theorem u_readsO (hD : 9 ≤ D) (hT : rT R T n) (h11 : mS R 11 = 6) (hA : zW (mA R 7)) (hok : ∀ A', gOf T n 41 0 (skT T n 0) (mA R 7) = .inr A' → ∀ R', frY (rdS R) R' → mS R' 9 = 0 → mA R' 7 = A' → zW A' → 0 < A' 0 → K (some (.int (xj 1))) (xm f b (sS R' 1 0), w)) (hno : ∀ e : Nat, gOf T n 41 0 (skT T n 0) (mA R 7) = .inl e → ∀ R', frY (rdS R) R' → mS R' 9 = (e : Nat) → 1 ≤ e → e ≤ 4000 → K (some (.int (xj 0))) (xm f b (sS R' 1 0), w)) : xk_Cl D 180 [.ref b] (xm f b R, w) K := by
  rw [e180 (by omega)]
  have hn := hT.2.1
  have hT2 : ∀ i, i < n → 0 ≤ T i ∧ T i ≤ 255 := fun i hi => (hT.2.2 i hi).2
  have h4 : rW (rdS R) (rdS R) T n (skT T n 0) 0 (mA R 7) := ⟨⟨hT, h11, rfl, 0, rfl, Nat.zero_le _, rfl⟩, rfl, Nat.zero_le _, rfl, hA, ⟨fun _ _ => rfl, fun _ _ => rfl⟩⟩
  have hgu : gOf T n 41 0 (skT T n 0) (mA R 7) = gOq T n 40 0 (gOC T n 0 (skT T n 0) (mA R 7)) := gOf_s
  rw [hgu] at hok hno
  simp (disch := omega) only [b180_0, b180_1, b180_4, b180_5, b180_8, b180_9, b180_10, b180_11, b180_12, b180_15, b180_16, b180_17, b180_20, b180_21, b180_22, b180_25, b180_26, b180_27, b180_30, ↓gm_0, ↓gm_1, ↓gm_2, ↓gm_3, ↓gm_4, ↓gm_5, ↓gm_6, ↓gm_7, ↓gm_8, ↓gm_9, ↓gm_10, ↓gm_11, ↓gm_12, ↓gm_13, ↓gm_14, ↓gm_15, ↓gm_16, ↓gm_17, ↓gm_18, ↓gm_19, ↓gm_20, ↓gm_21, ↓gm_22, ↓gm_23, ↓gm_24, ↓gm_25, ↓gm_26, ↓gm_27, ↓gm_28, ↓gm_29, ↓gm_30, ↓gm_31, ↓gm_32, ↓gm_33, ↓gm_34, ↓gm_35, ↓gm_36, ↓gm_37, ↓gm_38, ↓gm_39, ↓gm_40, ↓gm_41, ↓gm_42, ↓gm_43, ↓gm_44, ↓gm_45, ↓gm_46, ↓pm_1, ↓pm_2, ↓pm_8, ↓pm_9, ↓pm_10, ↓pm_11, ↓pm_12, ↓pm_13, ↓pm_14, ↓pm_16, ↓pm_18, ↓pm_21, ↓pm_22, ↓pm_23, ↓pm_24, ↓pm_25, ↓pm_26, ↓pm_28, ↓pm_31, ↓pm_35, ↓pm_36, ↓pm_37, ↓pm_38, ↓pm_40, ↓pm_43, ↓am_0, ↓wm_0, ↓am_3, ↓wm_3, ↓am_4, ↓wm_4, ↓am_5, ↓wm_5, ↓am_6, ↓wm_6, ↓am_7, ↓wm_7, ↓am_15, ↓wm_15, ↓am_17, ↓wm_17, ↓am_19, ↓wm_19, ↓am_20, ↓wm_20, ↓am_27, ↓wm_27, ↓am_29, ↓wm_29, ↓am_30, ↓wm_30, ↓am_32, ↓wm_32, ↓am_33, ↓wm_33, ↓am_34, ↓wm_34, ↓am_39, ↓wm_39, ↓am_41, ↓wm_41, ↓am_42, ↓wm_42, ↓am_44, ↓wm_44, ↓am_45, ↓wm_45, ↓am_46, ↓wm_46, ↓wn_0, ↓wn_46, or_false, false_or, rc_M, List.getElem?_cons_zero, List.getElem?_cons_succ, List.length_cons, List.length_nil, List.set_cons_zero, List.set_cons_succ, true_and, and_true, Option.toList_some, Option.toList_none, List.cons_append, List.nil_append, ↓reduceIte, not_false_eq_true, not_true_eq_false, Nat.reduceAdd, xj0_01, xj1_01, xb_B, xb_True, xb_False, ↓xj_in, xj_nat, Int.toNat_natCast, xj_lt_t, xj_lt_f, xj_le_t, xj_le_f, xj_eq_t, xj_eq_f, xj_lt, xj_le, xj_eq, xj_add, xj_sub, xj_mul, show ¬ xj 1 = xj 0 from by decide, tn_add, tn_mul, tn_sub, Int.toNat_natCast, Int.reduceToNat, mS_S, mS_So, mS_A, mS_J, mA_A, mA_Ao, mA_S, mA_J, mJ_J, mJ_Jo, mJ_S, mJ_A, sS_S, sA_A, sS_A, sS_J, sJ_A, h11]
  rw [b180_31, rc_M, true_and]
  refine u_clauseO (R := rdS R) (by omega) h4.1 h4.2.1 h4.2.2.1 h4.2.2.2.2.1.1 (zW_re h4.2.2.2.2.1) (fun q hg R' f' a' z' m14 => ?_) (fun e hg R' f' m9 => ?_)
  · have hg : gOC T n 0 (skT T n 0) (mA R 7) = .inr q := hg
    rw [hg] at hok hno
    obtain ⟨o1, o2, o3, o4, o5⟩ := gOC_ok hn hA hg
    have h5 : rW (rdS R) R' T n q.1 1 q.2 := ⟨z', m14, by omega, a', o1, f'⟩
    simp (disch := omega) only [b180_34, List.getElem?_cons_zero, List.getElem?_cons_succ, List.length_cons, List.length_nil, List.set_cons_zero, List.set_cons_succ, true_and, and_true, Option.toList_some, Option.toList_none, List.cons_append, List.nil_append, ↓reduceIte, not_false_eq_true, not_true_eq_false, Nat.reduceAdd, xj0_01, xj1_01, xb_B, xb_True, xb_False, ↓xj_in, xj_nat, Int.toNat_natCast, xj_lt_t, xj_lt_f, xj_le_t, xj_le_f, xj_eq_t, xj_eq_f, xj_lt, xj_le, xj_eq, xj_add, xj_sub, xj_mul, show ¬ xj 1 = xj 0 from by decide]
    exact u_loopO (by omega) hT2 rfl 40 _ _ _ R' rfl o2 h5 hok hno
  · have hg : gOC T n 0 (skT T n 0) (mA R 7) = .inl e := hg
    rw [hg] at hno
    have hb := gOC_fb hn (sk_rng (T := T) (n := n) (p := 0) (Nat.zero_le _)).2 hg
    have po := hno e rfl R' f' m9 (by omega) (by omega)
    simp (disch := omega) only [b180_34, b180_35, b180_36, b180_66, b180_67, b180_70, b180_71, b180_74, b180_75, b180_78, b180_79, b180_80, b180_81, b180_84, b180_87, b180_88, b180_89, b180_90, b180_93, b180_94, b180_97, b180_100, b180_101, b180_104, b180_105, b180_105o, b180_105z, b180_105c, ↓gm_0, ↓gm_1, ↓gm_2, ↓gm_3, ↓gm_4, ↓gm_5, ↓gm_6, ↓gm_7, ↓gm_8, ↓gm_9, ↓gm_10, ↓gm_11, ↓gm_12, ↓gm_13, ↓gm_14, ↓gm_15, ↓gm_16, ↓gm_17, ↓gm_18, ↓gm_19, ↓gm_20, ↓gm_21, ↓gm_22, ↓gm_23, ↓gm_24, ↓gm_25, ↓gm_26, ↓gm_27, ↓gm_28, ↓gm_29, ↓gm_30, ↓gm_31, ↓gm_32, ↓gm_33, ↓gm_34, ↓gm_35, ↓gm_36, ↓gm_37, ↓gm_38, ↓gm_39, ↓gm_40, ↓gm_41, ↓gm_42, ↓gm_43, ↓gm_44, ↓gm_45, ↓gm_46, ↓pm_1, ↓pm_2, ↓pm_8, ↓pm_9, ↓pm_10, ↓pm_11, ↓pm_12, ↓pm_13, ↓pm_14, ↓pm_16, ↓pm_18, ↓pm_21, ↓pm_22, ↓pm_23, ↓pm_24, ↓pm_25, ↓pm_26, ↓pm_28, ↓pm_31, ↓pm_35, ↓pm_36, ↓pm_37, ↓pm_38, ↓pm_40, ↓pm_43, ↓am_0, ↓wm_0, ↓am_3, ↓wm_3, ↓am_4, ↓wm_4, ↓am_5, ↓wm_5, ↓am_6, ↓wm_6, ↓am_7, ↓wm_7, ↓am_15, ↓wm_15, ↓am_17, ↓wm_17, ↓am_19, ↓wm_19, ↓am_20, ↓wm_20, ↓am_27, ↓wm_27, ↓am_29, ↓wm_29, ↓am_30, ↓wm_30, ↓am_32, ↓wm_32, ↓am_33, ↓wm_33, ↓am_34, ↓wm_34, ↓am_39, ↓wm_39, ↓am_41, ↓wm_41, ↓am_42, ↓wm_42, ↓am_44, ↓wm_44, ↓am_45, ↓wm_45, ↓am_46, ↓wm_46, ↓wn_0, ↓wn_46, or_false, false_or, rc_M, List.getElem?_cons_zero, List.getElem?_cons_succ, List.length_cons, List.length_nil, List.set_cons_zero, List.set_cons_succ, true_and, and_true, Option.toList_some, Option.toList_none, List.cons_append, List.nil_append, ↓reduceIte, not_false_eq_true, not_true_eq_false, Nat.reduceAdd, xj0_01, xj1_01, xb_B, xb_True, xb_False, ↓xj_in, xj_nat, Int.toNat_natCast, xj_lt_t, xj_lt_f, xj_le_t, xj_le_f, xj_eq_t, xj_eq_f, xj_lt, xj_le, xj_eq, xj_add, xj_sub, xj_mul, show ¬ xj 1 = xj 0 from by decide, tn_add, tn_mul, tn_sub, Int.toNat_natCast, Int.reduceToNat, mS_S, mS_So, mS_A, mS_J, mA_A, mA_Ao, mA_S, mA_J, mJ_J, mJ_Jo, mJ_S, mJ_A, sS_S, sA_A, sS_A, sS_J, sJ_A, m9]
    exact po
end XS93
