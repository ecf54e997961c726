/-! the model: a test -/
def bO (a : Bool) : List St := if a = true then [(12, 0)] else []
def eO (wt : Bool) : List St := if wt = true then [(13, 0)] else []
def nO (a : Bool) : Nat := if a = true then 1 else 0
theorem bO_len (a : Bool) : (bO a).length = nO a := by cases a <;> rfl
theorem eO_len (a : Bool) : (eO a).length = nO a := by cases a <;> rfl
theorem pn_dp (a wt : Bool) (σ : List Nat) : dpS (pnS a wt ++ σ) = dpS σ := by
  cases a <;> cases wt
  · rfl
  · show 0 + dpS σ = _; omega
  · show 0 + dpS σ = _; omega
  · show 0 + (0 + dpS σ) = _; omega
theorem pn_len (a wt : Bool) (σ : List Nat) : (pnS a wt ++ σ).length = nO a + nO wt + σ.length := by
  rw [List.length_append]
  cases a <;> cases wt <;> rfl
theorem pn_ok {a wt : Bool} {σ : List Nat} (h : okS σ) : okS (pnS a wt ++ σ) := by
  intro x hx
  rcases List.mem_append.mp hx with h1 | h1
  · cases a <;> cases wt
    · cases h1
    · have h1 : x ∈ [13] := h1
      have := List.mem_singleton.mp h1; omega
    · have h1 : x ∈ [12] := h1
      have := List.mem_singleton.mp h1; omega
    · have h1 : x ∈ [12, 13] := h1
      rcases List.mem_cons.mp h1 with h2 | h2
      · omega
      · have := List.mem_singleton.mp h2; omega
  · exact h x h1
theorem nO_le (a : Bool) : nO a ≤ 1 := by cases a <;> decide
def PF (D b : Nat) (f : Nat → xk_C) (w : Nat × Nat × Nat) (K : Option Value → xk_S → Prop) (T : Nat → Int) (n t : Nat) (R0 : Md) (e : Nat) (F : Ps → Pr) : Prop := ∀ (s : Ps) (σ : List Nat) (R : Md) (l2 j : Value), frX t R0 R → rP R T n t s → sgR R σ → okS σ → σ.length ≤ 3 * e + 2 → dpS σ = e → s.2.2.length < s.1 → (∀ s', F s = .inr s' → ∀ R' l2', frX t R0 R' → rP R' T n t s' → sgR R' σ → Dn D b f w K l2' R') → (∀ er : Nat, F s = .inl er → ∀ R', frX t R0 R' → mS R' 9 = (er : Nat) → K (some (.int (xj 0))) (xm f b R', w)) → Fc D b f w K l2 j R
section XS81
variable {D b k p q n t c v : Nat} {f g : Nat → xk_C} {w : Nat × Nat × Nat} {K : Option Value → xk_S → Prop} {R : Md} {x y z : Int} {T : Nat → Int} {s : Ps} {σ : List Nat} {l2 j : Value} {a wt : Bool} {ms : List St} {u : Int64}
theorem m_isWp (hD : 2 ≤ D) (hp : rP R T n t s) (h8 : mS R 8 = (s.1 : Nat)) (hk : k < 21) (hu : u = jx (wcs.getD k 0 : Nat)) : xk_Cl D 152 [.ref b, .long u] (xm f b R, w) K ↔ K (some (.int (xb (wdA T n s.1 = k)))) (xm f b R, w) := by
  have ha := rP_at hp
  have e : sS R 8 (s.1 : Nat) = R := by rw [← h8, sS_id]
  rw [m_isW hD hp.1 h8 ha.1 hk hu, at_sk hp.1.2.1 ha, e]
theorem sgR_op {k : Nat} (h : sgR R σ) (hk : k = 12 ∨ k = 13) : sgR (sS (sA R 15 (upI (mA R 15) σ.length (k : Nat))) 16 (σ.length + 1 : Nat)) (k :: σ) := ⟨by rw [mS_S]; rfl, by
  rw [mS_So (by decide), mS_A, h.2.1]
  have : dpS (k :: σ) = dpS σ := by show (if k = 11 ∨ k = 91 then 1 else 0) + dpS σ = _; rw [if_neg (by omega)]; omega
  rw [this], by
  rw [mA_S, mA_A]
  exact ⟨up_e, sgS_ext (fun i q => up_n (by omega)) h.2.2⟩⟩
theorem td_and (hD : 4 ≤ D) (hp : rP R T n t (p, c, ms)) (h8 : mS R 8 = (p : Nat)) (hg : sgR R (pnS a wt ++ σ)) (ht : tpS σ) (hl : σ.length < 390) (hr : ms.length < 400) (hw : wdA T n p = 19) (h : ∀ R' l2' j', frX t R R' → rP R' T n t (nxT T n p, c, ms ++ bO a) → sgR R' (pnS true wt ++ σ) → Fc D b f w K l2' j' R') : xk_B D 169 29 [.ref b, .int (xj 1), l2] [] (xm f b R, w) K := by
  have hn := hp.1.2.1
  have ha := rP_at hp
  have hwl := wd_lt (T := T) (n := n) (p := p) (by omega)
  have hi9 := fun K' => m_isWp (D := D) (b := b) (f := f) (w := w) (K := K') (u := 6385252) (k := 19) (by omega) hp h8 (by omega) rfl
  have x9 : ∀ i, @xb (wdA T n ((p, c, ms) : Ps).1 = ((19 : Nat) : Int)) i = xj 1 := fun i => xb_T hw
  have he : ltE T n p ≤ n := by rw [← wd_en (T := T) (n := n) (p := p) (by omega)]; exact (en_rng hwl.1).2
  have hp1 : rP (sS R 8 (ltE T n p : Nat)) T n t (nxT T n p, c, ms) := rP_8 hp he (by unfold nxT; rw [wd_en (by omega)])
  have hg1 : sgR (sS R 8 (ltE T n p : Nat)) (pnS a wt ++ σ) := hg
  have st12 : ∀ (f : Nat → xk_C) K', xk_Cl D 160 [.int (xj 12)] (f, w) K' ↔ K' (some (.int (xj 2))) (f, w) := fun f K' => m_strength (k := 12) (by omega) (by omega)
  simp (disch := omega) only [b169_29, b169_30, b169_33, b169_36, b169_39, b169_40, b169_43, b169_46, b169_49, b169_50, b169_53, b169_54, b169_55, b169_56, b169_59, b169_60, b169_63, b169_66, b169_69, b169_71, b169_74, b169_76, b169_77, b169_78, b169_81, b169_82, b169_83, ↓gm_0, ↓gm_1, ↓gm_2, ↓gm_3, ↓gm_4, ↓gm_5, ↓gm_6, ↓gm_7, ↓gm_8, ↓gm_9, ↓gm_10, ↓gm_11, ↓gm_12, ↓gm_13, ↓gm_14, ↓gm_15, ↓gm_16, ↓gm_17, ↓gm_18, ↓gm_19, ↓gm_20, ↓gm_21, ↓gm_22, ↓gm_23, ↓gm_24, ↓gm_25, ↓gm_26, ↓gm_27, ↓gm_28, ↓gm_29, ↓gm_30, ↓gm_31, ↓gm_32, ↓gm_33, ↓gm_34, ↓gm_35, ↓gm_36, ↓gm_37, ↓gm_38, ↓gm_39, ↓gm_40, ↓gm_41, ↓gm_42, ↓gm_43, ↓gm_44, ↓gm_45, ↓gm_46, ↓pm_1, ↓pm_2, ↓pm_8, ↓pm_9, ↓pm_10, ↓pm_11, ↓pm_12, ↓pm_13, ↓pm_14, ↓pm_16, ↓pm_18, ↓pm_21, ↓pm_22, ↓pm_23, ↓pm_24, ↓pm_25, ↓pm_26, ↓pm_28, ↓pm_31, ↓pm_35, ↓pm_36, ↓pm_37, ↓pm_38, ↓pm_40, ↓pm_43, ↓am_0, ↓wm_0, ↓am_3, ↓wm_3, ↓am_4, ↓wm_4, ↓am_5, ↓wm_5, ↓am_6, ↓wm_6, ↓am_7, ↓wm_7, ↓am_15, ↓wm_15, ↓am_17, ↓wm_17, ↓am_19, ↓wm_19, ↓am_20, ↓wm_20, ↓am_27, ↓wm_27, ↓am_29, ↓wm_29, ↓am_30, ↓wm_30, ↓am_32, ↓wm_32, ↓am_33, ↓wm_33, ↓am_34, ↓wm_34, ↓am_39, ↓wm_39, ↓am_41, ↓wm_41, ↓am_42, ↓wm_42, ↓am_44, ↓wm_44, ↓am_45, ↓wm_45, ↓am_46, ↓wm_46, ↓wn_0, ↓wn_46, or_false, false_or, rc_M, List.getElem?_cons_zero, List.getElem?_cons_succ, List.length_cons, List.length_nil, List.set_cons_zero, List.set_cons_succ, true_and, and_true, Option.toList_some, Option.toList_none, List.cons_append, List.nil_append, ↓reduceIte, not_false_eq_true, not_true_eq_false, Nat.reduceAdd, xj0_01, xj1_01, xb_B, xb_True, xb_False, ↓xj_in, xj_nat, Int.toNat_natCast, xj_lt_t, xj_lt_f, xj_le_t, xj_le_f, xj_eq_t, xj_eq_f, xj_lt, xj_le, xj_eq, xj_add, xj_sub, xj_mul, show ¬ xj 1 = xj 0 from by decide, hi9, x9, m_passWord _ hp.1 h8 ha.1, st12]
  rw [b169_86, rc_M, true_and]
  refine u_set2 (by omega) hp1 hg1 ht (by omega) (by omega) (fun R2 f2 p2 g2 e8 => ?_)
  have q16 : mS R2 16 = ((pnS false wt ++ σ).length : Nat) := g2.1
  have hl2 := pn_len false wt σ
  have hb := nO_le wt
  have h0 : nO false = 0 := rfl
  have e16 : ((pnS false wt ++ σ).length : Int) + 1 = ((pnS false wt ++ σ).length + 1 : Nat) := by omega
  have g3 := sgR_op (k := 12) g2 (by omega)
  have g3 : sgR (sS (sA R2 15 (upI (mA R2 15) (pnS false wt ++ σ).length (12 : Nat))) 16 ((pnS false wt ++ σ).length + 1 : Nat)) (pnS true wt ++ σ) := by cases wt <;> exact g3
  have po := h (sS (sA R2 15 (upI (mA R2 15) (pnS false wt ++ σ).length (12 : Nat))) 16 ((pnS false wt ++ σ).length + 1 : Nat)) (.int (xj 12)) xk_dd (frX_t (frX_S (j := 8) (v := (ltE T n p : Nat)) (by omega)) (frX_t f2 ⟨fun j q => by rw [mS_So (by omega), mS_A], fun j q => by rw [mA_S, mA_Ao (by omega)], fun i q => rfl, fun i q => rfl⟩)) p2 g3
  unfold Fc at po
  simp (disch := omega) only [b169_89, b169_90, b169_93, b169_94, b169_97, b169_98, b169_99, b169_100, b169_101, b169_104, b169_105, b169_106, b169_109, b169_12, b169_13, b169_16, ↓gm_0, ↓gm_1, ↓gm_2, ↓gm_3, ↓gm_4, ↓gm_5, ↓gm_6, ↓gm_7, ↓gm_8, ↓gm_9, ↓gm_10, ↓gm_11, ↓gm_12, ↓gm_13, ↓gm_14, ↓gm_15, ↓gm_16, ↓gm_17, ↓gm_18, ↓gm_19, ↓gm_20, ↓gm_21, ↓gm_22, ↓gm_23, ↓gm_24, ↓gm_25, ↓gm_26, ↓gm_27, ↓gm_28, ↓gm_29, ↓gm_30, ↓gm_31, ↓gm_32, ↓gm_33, ↓gm_34, ↓gm_35, ↓gm_36, ↓gm_37, ↓gm_38, ↓gm_39, ↓gm_40, ↓gm_41, ↓gm_42, ↓gm_43, ↓gm_44, ↓gm_45, ↓gm_46, ↓pm_1, ↓pm_2, ↓pm_8, ↓pm_9, ↓pm_10, ↓pm_11, ↓pm_12, ↓pm_13, ↓pm_14, ↓pm_16, ↓pm_18, ↓pm_21, ↓pm_22, ↓pm_23, ↓pm_24, ↓pm_25, ↓pm_26, ↓pm_28, ↓pm_31, ↓pm_35, ↓pm_36, ↓pm_37, ↓pm_38, ↓pm_40, ↓pm_43, ↓am_0, ↓wm_0, ↓am_3, ↓wm_3, ↓am_4, ↓wm_4, ↓am_5, ↓wm_5, ↓am_6, ↓wm_6, ↓am_7, ↓wm_7, ↓am_15, ↓wm_15, ↓am_17, ↓wm_17, ↓am_19, ↓wm_19, ↓am_20, ↓wm_20, ↓am_27, ↓wm_27, ↓am_29, ↓wm_29, ↓am_30, ↓wm_30, ↓am_32, ↓wm_32, ↓am_33, ↓wm_33, ↓am_34, ↓wm_34, ↓am_39, ↓wm_39, ↓am_41, ↓wm_41, ↓am_42, ↓wm_42, ↓am_44, ↓wm_44, ↓am_45, ↓wm_45, ↓am_46, ↓wm_46, ↓wn_0, ↓wn_46, or_false, false_or, rc_M, List.getElem?_cons_zero, List.getElem?_cons_succ, List.length_cons, List.length_nil, List.set_cons_zero, List.set_cons_succ, true_and, and_true, Option.toList_some, Option.toList_none, List.cons_append, List.nil_append, ↓reduceIte, not_false_eq_true, not_true_eq_false, Nat.reduceAdd, xj0_01, xj1_01, xb_B, xb_True, xb_False, ↓xj_in, xj_nat, Int.toNat_natCast, xj_lt_t, xj_lt_f, xj_le_t, xj_le_f, xj_eq_t, xj_eq_f, xj_lt, xj_le, xj_eq, xj_add, xj_sub, xj_mul, show ¬ xj 1 = xj 0 from by decide, tn_add, tn_mul, tn_sub, Int.toNat_natCast, Int.reduceToNat, mS_S, mS_So, mS_A, mS_J, mA_A, mA_Ao, mA_S, mA_J, mJ_J, mJ_Jo, mJ_S, mJ_A, sS_S, sA_A, sS_A, sS_J, sJ_A, q16, e16]
  rw [b169_17, rc_M, true_and, e166 (by omega)]
  simp (disch := omega) only [b166_0, b166_1, List.getElem?_cons_zero, List.getElem?_cons_succ, List.length_cons, List.length_nil, List.set_cons_zero, List.set_cons_succ, true_and, and_true, Option.toList_some, Option.toList_none, List.cons_append, List.nil_append, ↓reduceIte, not_false_eq_true, not_true_eq_false, Nat.reduceAdd, xj0_01, xj1_01, xb_B, xb_True, xb_False]
  exact po
theorem td_or (hD : 4 ≤ D) (hp : rP R T n t (p, c, ms)) (h8 : mS R 8 = (p : Nat)) (hg : sgR R (pnS a wt ++ σ)) (ht : tpS σ) (hl : σ.length < 390) (hr : (ms ++ bO a).length < 400) (hw : wdA T n p = 18) (h : ∀ R' l2' j', frX t R R' → rP R' T n t (nxT T n p, c, (ms ++ bO a) ++ eO wt) → sgR R' (pnS false true ++ σ) → Fc D b f w K l2' j' R') : xk_B D 169 29 [.ref b, .int (xj 1), l2] [] (xm f b R, w) K := by
  have hn := hp.1.2.1
  have ha := rP_at hp
  have hwl := wd_lt (T := T) (n := n) (p := p) (by omega)
  have hi9 := fun K' => m_isWp (D := D) (b := b) (f := f) (w := w) (K := K') (u := 6385252) (k := 19) (by omega) hp h8 (by omega) rfl
  have x9 : ∀ i, @xb (wdA T n ((p, c, ms) : Ps).1 = ((19 : Nat) : Int)) i = xj 0 := fun i => xb_F (by show ¬ wdA T n p = 19; omega)
  have hi8 := fun K' => m_isWp (D := D) (b := b) (f := f) (w := w) (K := K') (u := 28530) (k := 18) (by omega) hp h8 (by omega) rfl
  have x8 : ∀ i, @xb (wdA T n ((p, c, ms) : Ps).1 = ((18 : Nat) : Int)) i = xj 1 := fun i => xb_T hw
  have he : ltE T n p ≤ n := by rw [← wd_en (T := T) (n := n) (p := p) (by omega)]; exact (en_rng hwl.1).2
  have hp1 : rP (sS R 8 (ltE T n p : Nat)) T n t (nxT T n p, c, ms) := rP_8 hp he (by unfold nxT; rw [wd_en (by omega)])
  have hg1 : sgR (sS R 8 (ltE T n p : Nat)) (pnS a wt ++ σ) := hg
  have st13 : ∀ (f : Nat → xk_C) K', xk_Cl D 160 [.int (xj 13)] (f, w) K' ↔ K' (some (.int (xj 1))) (f, w) := fun f K' => m_strength (k := 13) (by omega) (by omega)
  simp (disch := omega) only [b169_29, b169_30, b169_33, b169_36, b169_39, b169_40, b169_43, b169_46, b169_49, b169_50, b169_53, b169_54, b169_55, b169_56, b169_59, b169_60, b169_63, b169_66, b169_69, b169_71, b169_74, b169_76, b169_77, b169_78, b169_81, b169_82, b169_83, ↓gm_0, ↓gm_1, ↓gm_2, ↓gm_3, ↓gm_4, ↓gm_5, ↓gm_6, ↓gm_7, ↓gm_8, ↓gm_9, ↓gm_10, ↓gm_11, ↓gm_12, ↓gm_13, ↓gm_14, ↓gm_15, ↓gm_16, ↓gm_17, ↓gm_18, ↓gm_19, ↓gm_20, ↓gm_21, ↓gm_22, ↓gm_23, ↓gm_24, ↓gm_25, ↓gm_26, ↓gm_27, ↓gm_28, ↓gm_29, ↓gm_30, ↓gm_31, ↓gm_32, ↓gm_33, ↓gm_34, ↓gm_35, ↓gm_36, ↓gm_37, ↓gm_38, ↓gm_39, ↓gm_40, ↓gm_41, ↓gm_42, ↓gm_43, ↓gm_44, ↓gm_45, ↓gm_46, ↓pm_1, ↓pm_2, ↓pm_8, ↓pm_9, ↓pm_10, ↓pm_11, ↓pm_12, ↓pm_13, ↓pm_14, ↓pm_16, ↓pm_18, ↓pm_21, ↓pm_22, ↓pm_23, ↓pm_24, ↓pm_25, ↓pm_26, ↓pm_28, ↓pm_31, ↓pm_35, ↓pm_36, ↓pm_37, ↓pm_38, ↓pm_40, ↓pm_43, ↓am_0, ↓wm_0, ↓am_3, ↓wm_3, ↓am_4, ↓wm_4, ↓am_5, ↓wm_5, ↓am_6, ↓wm_6, ↓am_7, ↓wm_7, ↓am_15, ↓wm_15, ↓am_17, ↓wm_17, ↓am_19, ↓wm_19, ↓am_20, ↓wm_20, ↓am_27, ↓wm_27, ↓am_29, ↓wm_29, ↓am_30, ↓wm_30, ↓am_32, ↓wm_32, ↓am_33, ↓wm_33, ↓am_34, ↓wm_34, ↓am_39, ↓wm_39, ↓am_41, ↓wm_41, ↓am_42, ↓wm_42, ↓am_44, ↓wm_44, ↓am_45, ↓wm_45, ↓am_46, ↓wm_46, ↓wn_0, ↓wn_46, or_false, false_or, rc_M, List.getElem?_cons_zero, List.getElem?_cons_succ, List.length_cons, List.length_nil, List.set_cons_zero, List.set_cons_succ, true_and, and_true, Option.toList_some, Option.toList_none, List.cons_append, List.nil_append, ↓reduceIte, not_false_eq_true, not_true_eq_false, Nat.reduceAdd, xj0_01, xj1_01, xb_B, xb_True, xb_False, ↓xj_in, xj_nat, Int.toNat_natCast, xj_lt_t, xj_lt_f, xj_le_t, xj_le_f, xj_eq_t, xj_eq_f, xj_lt, xj_le, xj_eq, xj_add, xj_sub, xj_mul, show ¬ xj 1 = xj 0 from by decide, hi9, x9, hi8, x8, m_passWord _ hp.1 h8 ha.1, st13]
  rw [b169_86, rc_M, true_and]
  refine u_set1 (by omega) hp1 hg1 ht (by omega) hr (fun R2 f2 p2 g2 e8 => ?_)
  have q16 : mS R2 16 = (σ.length : Nat) := g2.1
  have e16 : (σ.length : Int) + 1 = (σ.length + 1 : Nat) := by omega
  have g3 := sgR_op (k := 13) g2 (by omega)
  have po := h (sS (sA R2 15 (upI (mA R2 15) σ.length (13 : Nat))) 16 (σ.length + 1 : Nat)) (.int (xj 13)) xk_dd (frX_t (frX_S (j := 8) (v := (ltE T n p : Nat)) (by omega)) (frX_t f2 ⟨fun j q => by rw [mS_So (by omega), mS_A], fun j q => by rw [mA_S, mA_Ao (by omega)], fun i q => rfl, fun i q => rfl⟩)) p2 g3
  unfold Fc at po
  simp (disch := omega) only [b169_89, b169_90, b169_93, b169_94, b169_97, b169_98, b169_99, b169_100, b169_101, b169_104, b169_105, b169_106, b169_109, b169_12, b169_13, b169_16, ↓gm_0, ↓gm_1, ↓gm_2, ↓gm_3, ↓gm_4, ↓gm_5, ↓gm_6, ↓gm_7, ↓gm_8, ↓gm_9, ↓gm_10, ↓gm_11, ↓gm_12, ↓gm_13, ↓gm_14, ↓gm_15, ↓gm_16, ↓gm_17, ↓gm_18, ↓gm_19, ↓gm_20, ↓gm_21, ↓gm_22, ↓gm_23, ↓gm_24, ↓gm_25, ↓gm_26, ↓gm_27, ↓gm_28, ↓gm_29, ↓gm_30, ↓gm_31, ↓gm_32, ↓gm_33, ↓gm_34, ↓gm_35, ↓gm_36, ↓gm_37, ↓gm_38, ↓gm_39, ↓gm_40, ↓gm_41, ↓gm_42, ↓gm_43, ↓gm_44, ↓gm_45, ↓gm_46, ↓pm_1, ↓pm_2, ↓pm_8, ↓pm_9, ↓pm_10, ↓pm_11, ↓pm_12, ↓pm_13, ↓pm_14, ↓pm_16, ↓pm_18, ↓pm_21, ↓pm_22, ↓pm_23, ↓pm_24, ↓pm_25, ↓pm_26, ↓pm_28, ↓pm_31, ↓pm_35, ↓pm_36, ↓pm_37, ↓pm_38, ↓pm_40, ↓pm_43, ↓am_0, ↓wm_0, ↓am_3, ↓wm_3, ↓am_4, ↓wm_4, ↓am_5, ↓wm_5, ↓am_6, ↓wm_6, ↓am_7, ↓wm_7, ↓am_15, ↓wm_15, ↓am_17, ↓wm_17, ↓am_19, ↓wm_19, ↓am_20, ↓wm_20, ↓am_27, ↓wm_27, ↓am_29, ↓wm_29, ↓am_30, ↓wm_30, ↓am_32, ↓wm_32, ↓am_33, ↓wm_33, ↓am_34, ↓wm_34, ↓am_39, ↓wm_39, ↓am_41, ↓wm_41, ↓am_42, ↓wm_42, ↓am_44, ↓wm_44, ↓am_45, ↓wm_45, ↓am_46, ↓wm_46, ↓wn_0, ↓wn_46, or_false, false_or, rc_M, List.getElem?_cons_zero, List.getElem?_cons_succ, List.length_cons, List.length_nil, List.set_cons_zero, List.set_cons_succ, true_and, and_true, Option.toList_some, Option.toList_none, List.cons_append, List.nil_append, ↓reduceIte, not_false_eq_true, not_true_eq_false, Nat.reduceAdd, xj0_01, xj1_01, xb_B, xb_True, xb_False, ↓xj_in, xj_nat, Int.toNat_natCast, xj_lt_t, xj_lt_f, xj_le_t, xj_le_f, xj_eq_t, xj_eq_f, xj_lt, xj_le, xj_eq, xj_add, xj_sub, xj_mul, show ¬ xj 1 = xj 0 from by decide, tn_add, tn_mul, tn_sub, Int.toNat_natCast, Int.reduceToNat, mS_S, mS_So, mS_A, mS_J, mA_A, mA_Ao, mA_S, mA_J, mJ_J, mJ_Jo, mJ_S, mJ_A, sS_S, sA_A, sS_A, sS_J, sJ_A, q16, e16]
  rw [b169_17, rc_M, true_and, e166 (by omega)]
  simp (disch := omega) only [b166_0, b166_1, List.getElem?_cons_zero, List.getElem?_cons_succ, List.length_cons, List.length_nil, List.set_cons_zero, List.set_cons_succ, true_and, and_true, Option.toList_some, Option.toList_none, List.cons_append, List.nil_append, ↓reduceIte, not_false_eq_true, not_true_eq_false, Nat.reduceAdd, xj0_01, xj1_01, xb_B, xb_True, xb_False]
  exact po
theorem td_in (hD : 4 ≤ D) (hp : rP R T n t s) (h8 : mS R 8 = (s.1 : Nat)) (hg : sgR R σ) (ho : okS σ) (hl : σ.length ≤ 400) (hi : 91 ∈ σ) (hw : wdA T n s.1 ≠ 18) (hw2 : wdA T n s.1 ≠ 19) (h : ∀ R', frX t R R' → mS R' 9 = (1 + 8 * s.1 : Nat) → K (some (.int (xj 0))) (xm f b R', w)) : xk_B D 169 29 [.ref b, .int (xj 1), l2] [] (xm f b R, w) K := by
  have hi9 := fun K' => m_isWp (D := D) (b := b) (f := f) (w := w) (K := K') (u := 6385252) (k := 19) (by omega) hp h8 (by omega) rfl
  have x9 : ∀ i, @xb (wdA T n s.1 = ((19 : Nat) : Int)) i = xj 0 := fun i => xb_F hw2
  have hi8 := fun K' => m_isWp (D := D) (b := b) (f := f) (w := w) (K := K') (u := 28530) (k := 18) (by omega) hp h8 (by omega) rfl
  have x8 : ∀ i, @xb (wdA T n s.1 = ((18 : Nat) : Int)) i = xj 0 := fun i => xb_F hw
  have e : sS R 8 (s.1 : Nat) = R := by rw [← h8, sS_id]
  have h9 : mS R 9 = 0 := hp.2.2.2.1
  have po := h (sS R 9 (1 + 8 * (s.1 : Nat) + 0)) (frX_S (by omega)) (by rw [mS_S]; omega)
  simp (disch := omega) only [b169_29, b169_30, b169_33, b169_36, b169_39, b169_40, b169_43, b169_46, b169_49, b169_50, b169_53, b169_54, b169_55, b169_56, b169_12, b169_13, b169_112, b169_113, b169_116, b169_119, b169_120, b169_123, b169_124, b169_125, b169_126, b169_127, b169_130, b169_133, b169_133o, b169_133z, b169_133c, ↓gm_0, ↓gm_1, ↓gm_2, ↓gm_3, ↓gm_4, ↓gm_5, ↓gm_6, ↓gm_7, ↓gm_8, ↓gm_9, ↓gm_10, ↓gm_11, ↓gm_12, ↓gm_13, ↓gm_14, ↓gm_15, ↓gm_16, ↓gm_17, ↓gm_18, ↓gm_19, ↓gm_20, ↓gm_21, ↓gm_22, ↓gm_23, ↓gm_24, ↓gm_25, ↓gm_26, ↓gm_27, ↓gm_28, ↓gm_29, ↓gm_30, ↓gm_31, ↓gm_32, ↓gm_33, ↓gm_34, ↓gm_35, ↓gm_36, ↓gm_37, ↓gm_38, ↓gm_39, ↓gm_40, ↓gm_41, ↓gm_42, ↓gm_43, ↓gm_44, ↓gm_45, ↓gm_46, ↓pm_1, ↓pm_2, ↓pm_8, ↓pm_9, ↓pm_10, ↓pm_11, ↓pm_12, ↓pm_13, ↓pm_14, ↓pm_16, ↓pm_18, ↓pm_21, ↓pm_22, ↓pm_23, ↓pm_24, ↓pm_25, ↓pm_26, ↓pm_28, ↓pm_31, ↓pm_35, ↓pm_36, ↓pm_37, ↓pm_38, ↓pm_40, ↓pm_43, ↓am_0, ↓wm_0, ↓am_3, ↓wm_3, ↓am_4, ↓wm_4, ↓am_5, ↓wm_5, ↓am_6, ↓wm_6, ↓am_7, ↓wm_7, ↓am_15, ↓wm_15, ↓am_17, ↓wm_17, ↓am_19, ↓wm_19, ↓am_20, ↓wm_20, ↓am_27, ↓wm_27, ↓am_29, ↓wm_29, ↓am_30, ↓wm_30, ↓am_32, ↓wm_32, ↓am_33, ↓wm_33, ↓am_34, ↓wm_34, ↓am_39, ↓wm_39, ↓am_41, ↓wm_41, ↓am_42, ↓wm_42, ↓am_44, ↓wm_44, ↓am_45, ↓wm_45, ↓am_46, ↓wm_46, ↓wn_0, ↓wn_46, or_false, false_or, rc_M, List.getElem?_cons_zero, List.getElem?_cons_succ, List.length_cons, List.length_nil, List.set_cons_zero, List.set_cons_succ, true_and, and_true, Option.toList_some, Option.toList_none, List.cons_append, List.nil_append, ↓reduceIte, not_false_eq_true, not_true_eq_false, Nat.reduceAdd, xj0_01, xj1_01, xb_B, xb_True, xb_False, ↓xj_in, xj_nat, Int.toNat_natCast, xj_lt_t, xj_lt_f, xj_le_t, xj_le_f, xj_eq_t, xj_eq_f, xj_lt, xj_le, xj_eq, xj_add, xj_sub, xj_mul, show ¬ xj 1 = xj 0 from by decide, hi9, x9, hi8, x8, m_isInside _ hg ho hl, xb_T hi, m_seeP _ hp, e, h8, m_fails, h9]
  exact po
theorem td_end (hD : 4 ≤ D) (hp : rP R T n t (p, c, ms)) (h8 : mS R 8 = (p : Nat)) (hg : sgR R (pnS a wt ++ [])) (hr : (ms ++ bO a).length < 400) (hw : wdA T n p ≠ 18) (hw2 : wdA T n p ≠ 19) (h : ∀ R', frX t R R' → rP R' T n t (p, c, (ms ++ bO a) ++ eO wt) → K (some (.int (xj 1))) (xm f b R', w)) : xk_B D 169 29 [.ref b, .int (xj 1), l2] [] (xm f b R, w) K := by
  have hi9 := fun K' => m_isWp (D := D) (b := b) (f := f) (w := w) (K := K') (u := 6385252) (k := 19) (by omega) hp h8 (by omega) rfl
  have x9 : ∀ i, @xb (wdA T n ((p, c, ms) : Ps).1 = ((19 : Nat) : Int)) i = xj 0 := fun i => xb_F hw2
  have hi8 := fun K' => m_isWp (D := D) (b := b) (f := f) (w := w) (K := K') (u := 28530) (k := 18) (by omega) hp h8 (by omega) rfl
  have x8 : ∀ i, @xb (wdA T n ((p, c, ms) : Ps).1 = ((18 : Nat) : Int)) i = xj 0 := fun i => xb_F hw
  have ho : okS (pnS a wt ++ []) := pn_ok (fun x hx => by cases hx)
  have hi : ¬ 91 ∈ pnS a wt ++ [] := by cases a <;> cases wt <;> decide
  have hl : (pnS a wt ++ []).length ≤ 400 := by cases a <;> cases wt <;> decide
  simp (disch := omega) only [b169_29, b169_30, b169_33, b169_36, b169_39, b169_40, b169_43, b169_46, b169_49, b169_50, b169_53, b169_54, b169_55, b169_56, b169_12, b169_13, b169_112, b169_113, b169_116, b169_119, b169_120, b169_123, b169_124, b169_125, b169_126, b169_127, b169_130, b169_133, b169_134, b169_135, b169_133o, b169_133z, b169_133c, ↓gm_0, ↓gm_1, ↓gm_2, ↓gm_3, ↓gm_4, ↓gm_5, ↓gm_6, ↓gm_7, ↓gm_8, ↓gm_9, ↓gm_10, ↓gm_11, ↓gm_12, ↓gm_13, ↓gm_14, ↓gm_15, ↓gm_16, ↓gm_17, ↓gm_18, ↓gm_19, ↓gm_20, ↓gm_21, ↓gm_22, ↓gm_23, ↓gm_24, ↓gm_25, ↓gm_26, ↓gm_27, ↓gm_28, ↓gm_29, ↓gm_30, ↓gm_31, ↓gm_32, ↓gm_33, ↓gm_34, ↓gm_35, ↓gm_36, ↓gm_37, ↓gm_38, ↓gm_39, ↓gm_40, ↓gm_41, ↓gm_42, ↓gm_43, ↓gm_44, ↓gm_45, ↓gm_46, ↓pm_1, ↓pm_2, ↓pm_8, ↓pm_9, ↓pm_10, ↓pm_11, ↓pm_12, ↓pm_13, ↓pm_14, ↓pm_16, ↓pm_18, ↓pm_21, ↓pm_22, ↓pm_23, ↓pm_24, ↓pm_25, ↓pm_26, ↓pm_28, ↓pm_31, ↓pm_35, ↓pm_36, ↓pm_37, ↓pm_38, ↓pm_40, ↓pm_43, ↓am_0, ↓wm_0, ↓am_3, ↓wm_3, ↓am_4, ↓wm_4, ↓am_5, ↓wm_5, ↓am_6, ↓wm_6, ↓am_7, ↓wm_7, ↓am_15, ↓wm_15, ↓am_17, ↓wm_17, ↓am_19, ↓wm_19, ↓am_20, ↓wm_20, ↓am_27, ↓wm_27, ↓am_29, ↓wm_29, ↓am_30, ↓wm_30, ↓am_32, ↓wm_32, ↓am_33, ↓wm_33, ↓am_34, ↓wm_34, ↓am_39, ↓wm_39, ↓am_41, ↓wm_41, ↓am_42, ↓wm_42, ↓am_44, ↓wm_44, ↓am_45, ↓wm_45, ↓am_46, ↓wm_46, ↓wn_0, ↓wn_46, or_false, false_or, rc_M, List.getElem?_cons_zero, List.getElem?_cons_succ, List.length_cons, List.length_nil, List.set_cons_zero, List.set_cons_succ, true_and, and_true, Option.toList_some, Option.toList_none, List.cons_append, List.nil_append, ↓reduceIte, not_false_eq_true, not_true_eq_false, Nat.reduceAdd, xj0_01, xj1_01, xb_B, xb_True, xb_False, ↓xj_in, xj_nat, Int.toNat_natCast, xj_lt_t, xj_lt_f, xj_le_t, xj_le_f, xj_eq_t, xj_eq_f, xj_lt, xj_le, xj_eq, xj_add, xj_sub, xj_mul, show ¬ xj 1 = xj 0 from by decide, hi9, x9, hi8, x8, m_isInside _ hg ho hl, xb_F hi]
  rw [b169_136, rc_M, true_and]
  refine u_set1 (by omega) hp hg (Or.inl rfl) (by show 0 < 398; omega) hr (fun R1 f1 p1 g1 e8 => ?_)
  have po := h R1 f1 p1
  simp (disch := omega) only [b169_139, b169_140, b169_140o, b169_140z, b169_140c, List.getElem?_cons_zero, List.getElem?_cons_succ, List.length_cons, List.length_nil, List.set_cons_zero, List.set_cons_succ, true_and, and_true, Option.toList_some, Option.toList_none, List.cons_append, List.nil_append, ↓reduceIte, not_false_eq_true, not_true_eq_false, Nat.reduceAdd, xj0_01, xj1_01, xb_B, xb_True, xb_False]
  exact po
end XS81
