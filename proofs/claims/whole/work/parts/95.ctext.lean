/-! the class's text: pieces, one at a time -/
theorem rc_R {f : Nat → xk_C} {a ci : Nat} {fs : List Value} (h : f a = .inr (ci, fs)) : xk_RC f a ci ↔ True := by unfold xk_RC; rw [h]; exact ⟨fun _ => trivial, fun _ => rfl⟩
def xc_Tx (a sz nx fa : Nat) : xk_C := .inr (10, [.ref (a + 1), .ref (a + 2), .ref (a + 3), .int (xj sz), .int (xj nx), .int (xj fa)])
def tkP (T : Nat → Int) (n : Nat) (ks vs ps : Nat → Int) (sz : Nat) : Prop := 1 ≤ sz ∧ sz ≤ 401 ∧ ∀ i, i < sz → ∃ p : Nat, ps i = p ∧ atP T n p ∧ ks i = (kdT T n p : Nat) ∧ vs i = vaT T n p ∧ (i + 1 < sz → p < n ∧ ps (i + 1) = (nxT T n p : Nat)) ∧ (i + 1 = sz → p = n)
def tOK (T : Nat → Int) (n : Nat) : Prop := n ≤ 400 ∧ ∀ i, i < n → 0 ≤ T i ∧ T i ≤ 255
/-- the text at the place p, its fault fa -/
def xT (f : Nat → xk_C) (a : Nat) (T : Nat → Int) (n p fa : Nat) : Prop := ∃ ks vs ps sz nx, f a = xc_Tx a sz nx fa ∧ f (a + 1) = xa_I 401 ks ∧ f (a + 2) = xa_I 401 vs ∧ f (a + 3) = xa_I 401 ps ∧ tkP T n ks vs ps sz ∧ nx < sz ∧ ps nx = (p : Nat) ∧ fa ≤ 4000 ∧ tOK T n
theorem kd_dg {T : Nat → Int} {n p : Nat} (h : kdT T n p = 1) : dgB T n p = true := by
  unfold kdT at h
  split at h
  · omega
  · split at h
    · assumption
    · split at h <;> omega
theorem kd_lb {T : Nat → Int} {n p : Nat} (h : kdT T n p = 2) : ltB T n p = true := by
  unfold kdT at h
  split at h
  · omega
  · split at h
    · omega
    · split at h
      · assumption
      · omega
theorem kd_rng (T : Nat → Int) (n p : Nat) : kdT T n p ≤ 3 := by
  unfold kdT
  split
  · omega
  · split
    · omega
    · split <;> omega
theorem kw_iff {T : Nat → Int} {n p k : Nat} : (kdT T n p = 2 ∧ vaT T n p = k) ↔ wdA T n p = k := by
  constructor
  · rintro ⟨h1, h2⟩
    unfold vaT at h2
    rw [if_neg (by omega), if_neg (by omega), if_pos h1] at h2
    exact h2
  · intro h
    have hk := kd_2 (wd_lt (T := T) (n := n) (p := p) (by omega)).2
    refine ⟨hk, ?_⟩
    unfold vaT
    rw [if_neg (by omega), if_neg (by omega), if_pos hk]
    exact h
theorem va_rng {T : Nat → Int} {n p : Nat} (hT : tOK T n) : -1 ≤ vaT T n p ∧ vaT T n p ≤ 99999 := by
  unfold vaT
  split
  · omega
  · rename_i h0
    have hp : p < n := kd_lt (T := T) h0
    have ht := hT.2 p hp
    split
    · rename_i h1
      split
      · omega
      · rename_i h5
        have hv := nv_rng2 (T := T) (n := n) (p := p) (dgE T n p - p) (fun i hi => reF_all (dgB T n) 400 p (p + i) (by omega) (by show p + i < dgE T n p; omega))
        exact ⟨by omega, hv.2⟩
    · split
      · have := wd_rng T p (ltE T n p - p)
        show -1 ≤ wdT T p (ltE T n p - p) ∧ wdT T p (ltE T n p - p) ≤ 99999
        omega
      · split <;> omega
theorem mk_iff {T : Nat → Int} {n p : Nat} {m : Int} (hT : tOK T n) (hm : m = 59 ∨ m = 91 ∨ m = 93) : (kdT T n p = 3 ∧ vaT T n p = m) ↔ seeF T n p = m := by
  constructor
  · rintro ⟨h1, h2⟩
    have hp : p < n := kd_lt (T := T) (by omega)
    have ht := hT.2 p hp
    rw [va_mk h1] at h2
    unfold seeF
    rw [if_pos hp]
    split at h2 <;> omega
  · intro h
    have hp : p < n := see_lt (T := T) (by omega)
    unfold seeF at h
    rw [if_pos hp] at h
    have hk := kd_mk (T := T) hp (by omega) (by omega)
    refine ⟨hk, ?_⟩
    rw [va_mk hk, tw_no (by omega)]
    exact h
/-- where a number is taken: the place and the fault behind it -/
def tkN (T : Nat → Int) (n p fa : Nat) (lo hi z : Int) (p' fa' : Nat) : Prop := (kdT T n p = 1 → (vaT T n p < lo ∨ hi < vaT T n p ∨ vaT T n p = z → p' = p ∧ fa' = (if fa = 0 then 1 + 8 * p + 1 else fa)) ∧ (¬ (vaT T n p < lo ∨ hi < vaT T n p ∨ vaT T n p = z) → p' = nxT T n p ∧ fa' = fa)) ∧ (kdT T n p ≠ 1 → p' = p ∧ fa' = (if fa = 0 then 1 + 8 * p else fa))
section XS95
variable {D a b k p q n t c v fa sz nx : Nat} {f g : Nat → xk_C} {w : Nat × Nat × Nat} {K : Option Value → xk_S → Prop} {x y z lo hi : Int} {T ks vs ps : Nat → Int} {V : Value → Prop} {G : (Nat → xk_C) → Prop}
theorem gt_0 (h : f a = xc_Tx a sz nx fa) : xk_GF f a 10 0 V ↔ V (.ref (a + 1)) := gf_R h rfl
theorem gt_1 (h : f a = xc_Tx a sz nx fa) : xk_GF f a 10 1 V ↔ V (.ref (a + 2)) := gf_R h rfl
theorem gt_2 (h : f a = xc_Tx a sz nx fa) : xk_GF f a 10 2 V ↔ V (.ref (a + 3)) := gf_R h rfl
theorem gt_3 (h : f a = xc_Tx a sz nx fa) : xk_GF f a 10 3 V ↔ V (.int (xj sz)) := gf_R h rfl
theorem gt_4 (h : f a = xc_Tx a sz nx fa) : xk_GF f a 10 4 V ↔ V (.int (xj nx)) := gf_R h rfl
theorem gt_5 (h : f a = xc_Tx a sz nx fa) : xk_GF f a 10 5 V ↔ V (.int (xj fa)) := gf_R h rfl
theorem rc_T (h : xT f a T n p fa) : xk_RC f a 10 ↔ True := by obtain ⟨ks, vs, ps, sz, nx, h0, _⟩ := h; exact rc_R h0
theorem xT_fa (h : xT f a T n p fa) : xk_GF f a 10 5 V ↔ V (.int (xj fa)) := by obtain ⟨ks, vs, ps, sz, nx, h0, _⟩ := h; exact gt_5 h0
theorem xT_at (h : xT f a T n p fa) : atP T n p ∧ tOK T n ∧ fa ≤ 4000 := by
  obtain ⟨ks, vs, ps, sz, nx, h0, h1, h2, h3, h4, h5, h6, h7, h8⟩ := h
  obtain ⟨q, e1, e2, _⟩ := h4.2.2 nx h5
  have : q = p := by omega
  subst this
  exact ⟨e2, h8, h7⟩
theorem xT_fr {f' : Nat → xk_C} (h : xT f a T n p fa) (hf : ∀ x, a ≤ x → x < a + 4 → f' x = f x) : xT f' a T n p fa := by
  obtain ⟨ks, vs, ps, sz, nx, h0, h1, h2, h3, h4⟩ := h
  exact ⟨ks, vs, ps, sz, nx, by rw [hf a (by omega) (by omega)]; exact h0, by rw [hf (a + 1) (by omega) (by omega)]; exact h1, by rw [hf (a + 2) (by omega) (by omega)]; exact h2, by rw [hf (a + 3) (by omega) (by omega)]; exact h3, h4⟩
theorem s_kind (hD : 1 ≤ D) (h : xT f a T n p fa) : xk_Cl D 90 [.ref a] (f, w) K ↔ K (some (.int (xj (kdT T n p : Nat)))) (f, w) := by
  rw [e90 (by omega)]
  obtain ⟨ks, vs, ps, sz, nx, h0, h1, h2, h3, ⟨h4, h4', h4''⟩, h5, h6, h7, h8⟩ := h
  obtain ⟨q, e1, e2, e3, e4, _⟩ := h4'' nx h5
  have : q = p := by omega
  subst this
  simp (disch := omega) only [b90_0, b90_1, b90_4, b90_7, b90_8, b90_11, b90_12, b90_15, b90_18, b90_19, b90_22, b90_23, b90_26, b90_27, b90_30, b90_31, b90_34, b90_35, b90_38, b90_39, b90_42, b90_43, List.getElem?_cons_zero, List.getElem?_cons_succ, List.length_cons, List.length_nil, List.set_cons_zero, List.set_cons_succ, true_and, and_true, Option.toList_some, Option.toList_none, List.cons_append, List.nil_append, ↓reduceIte, not_false_eq_true, not_true_eq_false, Nat.reduceAdd, xj0_01, xj1_01, xb_B, xb_True, xb_False, ↓gt_0 h0, ↓gt_3 h0, ↓gt_4 h0, ↓ln_I h1, ↓al_I h1, ↓xj_in, xj_nat, Int.toNat_natCast, xj_lt_t, xj_lt_f, xj_le_t, xj_le_f, xj_eq_t, xj_eq_f, xj_lt, xj_le, xj_eq, xj_add, xj_sub, xj_mul, show ¬ xj 1 = xj 0 from by decide, e3]
theorem s_value (hD : 1 ≤ D) (h : xT f a T n p fa) : xk_Cl D 91 [.ref a] (f, w) K ↔ K (some (.int (xj (vaT T n p)))) (f, w) := by
  rw [e91 (by omega)]
  obtain ⟨ks, vs, ps, sz, nx, h0, h1, h2, h3, ⟨h4, h4', h4''⟩, h5, h6, h7, h8⟩ := h
  obtain ⟨q, e1, e2, e3, e4, _⟩ := h4'' nx h5
  have : q = p := by omega
  subst this
  simp (disch := omega) only [b91_0, b91_1, b91_4, b91_7, b91_8, b91_11, b91_12, b91_15, b91_18, b91_19, b91_22, b91_23, b91_26, b91_27, b91_30, b91_31, b91_34, b91_35, b91_38, b91_39, b91_42, b91_43, List.getElem?_cons_zero, List.getElem?_cons_succ, List.length_cons, List.length_nil, List.set_cons_zero, List.set_cons_succ, true_and, and_true, Option.toList_some, Option.toList_none, List.cons_append, List.nil_append, ↓reduceIte, not_false_eq_true, not_true_eq_false, Nat.reduceAdd, xj0_01, xj1_01, xb_B, xb_True, xb_False, ↓gt_1 h0, ↓gt_3 h0, ↓gt_4 h0, ↓ln_I h2, ↓al_I h2, ↓xj_in, xj_nat, Int.toNat_natCast, xj_lt_t, xj_lt_f, xj_le_t, xj_le_f, xj_eq_t, xj_eq_f, xj_lt, xj_le, xj_eq, xj_add, xj_sub, xj_mul, show ¬ xj 1 = xj 0 from by decide, e4]
theorem s_isWord (hD : 2 ≤ D) (h : xT f a T n p fa) (hk : k < 1000) : xk_Cl D 92 [.ref a, .int (xj (k : Nat))] (f, w) K ↔ K (some (.int (xb (wdA T n p = k)))) (f, w) := by
  rw [e92 (by omega)]
  have hr := kd_rng T n p
  have hv := va_rng (p := p) (xT_at h).2.1
  by_cases c : wdA T n p = k
  · have cc := kw_iff.mpr c
    rw [xb_t c]
    simp (disch := omega) only [b92_0, b92_1, b92_4, b92_5, b92_8, b92_9, b92_12, b92_13, b92_16, b92_17, b92_20, b92_21, b92_21o, b92_21z, b92_21c, List.getElem?_cons_zero, List.getElem?_cons_succ, List.length_cons, List.length_nil, List.set_cons_zero, List.set_cons_succ, true_and, and_true, Option.toList_some, Option.toList_none, List.cons_append, List.nil_append, ↓reduceIte, not_false_eq_true, not_true_eq_false, Nat.reduceAdd, xj0_01, xj1_01, xb_B, xb_True, xb_False, rc_T h, s_kind _ h, s_value _ h, cc.1, cc.2, ↓xj_in, xj_nat, Int.toNat_natCast, xj_lt_t, xj_lt_f, xj_le_t, xj_le_f, xj_eq_t, xj_eq_f, xj_lt, xj_le, xj_eq, xj_add, xj_sub, xj_mul, show ¬ xj 1 = xj 0 from by decide]
  · rw [xb_f c]
    by_cases c2 : kdT T n p = 2
    · have c3 : ¬ vaT T n p = k := fun q => c (kw_iff.mp ⟨c2, q⟩)
      simp (disch := omega) only [b92_0, b92_1, b92_4, b92_5, b92_8, b92_9, b92_12, b92_13, b92_16, b92_17, b92_20, b92_21, b92_21o, b92_21z, b92_21c, List.getElem?_cons_zero, List.getElem?_cons_succ, List.length_cons, List.length_nil, List.set_cons_zero, List.set_cons_succ, true_and, and_true, Option.toList_some, Option.toList_none, List.cons_append, List.nil_append, ↓reduceIte, not_false_eq_true, not_true_eq_false, Nat.reduceAdd, xj0_01, xj1_01, xb_B, xb_True, xb_False, rc_T h, s_kind _ h, s_value _ h, c2, ↓xj_in, xj_nat, Int.toNat_natCast, xj_lt_t, xj_lt_f, xj_le_t, xj_le_f, xj_eq_t, xj_eq_f, xj_lt, xj_le, xj_eq, xj_add, xj_sub, xj_mul, show ¬ xj 1 = xj 0 from by decide]
    · simp (disch := omega) only [b92_0, b92_1, b92_4, b92_5, b92_8, b92_9, b92_12, b92_13, b92_16, b92_17, b92_20, b92_21, b92_21o, b92_21z, b92_21c, List.getElem?_cons_zero, List.getElem?_cons_succ, List.length_cons, List.length_nil, List.set_cons_zero, List.set_cons_succ, true_and, and_true, Option.toList_some, Option.toList_none, List.cons_append, List.nil_append, ↓reduceIte, not_false_eq_true, not_true_eq_false, Nat.reduceAdd, xj0_01, xj1_01, xb_B, xb_True, xb_False, rc_T h, s_kind _ h, s_value _ h, ↓xj_in, xj_nat, Int.toNat_natCast, xj_lt_t, xj_lt_f, xj_le_t, xj_le_f, xj_eq_t, xj_eq_f, xj_lt, xj_le, xj_eq, xj_add, xj_sub, xj_mul, show ¬ xj 1 = xj 0 from by decide]
theorem s_isMark (hD : 2 ≤ D) (h : xT f a T n p fa) (hm : z = 59 ∨ z = 91 ∨ z = 93) : xk_Cl D 93 [.ref a, .int (xj z)] (f, w) K ↔ K (some (.int (xb (seeF T n p = z)))) (f, w) := by
  rw [e93 (by omega)]
  have hr := kd_rng T n p
  have hv := va_rng (p := p) (xT_at h).2.1
  by_cases c : seeF T n p = z
  · have cc := (mk_iff (xT_at h).2.1 hm).mpr c
    rw [xb_t c]
    simp (disch := omega) only [b93_0, b93_1, b93_4, b93_5, b93_8, b93_9, b93_12, b93_13, b93_16, b93_17, b93_20, b93_21, b93_21o, b93_21z, b93_21c, List.getElem?_cons_zero, List.getElem?_cons_succ, List.length_cons, List.length_nil, List.set_cons_zero, List.set_cons_succ, true_and, and_true, Option.toList_some, Option.toList_none, List.cons_append, List.nil_append, ↓reduceIte, not_false_eq_true, not_true_eq_false, Nat.reduceAdd, xj0_01, xj1_01, xb_B, xb_True, xb_False, rc_T h, s_kind _ h, s_value _ h, cc.1, cc.2, ↓xj_in, xj_nat, Int.toNat_natCast, xj_lt_t, xj_lt_f, xj_le_t, xj_le_f, xj_eq_t, xj_eq_f, xj_lt, xj_le, xj_eq, xj_add, xj_sub, xj_mul, show ¬ xj 1 = xj 0 from by decide]
  · rw [xb_f c]
    by_cases c2 : kdT T n p = 3
    · have c3 : ¬ vaT T n p = z := fun q => c ((mk_iff (xT_at h).2.1 hm).mp ⟨c2, q⟩)
      simp (disch := omega) only [b93_0, b93_1, b93_4, b93_5, b93_8, b93_9, b93_12, b93_13, b93_16, b93_17, b93_20, b93_21, b93_21o, b93_21z, b93_21c, List.getElem?_cons_zero, List.getElem?_cons_succ, List.length_cons, List.length_nil, List.set_cons_zero, List.set_cons_succ, true_and, and_true, Option.toList_some, Option.toList_none, List.cons_append, List.nil_append, ↓reduceIte, not_false_eq_true, not_true_eq_false, Nat.reduceAdd, xj0_01, xj1_01, xb_B, xb_True, xb_False, rc_T h, s_kind _ h, s_value _ h, c2, ↓xj_in, xj_nat, Int.toNat_natCast, xj_lt_t, xj_lt_f, xj_le_t, xj_le_f, xj_eq_t, xj_eq_f, xj_lt, xj_le, xj_eq, xj_add, xj_sub, xj_mul, show ¬ xj 1 = xj 0 from by decide]
    · simp (disch := omega) only [b93_0, b93_1, b93_4, b93_5, b93_8, b93_9, b93_12, b93_13, b93_16, b93_17, b93_20, b93_21, b93_21o, b93_21z, b93_21c, List.getElem?_cons_zero, List.getElem?_cons_succ, List.length_cons, List.length_nil, List.set_cons_zero, List.set_cons_succ, true_and, and_true, Option.toList_some, Option.toList_none, List.cons_append, List.nil_append, ↓reduceIte, not_false_eq_true, not_true_eq_false, Nat.reduceAdd, xj0_01, xj1_01, xb_B, xb_True, xb_False, rc_T h, s_kind _ h, s_value _ h, ↓xj_in, xj_nat, Int.toNat_natCast, xj_lt_t, xj_lt_f, xj_le_t, xj_le_f, xj_eq_t, xj_eq_f, xj_lt, xj_le, xj_eq, xj_add, xj_sub, xj_mul, show ¬ xj 1 = xj 0 from by decide]
theorem u_step (hD : 1 ≤ D) (h : xT f a T n p fa) (hp : p < n) (hpost : ∀ f', (∀ x, x ≠ a → f' x = f x) → xT f' a T n (nxT T n p) fa → K none (f', w)) : xk_Cl D 94 [.ref a] (f, w) K := by
  rw [e94 (by omega)]
  obtain ⟨ks, vs, ps, sz, nx, h0, h1, h2, h3, ⟨h4, h4', h4''⟩, h5, h6, h7, h8⟩ := h
  obtain ⟨q, e1, e2, e3, e4, e5, e6⟩ := h4'' nx h5
  have : q = p := by omega
  subst this
  have hs : nx + 1 < sz := by
    apply Classical.byContradiction
    intro c
    have := e6 (by omega)
    omega
  have po := hpost (va_up f a (xc_Tx a sz (nx + 1) fa)) (fun x hx => up_ne hx) ⟨ks, vs, ps, sz, nx + 1, up_s _ _ _, by rw [up_ne (by omega)]; exact h1, by rw [up_ne (by omega)]; exact h2, by rw [up_ne (by omega)]; exact h3, ⟨h4, h4', h4''⟩, hs, (e5 hs).2, h7, h8⟩
  have h0' : f a = .inr (10, [.ref (a + 1), .ref (a + 2), .ref (a + 3), .int (xj sz), .int (xj nx), .int (xj fa)]) := h0
  have en : ((nx : Nat) : Int) + 1 = ((nx + 1 : Nat) : Int) := by omega
  simp (disch := first | omega | (simp only [List.length_cons, List.length_nil] <;> omega)) only [b94_0, b94_1, b94_2, b94_5, b94_6, b94_7, b94_10, List.getElem?_cons_zero, List.getElem?_cons_succ, List.length_cons, List.length_nil, List.set_cons_zero, List.set_cons_succ, true_and, and_true, Option.toList_some, Option.toList_none, List.cons_append, List.nil_append, ↓reduceIte, not_false_eq_true, not_true_eq_false, Nat.reduceAdd, xj0_01, xj1_01, xb_B, xb_True, xb_False, ↓gt_4 h0, ↓pf_R h0', ↓xj_in, xj_nat, Int.toNat_natCast, xj_lt_t, xj_lt_f, xj_le_t, xj_le_f, xj_eq_t, xj_eq_f, xj_lt, xj_le, xj_eq, xj_add, xj_sub, xj_mul, show ¬ xj 1 = xj 0 from by decide, en]
  exact po
theorem u_fail (hD : 1 ≤ D) (h : xT f a T n p fa) (hk : k ≤ 4) (hpost : ∀ f', (∀ x, x ≠ a → f' x = f x) → xT f' a T n p (if fa = 0 then 1 + 8 * p + k else fa) → K none (f', w)) : xk_Cl D 95 [.ref a, .int (xj (k : Nat))] (f, w) K := by
  rw [e95 (by omega)]
  have hx := h
  obtain ⟨ks, vs, ps, sz, nx, h0, h1, h2, h3, ⟨h4, h4', h4''⟩, h5, h6, h7, h8⟩ := h
  have ha := (xT_at hx).1.1
  have hn := h8.1
  by_cases c : fa = 0
  · rw [if_pos c] at hpost
    subst c
    have po := hpost (va_up f a (xc_Tx a sz nx (1 + 8 * p + k))) (fun x hx => up_ne hx) ⟨ks, vs, ps, sz, nx, up_s _ _ _, by rw [up_ne (by omega)]; exact h1, by rw [up_ne (by omega)]; exact h2, by rw [up_ne (by omega)]; exact h3, ⟨h4, h4', h4''⟩, h5, h6, by omega, h8⟩
    have h0' : f a = .inr (10, [.ref (a + 1), .ref (a + 2), .ref (a + 3), .int (xj sz), .int (xj nx), .int (xj (0 : Nat))]) := h0
    have en : (1 : Int) + 8 * (p : Nat) + (k : Nat) = ((1 + 8 * p + k : Nat) : Int) := by omega
    simp (disch := first | omega | (simp only [List.length_cons, List.length_nil] <;> omega)) only [b95_0, b95_1, b95_4, b95_7, b95_8, b95_11, b95_14, b95_15, b95_18, b95_19, b95_22, b95_25, b95_26, b95_29, b95_30, b95_33, b95_34, b95_37, b95_38, b95_39, b95_41, b95_42, b95_45, b95_46, b95_49, b95_50, b95_51, b95_52, b95_53, b95_54, b95_57, List.getElem?_cons_zero, List.getElem?_cons_succ, List.length_cons, List.length_nil, List.set_cons_zero, List.set_cons_succ, true_and, and_true, Option.toList_some, Option.toList_none, List.cons_append, List.nil_append, ↓reduceIte, not_false_eq_true, not_true_eq_false, Nat.reduceAdd, xj0_01, xj1_01, xb_B, xb_True, xb_False, ↓gt_2 h0, ↓gt_3 h0, ↓gt_4 h0, ↓gt_5 h0, ↓ln_I h3, ↓al_I h3, ↓pf_R h0', ↓xj_in, xj_nat, Int.toNat_natCast, xj_lt_t, xj_lt_f, xj_le_t, xj_le_f, xj_eq_t, xj_eq_f, xj_lt, xj_le, xj_eq, xj_add, xj_sub, xj_mul, show ¬ xj 1 = xj 0 from by decide, h6, en]
    exact po
  · rw [if_neg c] at hpost
    have po := hpost f (fun _ _ => rfl) hx
    simp (disch := omega) only [b95_0, b95_1, b95_4, b95_7, b95_8, b95_11, b95_14, b95_15, b95_18, b95_19, b95_22, b95_25, b95_26, b95_29, b95_30, b95_33, b95_34, b95_37, b95_38, b95_39, b95_41, b95_42, b95_45, b95_46, b95_49, b95_50, b95_51, b95_52, b95_53, b95_54, b95_57, List.getElem?_cons_zero, List.getElem?_cons_succ, List.length_cons, List.length_nil, List.set_cons_zero, List.set_cons_succ, true_and, and_true, Option.toList_some, Option.toList_none, List.cons_append, List.nil_append, ↓reduceIte, not_false_eq_true, not_true_eq_false, Nat.reduceAdd, xj0_01, xj1_01, xb_B, xb_True, xb_False, ↓gt_5 h0, ↓xj_in, xj_nat, Int.toNat_natCast, xj_lt_t, xj_lt_f, xj_le_t, xj_le_f, xj_eq_t, xj_eq_f, xj_lt, xj_le, xj_eq, xj_add, xj_sub, xj_mul, show ¬ xj 1 = xj 0 from by decide]
    exact po
theorem u_takeMark (hD : 3 ≤ D) (h : xT f a T n p fa) (hm : z = 59 ∨ z = 91 ∨ z = 93) (hyes : seeF T n p = z → ∀ f', (∀ x, x ≠ a → f' x = f x) → xT f' a T n (nxT T n p) fa → K none (f', w)) (hno : seeF T n p ≠ z → ∀ f', (∀ x, x ≠ a → f' x = f x) → xT f' a T n p (if fa = 0 then 1 + 8 * p else fa) → K none (f', w)) : xk_Cl D 96 [.ref a, .int (xj z)] (f, w) K := by
  rw [e96 (by omega)]
  by_cases c : seeF T n p = z
  · have xw : ∀ i, @xb (seeF T n p = z) i = xj 1 := fun i => xb_T c
    simp (disch := omega) only [b96_0, b96_1, b96_2, b96_5, b96_8, List.getElem?_cons_zero, List.getElem?_cons_succ, List.length_cons, List.length_nil, List.set_cons_zero, List.set_cons_succ, true_and, and_true, Option.toList_some, Option.toList_none, List.cons_append, List.nil_append, ↓reduceIte, not_false_eq_true, not_true_eq_false, Nat.reduceAdd, xj0_01, xj1_01, xb_B, xb_True, xb_False, rc_T h, s_isMark _ h hm, xw, ↓xj_in, xj_nat, Int.toNat_natCast, xj_lt_t, xj_lt_f, xj_le_t, xj_le_f, xj_eq_t, xj_eq_f, xj_lt, xj_le, xj_eq, xj_add, xj_sub, xj_mul, show ¬ xj 1 = xj 0 from by decide]
    rw [b96_9, rc_T h, true_and]
    refine u_step (by omega) h (see_lt (T := T) (by omega)) (fun f' h1 h2 => ?_)
    have po := hyes c f' h1 h2
    simp (disch := omega) only [b96_12, b96_15, b96_16, b96_17, b96_20, List.getElem?_cons_zero, List.getElem?_cons_succ, List.length_cons, List.length_nil, List.set_cons_zero, List.set_cons_succ, true_and, and_true, Option.toList_some, Option.toList_none, List.cons_append, List.nil_append, ↓reduceIte, not_false_eq_true, not_true_eq_false, Nat.reduceAdd, xj0_01, xj1_01, xb_B, xb_True, xb_False]
    exact po
  · have xw : ∀ i, @xb (seeF T n p = z) i = xj 0 := fun i => xb_F c
    simp (disch := omega) only [b96_0, b96_1, b96_2, b96_5, b96_8, b96_9, b96_12, b96_15, b96_16, List.getElem?_cons_zero, List.getElem?_cons_succ, List.length_cons, List.length_nil, List.set_cons_zero, List.set_cons_succ, true_and, and_true, Option.toList_some, Option.toList_none, List.cons_append, List.nil_append, ↓reduceIte, not_false_eq_true, not_true_eq_false, Nat.reduceAdd, xj0_01, xj1_01, xb_B, xb_True, xb_False, rc_T h, s_isMark _ h hm, xw, ↓xj_in, xj_nat, Int.toNat_natCast, xj_lt_t, xj_lt_f, xj_le_t, xj_le_f, xj_eq_t, xj_eq_f, xj_lt, xj_le, xj_eq, xj_add, xj_sub, xj_mul, show ¬ xj 1 = xj 0 from by decide]
    rw [b96_17, rc_T h, true_and]
    refine u_fail (k := 0) (by omega) h (by omega) (fun f' h1 h2 => ?_)
    have po := hno c f' h1 h2
    simp (disch := omega) only [b96_20, List.getElem?_cons_zero, List.getElem?_cons_succ, List.length_cons, List.length_nil, List.set_cons_zero, List.set_cons_succ, true_and, and_true, Option.toList_some, Option.toList_none, List.cons_append, List.nil_append, ↓reduceIte, not_false_eq_true, not_true_eq_false, Nat.reduceAdd, xj0_01, xj1_01, xb_B, xb_True, xb_False]
    exact po
theorem u_takeNum (hD : 2 ≤ D) (h : xT f a T n p fa) (l1 : -2147483648 ≤ lo) (l2 : lo ≤ 2147483647) (i1 : -2147483648 ≤ hi) (i2 : hi ≤ 2147483647) (b1 : -2147483648 ≤ z) (b2 : z ≤ 2147483647) (hpost : ∀ f' p' fa', (∀ x, x ≠ a → f' x = f x) → xT f' a T n p' fa' → tkN T n p fa lo hi z p' fa' → K (some (.int (xj (vaT T n p)))) (f', w)) : xk_Cl D 97 [.ref a, .int (xj lo), .int (xj hi), .int (xj z)] (f, w) K := by
  rw [e97 (by omega)]
  have hr := kd_rng T n p
  have hv := va_rng (p := p) (xT_at h).2.1
  by_cases c : kdT T n p = 1
  · by_cases c2 : vaT T n p < lo ∨ hi < vaT T n p ∨ vaT T n p = z
    · have fin : xk_B (D - 1) 97 40 [.ref a, .int (xj lo), .int (xj hi), .int (xj z), .int (xj (vaT T n p))] [] (f, w) K := by
        simp (disch := omega) only [b97_40, b97_41, List.getElem?_cons_zero, List.getElem?_cons_succ, List.length_cons, List.length_nil, List.set_cons_zero, List.set_cons_succ, true_and, and_true, Option.toList_some, Option.toList_none, List.cons_append, List.nil_append, ↓reduceIte, not_false_eq_true, not_true_eq_false, Nat.reduceAdd, xj0_01, xj1_01, xb_B, xb_True, xb_False]
        rw [b97_42, rc_T h, true_and]
        refine u_fail (k := 1) (by omega) h (by omega) (fun f' h1 h2 => ?_)
        have po := hpost f' p _ h1 h2 ⟨fun _ => ⟨fun _ => ⟨rfl, rfl⟩, fun q => absurd c2 q⟩, fun q => absurd c q⟩
        simp (disch := omega) only [b97_45, b97_48, b97_49, b97_52, b97_54, List.getElem?_cons_zero, List.getElem?_cons_succ, List.length_cons, List.length_nil, List.set_cons_zero, List.set_cons_succ, true_and, and_true, Option.toList_some, Option.toList_none, List.cons_append, List.nil_append, ↓reduceIte, not_false_eq_true, not_true_eq_false, Nat.reduceAdd, xj0_01, xj1_01, xb_B, xb_True, xb_False]
        exact po
      by_cases c3 : vaT T n p < lo
      · simp (disch := omega) only [b97_0, b97_1, b97_4, b97_6, b97_7, b97_10, b97_11, b97_14, b97_15, b97_16, b97_19, b97_22, b97_24, b97_25, List.getElem?_cons_zero, List.getElem?_cons_succ, List.length_cons, List.length_nil, List.set_cons_zero, List.set_cons_succ, true_and, and_true, Option.toList_some, Option.toList_none, List.cons_append, List.nil_append, ↓reduceIte, not_false_eq_true, not_true_eq_false, Nat.reduceAdd, xj0_01, xj1_01, xb_B, xb_True, xb_False, rc_T h, s_kind _ h, s_value _ h, c, ↓xj_in, xj_nat, Int.toNat_natCast, xj_lt_t, xj_lt_f, xj_le_t, xj_le_f, xj_eq_t, xj_eq_f, xj_lt, xj_le, xj_eq, xj_add, xj_sub, xj_mul, show ¬ xj 1 = xj 0 from by decide]
        exact fin
      · by_cases c4 : hi < vaT T n p
        · simp (disch := omega) only [b97_0, b97_1, b97_4, b97_6, b97_7, b97_10, b97_11, b97_14, b97_15, b97_16, b97_19, b97_22, b97_24, b97_25, b97_28, b97_30, b97_31, List.getElem?_cons_zero, List.getElem?_cons_succ, List.length_cons, List.length_nil, List.set_cons_zero, List.set_cons_succ, true_and, and_true, Option.toList_some, Option.toList_none, List.cons_append, List.nil_append, ↓reduceIte, not_false_eq_true, not_true_eq_false, Nat.reduceAdd, xj0_01, xj1_01, xb_B, xb_True, xb_False, rc_T h, s_kind _ h, s_value _ h, c, ↓xj_in, xj_nat, Int.toNat_natCast, xj_lt_t, xj_lt_f, xj_le_t, xj_le_f, xj_eq_t, xj_eq_f, xj_lt, xj_le, xj_eq, xj_add, xj_sub, xj_mul, show ¬ xj 1 = xj 0 from by decide]
          exact fin
        · simp (disch := omega) only [b97_0, b97_1, b97_4, b97_6, b97_7, b97_10, b97_11, b97_14, b97_15, b97_16, b97_19, b97_22, b97_24, b97_25, b97_28, b97_30, b97_31, b97_34, b97_36, b97_37, List.getElem?_cons_zero, List.getElem?_cons_succ, List.length_cons, List.length_nil, List.set_cons_zero, List.set_cons_succ, true_and, and_true, Option.toList_some, Option.toList_none, List.cons_append, List.nil_append, ↓reduceIte, not_false_eq_true, not_true_eq_false, Nat.reduceAdd, xj0_01, xj1_01, xb_B, xb_True, xb_False, rc_T h, s_kind _ h, s_value _ h, c, ↓xj_in, xj_nat, Int.toNat_natCast, xj_lt_t, xj_lt_f, xj_le_t, xj_le_f, xj_eq_t, xj_eq_f, xj_lt, xj_le, xj_eq, xj_add, xj_sub, xj_mul, show ¬ xj 1 = xj 0 from by decide]
          exact fin
    · simp (disch := omega) only [b97_0, b97_1, b97_4, b97_6, b97_7, b97_10, b97_11, b97_14, b97_15, b97_16, b97_19, b97_22, b97_24, b97_25, b97_28, b97_30, b97_31, b97_34, b97_36, b97_37, b97_40, b97_41, b97_42, b97_45, b97_48, List.getElem?_cons_zero, List.getElem?_cons_succ, List.length_cons, List.length_nil, List.set_cons_zero, List.set_cons_succ, true_and, and_true, Option.toList_some, Option.toList_none, List.cons_append, List.nil_append, ↓reduceIte, not_false_eq_true, not_true_eq_false, Nat.reduceAdd, xj0_01, xj1_01, xb_B, xb_True, xb_False, rc_T h, s_kind _ h, s_value _ h, c, ↓xj_in, xj_nat, Int.toNat_natCast, xj_lt_t, xj_lt_f, xj_le_t, xj_le_f, xj_eq_t, xj_eq_f, xj_lt, xj_le, xj_eq, xj_add, xj_sub, xj_mul, show ¬ xj 1 = xj 0 from by decide]
      rw [b97_49, rc_T h, true_and]
      refine u_step (by omega) h (kd_lt (T := T) (by omega)) (fun f' h1 h2 => ?_)
      have po := hpost f' _ _ h1 h2 ⟨fun _ => ⟨fun q => absurd q c2, fun _ => ⟨rfl, rfl⟩⟩, fun q => absurd c q⟩
      simp (disch := omega) only [b97_52, b97_54, List.getElem?_cons_zero, List.getElem?_cons_succ, List.length_cons, List.length_nil, List.set_cons_zero, List.set_cons_succ, true_and, and_true, Option.toList_some, Option.toList_none, List.cons_append, List.nil_append, ↓reduceIte, not_false_eq_true, not_true_eq_false, Nat.reduceAdd, xj0_01, xj1_01, xb_B, xb_True, xb_False]
      exact po
  · simp (disch := omega) only [b97_0, b97_1, b97_4, b97_6, b97_7, b97_10, b97_11, b97_14, b97_15, List.getElem?_cons_zero, List.getElem?_cons_succ, List.length_cons, List.length_nil, List.set_cons_zero, List.set_cons_succ, true_and, and_true, Option.toList_some, Option.toList_none, List.cons_append, List.nil_append, ↓reduceIte, not_false_eq_true, not_true_eq_false, Nat.reduceAdd, xj0_01, xj1_01, xb_B, xb_True, xb_False, rc_T h, s_kind _ h, s_value _ h, ↓xj_in, xj_nat, Int.toNat_natCast, xj_lt_t, xj_lt_f, xj_le_t, xj_le_f, xj_eq_t, xj_eq_f, xj_lt, xj_le, xj_eq, xj_add, xj_sub, xj_mul, show ¬ xj 1 = xj 0 from by decide]
    rw [b97_16, rc_T h, true_and]
    refine u_fail (k := 0) (by omega) h (by omega) (fun f' h1 h2 => ?_)
    have po := hpost f' p _ h1 h2 ⟨fun q => absurd q c, fun _ => ⟨rfl, rfl⟩⟩
    simp (disch := omega) only [b97_19, b97_22, b97_24, b97_25, b97_28, b97_30, b97_31, b97_34, b97_36, b97_37, b97_40, b97_41, b97_42, b97_45, b97_48, b97_49, b97_52, b97_54, List.getElem?_cons_zero, List.getElem?_cons_succ, List.length_cons, List.length_nil, List.set_cons_zero, List.set_cons_succ, true_and, and_true, Option.toList_some, Option.toList_none, List.cons_append, List.nil_append, ↓reduceIte, not_false_eq_true, not_true_eq_false, Nat.reduceAdd, xj0_01, xj1_01, xb_B, xb_True, xb_False]
    exact po
end XS95
