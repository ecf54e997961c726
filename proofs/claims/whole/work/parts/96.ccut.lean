/-! the class cuts a text -/
def rgB (T : Nat → Int) (n : Nat) (lo hi : Int) (k : Nat) : Bool := decide (k < n ∧ lo ≤ T k ∧ T k ≤ hi)
theorem rgB_n {T : Nat → Int} {n : Nat} {lo hi : Int} : ∀ i, n ≤ i → rgB T n lo hi i = false := fun i h => decide_eq_false (by omega)
theorem rg_le {T : Nat → Int} {n p : Nat} {lo hi : Int} (hp : p ≤ n) : reF (rgB T n lo hi) 400 p ≤ n := by
  apply Classical.byContradiction
  intro c
  have := reF_all (rgB T n lo hi) 400 p n hp (by omega)
  rw [rgB_n n (Nat.le_refl _)] at this
  cases this
/-- the letters of the words, one behind the other -/
def wsF : Nat → Nat
  | 0 => 0
  | k + 1 => wsF k + wlen k + 1
theorem wtb_ok : ∀ k, k < 21 → (∀ i, i < wlen k → wsF k + i < 109 ∧ xk_tb.getD (wsF k + i) 0 = xj (wl k i : Nat) ∧ 97 ≤ wl k i ∧ wl k i ≤ 122) ∧ wsF k + wlen k ≤ 109 ∧ (wsF k + wlen k < 109 → xk_tb.getD (wsF k + wlen k) 0 = xj 32) := by decide +kernel
/-- as far as the letters are the word's -/
def smW (T : Nat → Int) (p e c : Nat) : Nat → Bool
  | 0 => true
  | i + 1 => smW T p e c i && decide (p + i < e ∧ T (p + i) = wl c i)
theorem smW_iff {T : Nat → Int} {p e c : Nat} : ∀ i, smW T p e c i = true ↔ ∀ j, j < i → p + j < e ∧ T (p + j) = wl c j := by
  intro i
  induction i with
  | zero => exact ⟨fun _ j hj => absurd hj (Nat.not_lt_zero j), fun _ => rfl⟩
  | succ i ih =>
    show (smW T p e c i && decide (p + i < e ∧ T (p + i) = wl c i)) = true ↔ _
    rw [Bool.and_eq_true, ih, decide_eq_true_eq]
    constructor
    · rintro ⟨h1, h2⟩ j hj
      by_cases cj : j = i
      · rw [cj]; exact h2
      · exact h1 j (by omega)
    · intro h
      exact ⟨fun j hj => h j (by omega), h i (by omega)⟩
theorem smW_wm {T : Nat → Int} {p e c : Nat} (hp : p ≤ e) : (smW T p e c (wlen c) = true ∧ p + wlen c = e) ↔ wmB T p (e - p) c = true := by
  unfold wmB
  rw [smW_iff, decide_eq_true_eq]
  constructor
  · rintro ⟨h1, h2⟩
    have e1 : e - p = wlen c := by omega
    rw [e1]
    exact ⟨rfl, fun i hi => (h1 i hi).2⟩
  · rintro ⟨h1, h2⟩
    exact ⟨fun j hj => ⟨by omega, h2 j (by omega)⟩, by omega⟩
theorem sk_sp {T : Nat → Int} {n q : Nat} (hn : n ≤ 400) (h : spB T n q = true) : skT T n q = skT T n (q + 1) := by
  have hq : q < n := (of_decide_eq_true h).1
  have hs := sk_rng (T := T) (n := n) (p := q + 1) (by omega)
  refine reF_at spB_n (by omega) (fun i h1 h2 => ?_) (sk_at hn (by omega)).2 400 (by omega)
  by_cases c : i = q
  · rw [c]; exact h
  · exact reF_all (spB T n) 400 (q + 1) i (by omega) h2
def xs_Tx (f : Nat → xk_C) (a sz nx fa : Nat) (ks vs ps : Nat → Int) : Nat → xk_C := xs f a [xc_Tx a sz nx fa, xa_I 401 ks, xa_I 401 vs, xa_I 401 ps]
/-- pieces so far, up to the place q -/
def cutI (T : Nat → Int) (n sz : Nat) (ks vs ps : Nat → Int) (q : Nat) : Prop := (∀ i, i < sz → ∃ p : Nat, ps i = p ∧ atP T n p ∧ p < n ∧ ks i = (kdT T n p : Nat) ∧ vs i = vaT T n p ∧ (i + 1 < sz → ps (i + 1) = (nxT T n p : Nat)) ∧ (i + 1 = sz → nxT T n p = skT T n q)) ∧ (sz = 0 → skT T n 0 = skT T n q) ∧ (0 < sz → ps 0 = (skT T n 0 : Nat))
theorem cutI_up {T : Nat → Int} {n sz q : Nat} {ks vs ps : Nat → Int} (hn : n ≤ 400) (h : cutI T n sz ks vs ps q) (hq : q < n) (hs : spB T n q = false) : cutI T n (sz + 1) (upI ks sz (kdT T n q : Nat)) (upI vs sz (vaT T n q)) (upI ps sz (q : Nat)) (enT T n q) := by
  have ha : atP T n q := ⟨by omega, hs⟩
  have hsk := at_sk hn ha
  obtain ⟨h1, h2, h3⟩ := h
  refine ⟨fun i hi => ?_, fun c => by omega, fun _ => ?_⟩
  · by_cases c : i = sz
    · subst c
      exact ⟨q, up_e, ha, hq, up_e, up_e, fun c2 => by omega, fun _ => rfl⟩
    · obtain ⟨p, e1, e2, e3, e4, e5, e6, e7⟩ := h1 i (by omega)
      refine ⟨p, by rw [up_n c]; exact e1, e2, e3, by rw [up_n c]; exact e4, by rw [up_n c]; exact e5, fun c2 => ?_, fun c2 => by omega⟩
      by_cases c3 : i + 1 = sz
      · rw [c3, up_e, e7 c3, hsk]
      · rw [up_n c3]; exact e6 (by omega)
  · by_cases c : sz = 0
    · subst c
      rw [up_e, h2 rfl, hsk]
    · rw [up_n (by omega)]; exact h3 (by omega)
theorem cutI_end {T : Nat → Int} {n sz : Nat} {ks vs ps : Nat → Int} (hn : n ≤ 400) (hz : sz ≤ 400) (h : cutI T n sz ks vs ps n) : tkP T n (upI ks sz 0) (upI vs sz 0) (upI ps sz (n : Nat)) (sz + 1) ∧ upI ps sz (n : Nat) 0 = (skT T n 0 : Nat) := by
  have ha : atP T n n := ⟨Nat.le_refl _, spB_n n (Nat.le_refl _)⟩
  have hsk := at_sk hn ha
  have hk : kdT T n n = 0 := kd_0 (Nat.le_refl _)
  have hv : vaT T n n = 0 := by unfold vaT; rw [if_pos hk]
  obtain ⟨h1, h2, h3⟩ := h
  refine ⟨⟨by omega, by omega, fun i hi => ?_⟩, ?_⟩
  · by_cases c : i = sz
    · subst c
      exact ⟨n, up_e, ha, by rw [up_e, hk]; rfl, by rw [up_e, hv], fun c2 => by omega, fun _ => rfl⟩
    · obtain ⟨p, e1, e2, e3, e4, e5, e6, e7⟩ := h1 i (by omega)
      refine ⟨p, by rw [up_n c]; exact e1, e2, by rw [up_n c]; exact e4, by rw [up_n c]; exact e5, fun c2 => ⟨e3, ?_⟩, fun c2 => by omega⟩
      by_cases c3 : i + 1 = sz
      · rw [c3, up_e, e7 c3, hsk]
      · rw [up_n c3]; exact e6 (by omega)
  · by_cases c : sz = 0
    · subst c
      rw [up_e, h2 rfl, hsk]
    · rw [up_n (by omega)]; exact h3 (by omega)
section XS96
variable {D a b k p q n r c v fa sz nx sz' nx' fa' : Nat} {f g : Nat → xk_C} {w : Nat × Nat × Nat} {K : Option Value → xk_S → Prop} {x y z lo hi : Int} {T ks vs ps h : Nat → Int} {V : Value → Prop} {F : Int32 → Prop} {G : (Nat → xk_C) → Prop}
theorem xTx_0 : xs_Tx f a sz nx fa ks vs ps a = .inr (10, [.ref (a + 1), .ref (a + 2), .ref (a + 3), .int (xj sz), .int (xj nx), .int (xj fa)]) := xs_at0 f a _
theorem xTx_1 : xs_Tx f a sz nx fa ks vs ps (a + 1) = xa_I 401 ks := xs_at f a _ 1
theorem xTx_2 : xs_Tx f a sz nx fa ks vs ps (a + 2) = xa_I 401 vs := xs_at f a _ 2
theorem xTx_3 : xs_Tx f a sz nx fa ks vs ps (a + 3) = xa_I 401 ps := xs_at f a _ 3
theorem xTx_ne {i : Nat} (e : i < a ∨ a + 4 ≤ i) : xs_Tx f a sz nx fa ks vs ps i = f i := xs_ne (by show i < a ∨ a + 4 ≤ i; exact e)
theorem xTx_id (h0 : f a = xc_Tx a sz nx fa) (h1 : f (a + 1) = xa_I 401 ks) (h2 : f (a + 2) = xa_I 401 vs) (h3 : f (a + 3) = xa_I 401 ps) : xs_Tx f a sz nx fa ks vs ps = f := xv_of (fun k hk => by
  match k, hk with
  | 0, _ => exact congrArg some h0.symm
  | 1, _ => exact congrArg some h1.symm
  | 2, _ => exact congrArg some h2.symm
  | 3, _ => exact congrArg some h3.symm)
theorem gTx_0 : xk_GF (xs_Tx f a sz nx fa ks vs ps) a 10 0 V ↔ V (.ref (a + 1)) := gf_R xTx_0 rfl
theorem gTx_1 : xk_GF (xs_Tx f a sz nx fa ks vs ps) a 10 1 V ↔ V (.ref (a + 2)) := gf_R xTx_0 rfl
theorem gTx_2 : xk_GF (xs_Tx f a sz nx fa ks vs ps) a 10 2 V ↔ V (.ref (a + 3)) := gf_R xTx_0 rfl
theorem gTx_3 : xk_GF (xs_Tx f a sz nx fa ks vs ps) a 10 3 V ↔ V (.int (xj sz)) := gf_R xTx_0 rfl
theorem pTx_3 : xk_PF (xs_Tx f a sz nx fa ks vs ps) a 10 3 (.int (xj (k : Nat))) G ↔ G (xs_Tx f a k nx fa ks vs ps) := (pf_R xTx_0 (by show 3 < 6; decide)).trans (iff_of_eq (congrArg G (xs_up0 (c := xc_Tx a k nx fa))))
theorem pTx_4 : xk_PF (xs_Tx f a sz nx fa ks vs ps) a 10 4 (.int (xj (k : Nat))) G ↔ G (xs_Tx f a sz k fa ks vs ps) := (pf_R xTx_0 (by show 4 < 6; decide)).trans (iff_of_eq (congrArg G (xs_up0 (c := xc_Tx a sz k fa))))
theorem pTx_5 : xk_PF (xs_Tx f a sz nx fa ks vs ps) a 10 5 (.int (xj (k : Nat))) G ↔ G (xs_Tx f a sz nx k ks vs ps) := (pf_R xTx_0 (by show 5 < 6; decide)).trans (iff_of_eq (congrArg G (xs_up0 (c := xc_Tx a sz nx k))))
theorem lTx_1 : xk_LN (xs_Tx f a sz nx fa ks vs ps) (a + 1) F ↔ F (xj (401 : Nat)) := ln_I xTx_1
theorem aTx_1 (h1 : 0 ≤ z) (h2 : z < 401) : xk_AS (xs_Tx f a sz nx fa ks vs ps) (a + 1) (xj z) (xj y) G ↔ G (xs_Tx f a sz nx fa (upI ks z.toNat y) vs ps) := (as_I xTx_1 h1 (by omega) (by decide)).trans (iff_of_eq (congrArg G (xs_up (k := 1) (by show 1 < 4; decide))))
theorem aTx_2 (h1 : 0 ≤ z) (h2 : z < 401) : xk_AS (xs_Tx f a sz nx fa ks vs ps) (a + 2) (xj z) (xj y) G ↔ G (xs_Tx f a sz nx fa ks (upI vs z.toNat y) ps) := (as_I xTx_2 h1 (by omega) (by decide)).trans (iff_of_eq (congrArg G (xs_up (k := 2) (by show 2 < 4; decide))))
theorem aTx_3 (h1 : 0 ≤ z) (h2 : z < 401) : xk_AS (xs_Tx f a sz nx fa ks vs ps) (a + 3) (xj z) (xj y) G ↔ G (xs_Tx f a sz nx fa ks vs (upI ps z.toNat y)) := (as_I xTx_3 h1 (by omega) (by decide)).trans (iff_of_eq (congrArg G (xs_up (k := 3) (by show 3 < 4; decide))))
theorem rcTx : xk_RC (xs_Tx f a sz nx fa ks vs ps) a 10 ↔ True := rc_R xTx_0
theorem s_put (hD : 1 ≤ D) (hs : sz < 401) : xk_Cl D 86 [.ref a, .int (xj x), .int (xj y), .int (xj z)] (xs_Tx f a sz nx fa ks vs ps, w) K ↔ K none (xs_Tx f a (sz + 1) nx fa (upI ks sz x) (upI vs sz y) (upI ps sz z), w) := by
  rw [e86 (by omega)]
  have en : ((sz : Nat) : Int) + 1 = ((sz + 1 : Nat) : Int) := by omega
  simp (disch := omega) only [b86_0, b86_1, b86_4, b86_7, b86_8, b86_11, b86_12, b86_15, b86_16, b86_19, b86_20, b86_23, b86_24, b86_27, b86_28, b86_29, b86_30, b86_33, b86_34, b86_37, b86_38, b86_39, b86_40, b86_43, b86_44, b86_47, b86_48, b86_49, b86_50, b86_51, b86_54, b86_55, b86_56, b86_59, List.getElem?_cons_zero, List.getElem?_cons_succ, List.length_cons, List.length_nil, List.set_cons_zero, List.set_cons_succ, true_and, and_true, Option.toList_some, Option.toList_none, List.cons_append, List.nil_append, ↓reduceIte, not_false_eq_true, not_true_eq_false, Nat.reduceAdd, xj0_01, xj1_01, xb_B, xb_True, xb_False, ↓gTx_0, ↓gTx_1, ↓gTx_2, ↓gTx_3, ↓lTx_1, ↓aTx_1, ↓aTx_2, ↓aTx_3, ↓pTx_3, ↓xj_in, xj_nat, Int.toNat_natCast, xj_lt_t, xj_lt_f, xj_le_t, xj_le_f, xj_eq_t, xj_eq_f, xj_lt, xj_le, xj_eq, xj_add, xj_sub, xj_mul, show ¬ xj 1 = xj 0 from by decide, en]
theorem s_runEnd (hD : 1 ≤ D) (hr : f r = xa_I 400 T) (hT : tOK T n) (hp : p ≤ n) (l1 : 0 ≤ lo) (l2 : lo ≤ 1000) (i1 : 0 ≤ hi) (i2 : hi ≤ 1000) : xk_Cl D 87 [.ref r, .int (xj (p : Nat)), .int (xj (n : Nat)), .int (xj lo), .int (xj hi)] (f, w) K ↔ K (some (.int (xj (reF (rgB T n lo hi) 400 p : Nat)))) (f, w) := by
  rw [e87 (by omega)]
  have hn := hT.1
  have hg := (reF_ge (rgB T n lo hi) 400 p).1
  have hle := rg_le (T := T) (lo := lo) (hi := hi) hp
  have hend : rgB T n lo hi (reF (rgB T n lo hi) 400 p) = false := reF_end rgB_n 400 p (by omega)
  have hall := reF_all (rgB T n lo hi) 400 p
  generalize reF (rgB T n lo hi) 400 p = e at *
  simp only [b87_0, b87_1]
  have key := xk_down (J := Unit) (n := e - p) (P := fun k _ => xk_B (D - 1) 87 3 [.ref r, .int (xj (p : Nat)), .int (xj (n : Nat)), .int (xj lo), .int (xj hi), .int (xj (p + k : Nat))] [] (f, w) K) (Q := K (some (.int (xj (e : Nat)))) (f, w)) (fun j => ?_) (fun k hk ih j => ?_) 0 (Nat.zero_le _) ()
  · rw [Nat.add_zero] at key
    exact key
  · rw [show p + (e - p) = e by omega]
    have hend := of_decide_eq_false hend
    by_cases c : e < n
    · have ht := hT.2 e c
      by_cases c2 : T e < lo
      · simp (disch := omega) only [b87_0, b87_1, b87_3, b87_5, b87_6, b87_9, b87_11, b87_12, b87_13, b87_16, b87_17, b87_19, b87_20, b87_21, b87_24, b87_25, b87_27, b87_28, b87_30, b87_33, b87_35, b87_36, b87_39, b87_42, b87_43, List.getElem?_cons_zero, List.getElem?_cons_succ, List.length_cons, List.length_nil, List.set_cons_zero, List.set_cons_succ, true_and, and_true, Option.toList_some, Option.toList_none, List.cons_append, List.nil_append, ↓reduceIte, not_false_eq_true, not_true_eq_false, Nat.reduceAdd, xj0_01, xj1_01, xb_B, xb_True, xb_False, ↓ln_I hr, ↓al_I hr, ↓xj_in, xj_nat, Int.toNat_natCast, xj_lt_t, xj_lt_f, xj_le_t, xj_le_f, xj_eq_t, xj_eq_f, xj_lt, xj_le, xj_eq, xj_add, xj_sub, xj_mul, show ¬ xj 1 = xj 0 from by decide]
      · have c3 : hi < T e := by omega
        simp (disch := omega) only [b87_0, b87_1, b87_3, b87_5, b87_6, b87_9, b87_11, b87_12, b87_13, b87_16, b87_17, b87_19, b87_20, b87_21, b87_24, b87_25, b87_27, b87_28, b87_30, b87_33, b87_35, b87_36, b87_39, b87_42, b87_43, List.getElem?_cons_zero, List.getElem?_cons_succ, List.length_cons, List.length_nil, List.set_cons_zero, List.set_cons_succ, true_and, and_true, Option.toList_some, Option.toList_none, List.cons_append, List.nil_append, ↓reduceIte, not_false_eq_true, not_true_eq_false, Nat.reduceAdd, xj0_01, xj1_01, xb_B, xb_True, xb_False, ↓ln_I hr, ↓al_I hr, ↓xj_in, xj_nat, Int.toNat_natCast, xj_lt_t, xj_lt_f, xj_le_t, xj_le_f, xj_eq_t, xj_eq_f, xj_lt, xj_le, xj_eq, xj_add, xj_sub, xj_mul, show ¬ xj 1 = xj 0 from by decide]
    · have he : e = n := by omega
      subst he
      simp (disch := omega) only [b87_0, b87_1, b87_3, b87_5, b87_6, b87_9, b87_11, b87_12, b87_13, b87_16, b87_17, b87_19, b87_20, b87_21, b87_24, b87_25, b87_27, b87_28, b87_30, b87_33, b87_35, b87_36, b87_39, b87_42, b87_43, List.getElem?_cons_zero, List.getElem?_cons_succ, List.length_cons, List.length_nil, List.set_cons_zero, List.set_cons_succ, true_and, and_true, Option.toList_some, Option.toList_none, List.cons_append, List.nil_append, ↓reduceIte, not_false_eq_true, not_true_eq_false, Nat.reduceAdd, xj0_01, xj1_01, xb_B, xb_True, xb_False, ↓ln_I hr, ↓xj_in, xj_nat, Int.toNat_natCast, xj_lt_t, xj_lt_f, xj_le_t, xj_le_f, xj_eq_t, xj_eq_f, xj_lt, xj_le, xj_eq, xj_add, xj_sub, xj_mul, show ¬ xj 1 = xj 0 from by decide]
  · have hl := of_decide_eq_true (hall (p + k) (by omega) (by omega))
    rw [b87_3, ← ih ()]
    generalize hpk : p + k = q at *
    rw [show p + (k + 1) = q + 1 by omega]
    have ht := hT.2 q hl.1
    simp (disch := omega) only [b87_0, b87_1, b87_5, b87_6, b87_9, b87_11, b87_12, b87_13, b87_16, b87_17, b87_19, b87_20, b87_21, b87_24, b87_25, b87_27, b87_28, b87_30, b87_33, b87_35, b87_36, b87_39, b87_42, b87_43, List.getElem?_cons_zero, List.getElem?_cons_succ, List.length_cons, List.length_nil, List.set_cons_zero, List.set_cons_succ, true_and, and_true, Option.toList_some, Option.toList_none, List.cons_append, List.nil_append, ↓reduceIte, not_false_eq_true, not_true_eq_false, Nat.reduceAdd, xj0_01, xj1_01, xb_B, xb_True, xb_False, ↓ln_I hr, ↓al_I hr, ↓xj_in, xj_nat, Int.toNat_natCast, xj_lt_t, xj_lt_f, xj_le_t, xj_le_f, xj_eq_t, xj_eq_f, xj_lt, xj_le, xj_eq, xj_add, xj_sub, xj_mul, show ¬ xj 1 = xj 0 from by decide]
    rfl
theorem s_numberIn (hD : 1 ≤ D) (hr : f r = xa_I 400 T) (hT : tOK T n) (hp : p ≤ k) (hk : k ≤ n) (hd : ∀ i, i < k - p → dgB T n (p + i) = true) : xk_Cl D 88 [.ref r, .int (xj (p : Nat)), .int (xj (k : Nat))] (f, w) K ↔ K (some (.int (xj (if 5 < k - p then -1 else nvF T p (k - p))))) (f, w) := by
  rw [e88 (by omega)]
  have hn := hT.1
  by_cases c : 5 < k - p
  · rw [if_pos c]
    simp (disch := omega) only [b88_0, b88_1, b88_2, b88_3, b88_4, b88_7, b88_8, List.getElem?_cons_zero, List.getElem?_cons_succ, List.length_cons, List.length_nil, List.set_cons_zero, List.set_cons_succ, true_and, and_true, Option.toList_some, Option.toList_none, List.cons_append, List.nil_append, ↓reduceIte, not_false_eq_true, not_true_eq_false, Nat.reduceAdd, xj0_01, xj1_01, xb_B, xb_True, xb_False, ↓xj_in, xj_nat, Int.toNat_natCast, xj_lt_t, xj_lt_f, xj_le_t, xj_le_f, xj_eq_t, xj_eq_f, xj_lt, xj_le, xj_eq, xj_add, xj_sub, xj_mul, show ¬ xj 1 = xj 0 from by decide]
  · rw [if_neg c]
    simp (disch := omega) only [b88_0, b88_1, b88_2, b88_3, b88_4, b88_7, b88_8, b88_9, b88_10, b88_11, b88_12, List.getElem?_cons_zero, List.getElem?_cons_succ, List.length_cons, List.length_nil, List.set_cons_zero, List.set_cons_succ, true_and, and_true, Option.toList_some, Option.toList_none, List.cons_append, List.nil_append, ↓reduceIte, not_false_eq_true, not_true_eq_false, Nat.reduceAdd, xj0_01, xj1_01, xb_B, xb_True, xb_False, ↓xj_in, xj_nat, Int.toNat_natCast, xj_lt_t, xj_lt_f, xj_le_t, xj_le_f, xj_eq_t, xj_eq_f, xj_lt, xj_le, xj_eq, xj_add, xj_sub, xj_mul, show ¬ xj 1 = xj 0 from by decide]
    have key := xk_down (J := Unit) (n := k - p) (P := fun i _ => xk_B (D - 1) 88 14 [.ref r, .int (xj (p : Nat)), .int (xj (k : Nat)), .int (xj (nvF T p i)), .int (xj (p + i : Nat))] [] (f, w) K) (Q := K (some (.int (xj (nvF T p (k - p))))) (f, w)) (fun j => ?_) (fun i hi ih j => ?_) 0 (Nat.zero_le _) ()
    · rw [Nat.add_zero] at key
      exact key
    · rw [show p + (k - p) = k by omega]
      simp (disch := omega) only [b88_0, b88_1, b88_2, b88_3, b88_4, b88_7, b88_8, b88_9, b88_10, b88_11, b88_12, b88_14, b88_16, b88_17, b88_20, b88_22, b88_23, b88_24, b88_27, b88_28, b88_30, b88_31, b88_32, b88_34, b88_35, b88_36, b88_38, b88_39, b88_40, b88_43, b88_46, b88_47, List.getElem?_cons_zero, List.getElem?_cons_succ, List.length_cons, List.length_nil, List.set_cons_zero, List.set_cons_succ, true_and, and_true, Option.toList_some, Option.toList_none, List.cons_append, List.nil_append, ↓reduceIte, not_false_eq_true, not_true_eq_false, Nat.reduceAdd, xj0_01, xj1_01, xb_B, xb_True, xb_False, ↓xj_in, xj_nat, Int.toNat_natCast, xj_lt_t, xj_lt_f, xj_le_t, xj_le_f, xj_eq_t, xj_eq_f, xj_lt, xj_le, xj_eq, xj_add, xj_sub, xj_mul, show ¬ xj 1 = xj 0 from by decide]
    · have hl := of_decide_eq_true (hd i hi)
      have e : nvF T p (i + 1) = nvF T p i * 10 + T (p + i) - 48 := by
        show (if i < 5 then 10 * nvF T p i + T (p + i) - 48 else nvF T p i) = _
        rw [if_pos (by omega)]
        omega
      rw [b88_14, ← ih (), e]
      generalize nvF T p i = u at *
      generalize hpk : p + i = q at *
      rw [show p + (i + 1) = q + 1 by omega]
      simp (disch := omega) only [b88_0, b88_1, b88_2, b88_3, b88_4, b88_7, b88_8, b88_9, b88_10, b88_11, b88_12, b88_16, b88_17, b88_20, b88_22, b88_23, b88_24, b88_27, b88_28, b88_30, b88_31, b88_32, b88_34, b88_35, b88_36, b88_38, b88_39, b88_40, b88_43, b88_46, b88_47, List.getElem?_cons_zero, List.getElem?_cons_succ, List.length_cons, List.length_nil, List.set_cons_zero, List.set_cons_succ, true_and, and_true, Option.toList_some, Option.toList_none, List.cons_append, List.nil_append, ↓reduceIte, not_false_eq_true, not_true_eq_false, Nat.reduceAdd, xj0_01, xj1_01, xb_B, xb_True, xb_False, ↓ln_I hr, ↓al_I hr, ↓xj_in, xj_nat, Int.toNat_natCast, xj_lt_t, xj_lt_f, xj_le_t, xj_le_f, xj_eq_t, xj_eq_f, xj_lt, xj_le, xj_eq, xj_add, xj_sub, xj_mul, show ¬ xj 1 = xj 0 from by decide]
      rfl
theorem w_in {e : Nat} {l7 : Value} {Q : Prop} (hD : 10 ≤ D) (hr : f r = xa_I 400 T) (hT : tOK T n) (hp : p ≤ e) (he : e ≤ n) (hc : c < 21) (hend : ∀ l, xk_B (D - 1) 89 11 [.ref r, .int (xj (p : Nat)), .int (xj (e : Nat)), .int (xj (c : Nat)), .int (xj (p + wlen c : Nat)), .int (xb (smW T p e c (wlen c) = true)), .int (xj (wsF c + wlen c : Nat)), l] [] (f, w) K ↔ Q) : xk_B (D - 1) 89 11 [.ref r, .int (xj (p : Nat)), .int (xj (e : Nat)), .int (xj (c : Nat)), .int (xj (p : Nat)), .int (xj 1), .int (xj (wsF c : Nat)), l7] [] (f, w) K ↔ Q := by
  have hn := hT.1
  have hw := wtb_ok c hc
  have key := xk_down (J := Value) (n := wlen c) (P := fun i l => xk_B (D - 1) 89 11 [.ref r, .int (xj (p : Nat)), .int (xj (e : Nat)), .int (xj (c : Nat)), .int (xj (p + i : Nat)), .int (xb (smW T p e c i = true)), .int (xj (wsF c + i : Nat)), l] [] (f, w) K) (Q := Q) hend (fun i hi ih l => ?_) 0 (Nat.zero_le _) l7
  · have x0 : ∀ j, @xb (smW T p e c 0 = true) j = xj 1 := fun j => xb_T rfl
    rw [Nat.add_zero, Nat.add_zero, x0] at key
    exact key
  · obtain ⟨h1, h2, h3, h4⟩ := hw.1 i hi
    have ih := ih (.int (xj (wl c i : Nat)))
    have es : smW T p e c (i + 1) = (smW T p e c i && decide (p + i < e ∧ T (p + i) = wl c i)) := rfl
    rw [b89_11, ← ih]
    have hk' : ¬ (xj (wsF c + i : Nat) < 0 ∨ 109 ≤ (xj (wsF c + i : Nat)).toNatClampNeg) := (xj_in (n := 109) (by omega) (by omega) (by omega)).mpr trivial
    have e1 : p + (i + 1) = (p + i) + 1 := by omega
    have e2 : wsF c + (i + 1) = (wsF c + i) + 1 := by omega
    rw [e1, e2]
    generalize wsF c + i = u at *
    generalize p + i = q at *
    by_cases hb : smW T p e c i = true
    · have xo : ∀ j, @xb (smW T p e c i = true) j = xj 1 := fun j => xb_T hb
      by_cases c1 : q < e
      · have ht := hT.2 q (by omega)
        by_cases c2 : T q = wl c i
        · have xw : ∀ j, @xb (smW T p e c (i + 1) = true) j = xj 1 := fun j => xb_T (by rw [es, hb, Bool.true_and]; exact decide_eq_true ⟨c1, c2⟩)
          simp (disch := omega) only [b89_13, b89_15, b89_18, b89_21, b89_23, b89_25, b89_28, b89_31, b89_33, b89_35 rfl _ hk', b89_38, b89_41, b89_43, b89_45, b89_47, b89_49, b89_52, b89_54, b89_57, b89_59, b89_60, b89_63, b89_65, b89_66, b89_67, b89_70, b89_71, b89_73, b89_74, b89_76, b89_79, b89_80, b89_83, b89_84, b89_86, b89_89, b89_114, b89_117, List.getElem?_cons_zero, List.getElem?_cons_succ, List.length_cons, List.length_nil, List.set_cons_zero, List.set_cons_succ, true_and, and_true, Option.toList_some, Option.toList_none, List.cons_append, List.nil_append, ↓reduceIte, not_false_eq_true, not_true_eq_false, Nat.reduceAdd, xj0_01, xj1_01, xb_B, xb_True, xb_False, ↓xj_in, xj_nat, Int.toNat_natCast, xj_lt_t, xj_lt_f, xj_le_t, xj_le_f, xj_eq_t, xj_eq_f, xj_lt, xj_le, xj_eq, xj_add, xj_sub, xj_mul, show ¬ xj 1 = xj 0 from by decide, h2, xo, ↓ln_I hr, ↓al_I hr, xw, c2]
          rfl
        · have xw : ∀ j, @xb (smW T p e c (i + 1) = true) j = xj 0 := fun j => xb_F (by rw [es, hb, Bool.true_and]; exact fun s => c2 (of_decide_eq_true s).2)
          simp (disch := omega) only [b89_13, b89_15, b89_18, b89_21, b89_23, b89_25, b89_28, b89_31, b89_33, b89_35 rfl _ hk', b89_38, b89_41, b89_43, b89_45, b89_47, b89_49, b89_52, b89_54, b89_57, b89_59, b89_60, b89_63, b89_65, b89_66, b89_67, b89_70, b89_71, b89_73, b89_74, b89_76, b89_79, b89_80, b89_83, b89_84, b89_86, b89_89, b89_114, b89_117, List.getElem?_cons_zero, List.getElem?_cons_succ, List.length_cons, List.length_nil, List.set_cons_zero, List.set_cons_succ, true_and, and_true, Option.toList_some, Option.toList_none, List.cons_append, List.nil_append, ↓reduceIte, not_false_eq_true, not_true_eq_false, Nat.reduceAdd, xj0_01, xj1_01, xb_B, xb_True, xb_False, ↓xj_in, xj_nat, Int.toNat_natCast, xj_lt_t, xj_lt_f, xj_le_t, xj_le_f, xj_eq_t, xj_eq_f, xj_lt, xj_le, xj_eq, xj_add, xj_sub, xj_mul, show ¬ xj 1 = xj 0 from by decide, h2, xo, ↓ln_I hr, ↓al_I hr, xw]
          rfl
      · have xw : ∀ j, @xb (smW T p e c (i + 1) = true) j = xj 0 := fun j => xb_F (by rw [es, hb, Bool.true_and]; exact fun s => c1 (of_decide_eq_true s).1)
        simp (disch := omega) only [b89_13, b89_15, b89_18, b89_21, b89_23, b89_25, b89_28, b89_31, b89_33, b89_35 rfl _ hk', b89_38, b89_41, b89_43, b89_45, b89_47, b89_49, b89_52, b89_54, b89_57, b89_59, b89_60, b89_63, b89_65, b89_66, b89_67, b89_70, b89_71, b89_73, b89_74, b89_76, b89_79, b89_80, b89_83, b89_84, b89_86, b89_89, b89_114, b89_117, List.getElem?_cons_zero, List.getElem?_cons_succ, List.length_cons, List.length_nil, List.set_cons_zero, List.set_cons_succ, true_and, and_true, Option.toList_some, Option.toList_none, List.cons_append, List.nil_append, ↓reduceIte, not_false_eq_true, not_true_eq_false, Nat.reduceAdd, xj0_01, xj1_01, xb_B, xb_True, xb_False, ↓xj_in, xj_nat, Int.toNat_natCast, xj_lt_t, xj_lt_f, xj_le_t, xj_le_f, xj_eq_t, xj_eq_f, xj_lt, xj_le, xj_eq, xj_add, xj_sub, xj_mul, show ¬ xj 1 = xj 0 from by decide, h2, xo, xw]
        rfl
    · have xo : ∀ j, @xb (smW T p e c i = true) j = xj 0 := fun j => xb_F hb
      have xw : ∀ j, @xb (smW T p e c (i + 1) = true) j = xj 0 := fun j => xb_F (by rw [es, Bool.and_eq_true]; exact fun s => hb s.1)
      simp (disch := omega) only [b89_13, b89_15, b89_18, b89_21, b89_23, b89_25, b89_28, b89_31, b89_33, b89_35 rfl _ hk', b89_38, b89_41, b89_43, b89_45, b89_47, b89_49, b89_52, b89_54, b89_57, b89_59, b89_60, b89_63, b89_65, b89_66, b89_67, b89_70, b89_71, b89_73, b89_74, b89_76, b89_79, b89_80, b89_83, b89_84, b89_86, b89_89, b89_114, b89_117, List.getElem?_cons_zero, List.getElem?_cons_succ, List.length_cons, List.length_nil, List.set_cons_zero, List.set_cons_succ, true_and, and_true, Option.toList_some, Option.toList_none, List.cons_append, List.nil_append, ↓reduceIte, not_false_eq_true, not_true_eq_false, Nat.reduceAdd, xj0_01, xj1_01, xb_B, xb_True, xb_False, ↓xj_in, xj_nat, Int.toNat_natCast, xj_lt_t, xj_lt_f, xj_le_t, xj_le_f, xj_eq_t, xj_eq_f, xj_lt, xj_le, xj_eq, xj_add, xj_sub, xj_mul, show ¬ xj 1 = xj 0 from by decide, h2, xo, xw]
      rfl
theorem w_step {e : Nat} {l7 : Value} {Q : Prop} (hD : 10 ≤ D) (hr : f r = xa_I 400 T) (hT : tOK T n) (hp : p ≤ e) (he : e ≤ n) (hc : c < 21) (hyes : wmB T p (e - p) c = true → (K (some (.int (xj (c : Nat)))) (f, w) ↔ Q)) (hno : wmB T p (e - p) c = false → ∀ l, xk_B (D - 1) 89 11 [.ref r, .int (xj (p : Nat)), .int (xj (e : Nat)), .int (xj (c + 1 : Nat)), .int (xj (p : Nat)), .int (xj 1), .int (xj (wsF (c + 1) : Nat)), l] [] (f, w) K ↔ Q) : xk_B (D - 1) 89 11 [.ref r, .int (xj (p : Nat)), .int (xj (e : Nat)), .int (xj (c : Nat)), .int (xj (p : Nat)), .int (xj 1), .int (xj (wsF c : Nat)), l7] [] (f, w) K ↔ Q := by
  refine w_in hD hr hT hp he hc (fun l => ?_)
  have hn := hT.1
  have hw := wtb_ok c hc
  have hwm := smW_wm (T := T) (c := c) hp
  have hl6 : wlen c ≤ 7 := (wl_rng c hc).1.2
  have hs1 : wsF (c + 1) = wsF c + wlen c + 1 := rfl
  rw [hs1] at hno
  generalize hu : wsF c + wlen c = u at *
  -- behind the blank
  have fin : ∀ l, xk_B (D - 1) 89 47 [.ref r, .int (xj (p : Nat)), .int (xj (e : Nat)), .int (xj (c : Nat)), .int (xj (p + wlen c : Nat)), .int (xb (smW T p e c (wlen c) = true)), .int (xj (u : Nat)), l] [.int (xj 32)] (f, w) K ↔ Q := by
    intro l
    by_cases hb : smW T p e c (wlen c) = true
    · have xo : ∀ j, @xb (smW T p e c (wlen c) = true) j = xj 1 := fun j => xb_T hb
      by_cases ce : p + wlen c = e
      · rw [← hyes (hwm.mp ⟨hb, ce⟩)]
        simp (disch := omega) only [b89_47, b89_49, b89_92, b89_94, b89_97, b89_99, b89_100, b89_103, b89_104, b89_105, b89_108, b89_109, b89_111, b89_112, b89_114, b89_117, List.getElem?_cons_zero, List.getElem?_cons_succ, List.length_cons, List.length_nil, List.set_cons_zero, List.set_cons_succ, true_and, and_true, Option.toList_some, Option.toList_none, List.cons_append, List.nil_append, ↓reduceIte, not_false_eq_true, not_true_eq_false, Nat.reduceAdd, xj0_01, xj1_01, xb_B, xb_True, xb_False, ↓xj_in, xj_nat, Int.toNat_natCast, xj_lt_t, xj_lt_f, xj_le_t, xj_le_f, xj_eq_t, xj_eq_f, xj_lt, xj_le, xj_eq, xj_add, xj_sub, xj_mul, show ¬ xj 1 = xj 0 from by decide, xo, ce]
      · have hf : wmB T p (e - p) c = false := by
          cases hx : wmB T p (e - p) c with
          | false => rfl
          | true => exact absurd (hwm.mpr hx).2 ce
        rw [← hno hf l]
        simp (disch := omega) only [b89_47, b89_49, b89_92, b89_94, b89_97, b89_99, b89_100, b89_103, b89_104, b89_105, b89_108, b89_109, b89_111, b89_112, b89_114, b89_117, List.getElem?_cons_zero, List.getElem?_cons_succ, List.length_cons, List.length_nil, List.set_cons_zero, List.set_cons_succ, true_and, and_true, Option.toList_some, Option.toList_none, List.cons_append, List.nil_append, ↓reduceIte, not_false_eq_true, not_true_eq_false, Nat.reduceAdd, xj0_01, xj1_01, xb_B, xb_True, xb_False, ↓xj_in, xj_nat, Int.toNat_natCast, xj_lt_t, xj_lt_f, xj_le_t, xj_le_f, xj_eq_t, xj_eq_f, xj_lt, xj_le, xj_eq, xj_add, xj_sub, xj_mul, show ¬ xj 1 = xj 0 from by decide, xo]
        rfl
    · have xo : ∀ j, @xb (smW T p e c (wlen c) = true) j = xj 0 := fun j => xb_F hb
      have hf : wmB T p (e - p) c = false := by
        cases hx : wmB T p (e - p) c with
        | false => rfl
        | true => exact absurd (hwm.mpr hx).1 hb
      rw [← hno hf l]
      simp (disch := omega) only [b89_47, b89_49, b89_92, b89_94, b89_97, b89_99, b89_100, b89_103, b89_104, b89_105, b89_108, b89_109, b89_111, b89_112, b89_114, b89_117, List.getElem?_cons_zero, List.getElem?_cons_succ, List.length_cons, List.length_nil, List.set_cons_zero, List.set_cons_succ, true_and, and_true, Option.toList_some, Option.toList_none, List.cons_append, List.nil_append, ↓reduceIte, not_false_eq_true, not_true_eq_false, Nat.reduceAdd, xj0_01, xj1_01, xb_B, xb_True, xb_False, ↓xj_in, xj_nat, Int.toNat_natCast, xj_lt_t, xj_lt_f, xj_le_t, xj_le_f, xj_eq_t, xj_eq_f, xj_lt, xj_le, xj_eq, xj_add, xj_sub, xj_mul, show ¬ xj 1 = xj 0 from by decide, xo]
      rfl
  by_cases c9 : u < 109
  · have hk' : ¬ (xj (u : Nat) < 0 ∨ 109 ≤ (xj (u : Nat)).toNatClampNeg) := (xj_in (n := 109) (by omega) (by omega) (by omega)).mpr trivial
    have hg := hw.2.2 c9
    simp (disch := omega) only [b89_11, b89_13, b89_15, b89_18, b89_21, b89_23, b89_25, b89_28, b89_31, b89_33, b89_35 rfl _ hk', b89_38, b89_41, b89_43, b89_45, List.getElem?_cons_zero, List.getElem?_cons_succ, List.length_cons, List.length_nil, List.set_cons_zero, List.set_cons_succ, true_and, and_true, Option.toList_some, Option.toList_none, List.cons_append, List.nil_append, ↓reduceIte, not_false_eq_true, not_true_eq_false, Nat.reduceAdd, xj0_01, xj1_01, xb_B, xb_True, xb_False, ↓xj_in, xj_nat, Int.toNat_natCast, xj_lt_t, xj_lt_f, xj_le_t, xj_le_f, xj_eq_t, xj_eq_f, xj_lt, xj_le, xj_eq, xj_add, xj_sub, xj_mul, show ¬ xj 1 = xj 0 from by decide, hg]
    exact fin _
  · have hu9 : u = 109 := by omega
    simp (disch := omega) only [b89_11, b89_13, b89_15, b89_18, b89_21, b89_23, b89_25, b89_28, b89_31, b89_33, b89_38, b89_41, b89_43, b89_45, List.getElem?_cons_zero, List.getElem?_cons_succ, List.length_cons, List.length_nil, List.set_cons_zero, List.set_cons_succ, true_and, and_true, Option.toList_some, Option.toList_none, List.cons_append, List.nil_append, ↓reduceIte, not_false_eq_true, not_true_eq_false, Nat.reduceAdd, xj0_01, xj1_01, xb_B, xb_True, xb_False, ↓xj_in, xj_nat, Int.toNat_natCast, xj_lt_t, xj_lt_f, xj_le_t, xj_le_f, xj_eq_t, xj_eq_f, xj_lt, xj_le, xj_eq, xj_add, xj_sub, xj_mul, show ¬ xj 1 = xj 0 from by decide]
    exact fin _
theorem s_wordIn {e : Nat} (hD : 10 ≤ D) (hr : f r = xa_I 400 T) (hT : tOK T n) (hp : p ≤ e) (he : e ≤ n) : xk_Cl D 89 [.ref r, .int (xj (p : Nat)), .int (xj (e : Nat))] (f, w) K ↔ K (some (.int (xj (wdT T p (e - p))))) (f, w) := by
  rw [e89 (by omega)]
  simp only [b89_0, b89_1, b89_2, b89_3, b89_5, b89_6, b89_8, b89_9]
  unfold wdT
  rcases lst_cases (wmB T p (e - p)) 21 with ⟨k0, h1, h2, h3, h4⟩ | ⟨h1, h2⟩
  · rw [h4]
    refine xk_down (J := Value) (n := k0) (P := fun k l => xk_B (D - 1) 89 11 [.ref r, .int (xj (p : Nat)), .int (xj (e : Nat)), .int (xj (k : Nat)), .int (xj (p : Nat)), .int (xj 1), .int (xj (wsF k : Nat)), l] [] (f, w) K) (fun l => ?_) (fun k hk ih l => ?_) 0 (Nat.zero_le _) _
    · exact w_step hD hr hT hp he h1 (fun _ => Iff.rfl) (fun q => by rw [h2] at q; cases q)
    · exact w_step hD hr hT hp he (by omega) (fun q => by rw [h3 k hk] at q; cases q) (fun _ l => ih l)
  · rw [h2]
    refine xk_down (J := Value) (n := 21) (P := fun k l => xk_B (D - 1) 89 11 [.ref r, .int (xj (p : Nat)), .int (xj (e : Nat)), .int (xj (k : Nat)), .int (xj (p : Nat)), .int (xj 1), .int (xj (wsF k : Nat)), l] [] (f, w) K) (fun l => ?_) (fun k hk ih l => ?_) 0 (Nat.zero_le _) _
    · have e21 : wsF 21 = 110 := by decide
      rw [e21]
      simp (disch := omega) only [b89_11, b89_13, b89_15, b89_18, b89_120, b89_121, List.getElem?_cons_zero, List.getElem?_cons_succ, List.length_cons, List.length_nil, List.set_cons_zero, List.set_cons_succ, true_and, and_true, Option.toList_some, Option.toList_none, List.cons_append, List.nil_append, ↓reduceIte, not_false_eq_true, not_true_eq_false, Nat.reduceAdd, xj0_01, xj1_01, xb_B, xb_True, xb_False, ↓xj_in, xj_nat, Int.toNat_natCast, xj_lt_t, xj_lt_f, xj_le_t, xj_le_f, xj_eq_t, xj_eq_f, xj_lt, xj_le, xj_eq, xj_add, xj_sub, xj_mul, show ¬ xj 1 = xj 0 from by decide]
    · exact w_step hD hr hT hp he hk (fun q => by rw [h1 k hk] at q; cases q) (fun _ l => ih l)
end XS96
