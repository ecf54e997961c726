/-! the class reads an office: numbers; the draft written -/
/-- a number taken: its value, the place and the fault behind it -/
def ckN (T : Nat → Int) (n : Nat) (lo hi : Int) (fa p : Nat) (v : Int) (p' fa' : Nat) : Prop := (-1 ≤ v ∧ v ≤ 99999) ∧ (fa = 0 → (fa' = 0 ∧ gNum T n lo hi p = .inr (p', v)) ∨ (fa' ≠ 0 ∧ gNum T n lo hi p = .inl fa')) ∧ (fa ≠ 0 → fa' = fa)
/-- a draft of the class and one of the model -/
def drR (A : Nat → Int) (O : Of) : Prop := of_told O = 1 ∧ (0 < A 0 → of_ink O = A 0 ∧ of_nib O = A 1 ∧ of_fill O = A 2) ∧ A 3 = of_nc O ∧ A 4 = of_na O ∧ A 5 = of_np O ∧ (∀ i, i < of_nc O → of_seat O i = A (32 + i)) ∧ (∀ i, i < of_na O → of_aw O i = A (36 + 3 * i) ∧ of_af O i = A (36 + 3 * i + 1) ∧ of_al O i = A (36 + 3 * i + 2)) ∧ ∀ i, i < of_np O → of_ow O i = A (54 + 5 * i) ∧ of_sk O i = A (54 + 5 * i + 1) ∧ of_du O i = A (54 + 5 * i + 2) ∧ of_wo O i = A (54 + 5 * i + 3) ∧ ((of_re O i : Nat) : Int) = A (58 + 5 * i)
def frO2 (o t : Nat) (f f' : Nat → xk_C) : Prop := ∀ x, x ≠ t → (x < o ∨ o + 10 ≤ x) → f' x = f x
theorem frO2_t {o t : Nat} {f f' f'' : Nat → xk_C} (h : frO2 o t f f') (h' : frO2 o t f' f'') : frO2 o t f f'' := fun x h1 h2 => (h' x h1 h2).trans (h x h1 h2)
theorem frO2_x {o t : Nat} {f f' : Nat → xk_C} (h : ∀ x, x ≠ t → f' x = f x) : frO2 o t f f' := fun x h1 _ => h x h1
theorem frO2_o {o t : Nat} {f : Nat → xk_C} {O : Of} : frO2 o t f (xs f o (xl_Off o O)) := fun x _ h2 => xs_ne (by show x < o ∨ o + 10 ≤ x; exact h2)
def oR (r : Qr) (p' fa' : Nat) (O' : Of) : Prop := (fa' = 0 ∧ ∃ A', r = .inr (p', A') ∧ drR A' O') ∨ (fa' ≠ 0 ∧ r = .inl fa')
section XS9a05
variable {D a b o k p q n r t c v fa s : Nat} {f : Nat → xk_C} {w : Nat × Nat × Nat} {K : Option Value → xk_S → Prop} {x y z lo hi : Int} {T : Nat → Int} {O : Of} {A : Nat → Int} {V : Value → Prop} {F : Int32 → Prop} {G : (Nat → xk_C) → Prop}
theorem c_num (hD : 2 ≤ D) (h : xT f t T n p fa) (l1 : -2147483648 ≤ lo) (l2 : lo ≤ 2147483647) (i1 : -2147483648 ≤ hi) (i2 : hi ≤ 2147483647) (h0 : fa = 0 → 0 ≤ lo) (hpost : ∀ f' v p' fa', (∀ x, x ≠ t → f' x = f x) → xT f' t T n p' fa' → ckN T n lo hi fa p v p' fa' → K (some (.int (xj v))) (f', w)) : xk_Cl D 97 [.ref t, .int (xj lo), .int (xj hi), .int (xj (-1))] (f, w) K := by
  refine u_takeNum hD h l1 l2 i1 i2 (by omega) (by omega) (fun f' p' fa' e1 e2 e3 => hpost f' _ p' fa' e1 e2 ⟨va_rng (xT_at h).2.1, fun q0 => ?_, fun q0 => ?_⟩)
  · have h0 := h0 q0
    subst q0
    by_cases c : kdT T n p = 1
    · have hd := kd_dg c
      have hv : vaT T n p = if 5 < dgE T n p - p then -1 else nvF T p (dgE T n p - p) := by unfold vaT; rw [if_neg (by omega), if_pos c]
      have hnv := nv_rng2 (T := T) (n := n) (p := p) (dgE T n p - p) (fun i hi => reF_all (dgB T n) 400 p (p + i) (by omega) (by show p + i < dgE T n p; omega))
      have e3 := e3.1 c
      by_cases c2 : vaT T n p < lo ∨ hi < vaT T n p ∨ vaT T n p = -1
      · obtain ⟨r1, r2⟩ := e3.1 c2
        rw [if_pos rfl] at r2
        refine Or.inr ⟨by omega, ?_⟩
        have hm : ¬ nmB T n p lo hi = true := fun q => by
          have q := of_decide_eq_true q
          rw [if_neg (by omega)] at hv
          omega
        unfold gNum
        rw [if_pos hd, if_neg hm, r2]
      · obtain ⟨r1, r2⟩ := e3.2 c2
        have h5 : ¬ 5 < dgE T n p - p := fun q => by rw [if_pos q] at hv; omega
        rw [if_neg h5] at hv
        have hm : nmB T n p lo hi = true := decide_eq_true (by omega)
        refine Or.inl ⟨r2, ?_⟩
        unfold gNum
        rw [if_pos hd, if_pos hm, r1, hv]
    · obtain ⟨r1, r2⟩ := e3.2 c
      rw [if_pos rfl] at r2
      have hd : ¬ dgB T n p = true := fun q => c (kd_1 q)
      refine Or.inr ⟨by omega, ?_⟩
      unfold gNum
      rw [if_neg hd, r2]
  · by_cases c : kdT T n p = 1
    · have e3 := e3.1 c
      by_cases c2 : vaT T n p < lo ∨ hi < vaT T n p ∨ vaT T n p = -1
      · have := (e3.1 c2).2; rw [if_neg q0] at this; exact this
      · exact (e3.2 c2).2
    · have := (e3.2 c).2; rw [if_neg q0] at this; exact this
theorem lO_1 : xk_LN (xs f o (xl_Off o O)) (o + 1) F ↔ F (xj (4 : Nat)) := ln_I (xs_at f o _ 1)
theorem lO_2 : xk_LN (xs f o (xl_Off o O)) (o + 2) F ↔ F (xj (6 : Nat)) := ln_I (xs_at f o _ 2)
theorem lO_5 : xk_LN (xs f o (xl_Off o O)) (o + 5) F ↔ F (xj (6 : Nat)) := ln_I (xs_at f o _ 5)
theorem lO_9 : xk_LN (xs f o (xl_Off o O)) (o + 9) F ↔ F (xj (6 : Nat)) := ln_I (g := fun i => (of_re O i : Int)) (xs_at f o _ 9)
theorem sO_1 (h1 : 0 ≤ z) (h2 : z < 4) : xk_AS (xs f o (xl_Off o O)) (o + 1) (xj z) (xj y) G ↔ G (xs f o (xl_Off o ((O.1.1, O.1.2.1, O.1.2.2.1, O.1.2.2.2), (O.2.1.1, O.2.1.2.1, O.2.1.2.2), upI O.2.2.1 z.toNat y, O.2.2.2.1, O.2.2.2.2.1, O.2.2.2.2.2.1, O.2.2.2.2.2.2.1, O.2.2.2.2.2.2.2.1, O.2.2.2.2.2.2.2.2.1, O.2.2.2.2.2.2.2.2.2.1, O.2.2.2.2.2.2.2.2.2.2))) := (as_I (xs_at f o _ 1) h1 (by omega) (by decide)).trans (iff_of_eq (congrArg G uo_1))
theorem sO_2 (h1 : 0 ≤ z) (h2 : z < 6) : xk_AS (xs f o (xl_Off o O)) (o + 2) (xj z) (xj y) G ↔ G (xs f o (xl_Off o ((O.1.1, O.1.2.1, O.1.2.2.1, O.1.2.2.2), (O.2.1.1, O.2.1.2.1, O.2.1.2.2), O.2.2.1, upI O.2.2.2.1 z.toNat y, O.2.2.2.2.1, O.2.2.2.2.2.1, O.2.2.2.2.2.2.1, O.2.2.2.2.2.2.2.1, O.2.2.2.2.2.2.2.2.1, O.2.2.2.2.2.2.2.2.2.1, O.2.2.2.2.2.2.2.2.2.2))) := (as_I (xs_at f o _ 2) h1 (by omega) (by decide)).trans (iff_of_eq (congrArg G uo_2))
theorem sO_3 (h1 : 0 ≤ z) (h2 : z < 6) : xk_AS (xs f o (xl_Off o O)) (o + 3) (xj z) (xj y) G ↔ G (xs f o (xl_Off o ((O.1.1, O.1.2.1, O.1.2.2.1, O.1.2.2.2), (O.2.1.1, O.2.1.2.1, O.2.1.2.2), O.2.2.1, O.2.2.2.1, upI O.2.2.2.2.1 z.toNat y, O.2.2.2.2.2.1, O.2.2.2.2.2.2.1, O.2.2.2.2.2.2.2.1, O.2.2.2.2.2.2.2.2.1, O.2.2.2.2.2.2.2.2.2.1, O.2.2.2.2.2.2.2.2.2.2))) := (as_I (xs_at f o _ 3) h1 (by omega) (by decide)).trans (iff_of_eq (congrArg G uo_3))
theorem sO_4 (h1 : 0 ≤ z) (h2 : z < 6) : xk_AS (xs f o (xl_Off o O)) (o + 4) (xj z) (xj y) G ↔ G (xs f o (xl_Off o ((O.1.1, O.1.2.1, O.1.2.2.1, O.1.2.2.2), (O.2.1.1, O.2.1.2.1, O.2.1.2.2), O.2.2.1, O.2.2.2.1, O.2.2.2.2.1, upI O.2.2.2.2.2.1 z.toNat y, O.2.2.2.2.2.2.1, O.2.2.2.2.2.2.2.1, O.2.2.2.2.2.2.2.2.1, O.2.2.2.2.2.2.2.2.2.1, O.2.2.2.2.2.2.2.2.2.2))) := (as_I (xs_at f o _ 4) h1 (by omega) (by decide)).trans (iff_of_eq (congrArg G uo_4))
theorem sO_5 (h1 : 0 ≤ z) (h2 : z < 6) : xk_AS (xs f o (xl_Off o O)) (o + 5) (xj z) (xj y) G ↔ G (xs f o (xl_Off o ((O.1.1, O.1.2.1, O.1.2.2.1, O.1.2.2.2), (O.2.1.1, O.2.1.2.1, O.2.1.2.2), O.2.2.1, O.2.2.2.1, O.2.2.2.2.1, O.2.2.2.2.2.1, upI O.2.2.2.2.2.2.1 z.toNat y, O.2.2.2.2.2.2.2.1, O.2.2.2.2.2.2.2.2.1, O.2.2.2.2.2.2.2.2.2.1, O.2.2.2.2.2.2.2.2.2.2))) := (as_I (xs_at f o _ 5) h1 (by omega) (by decide)).trans (iff_of_eq (congrArg G uo_5))
theorem sO_6 (h1 : 0 ≤ z) (h2 : z < 6) : xk_AS (xs f o (xl_Off o O)) (o + 6) (xj z) (xj y) G ↔ G (xs f o (xl_Off o ((O.1.1, O.1.2.1, O.1.2.2.1, O.1.2.2.2), (O.2.1.1, O.2.1.2.1, O.2.1.2.2), O.2.2.1, O.2.2.2.1, O.2.2.2.2.1, O.2.2.2.2.2.1, O.2.2.2.2.2.2.1, upI O.2.2.2.2.2.2.2.1 z.toNat y, O.2.2.2.2.2.2.2.2.1, O.2.2.2.2.2.2.2.2.2.1, O.2.2.2.2.2.2.2.2.2.2))) := (as_I (xs_at f o _ 6) h1 (by omega) (by decide)).trans (iff_of_eq (congrArg G uo_6))
theorem sO_7 (h1 : 0 ≤ z) (h2 : z < 6) : xk_AS (xs f o (xl_Off o O)) (o + 7) (xj z) (xj y) G ↔ G (xs f o (xl_Off o ((O.1.1, O.1.2.1, O.1.2.2.1, O.1.2.2.2), (O.2.1.1, O.2.1.2.1, O.2.1.2.2), O.2.2.1, O.2.2.2.1, O.2.2.2.2.1, O.2.2.2.2.2.1, O.2.2.2.2.2.2.1, O.2.2.2.2.2.2.2.1, upI O.2.2.2.2.2.2.2.2.1 z.toNat y, O.2.2.2.2.2.2.2.2.2.1, O.2.2.2.2.2.2.2.2.2.2))) := (as_I (xs_at f o _ 7) h1 (by omega) (by decide)).trans (iff_of_eq (congrArg G uo_7))
theorem sO_8 (h1 : 0 ≤ z) (h2 : z < 6) : xk_AS (xs f o (xl_Off o O)) (o + 8) (xj z) (xj y) G ↔ G (xs f o (xl_Off o ((O.1.1, O.1.2.1, O.1.2.2.1, O.1.2.2.2), (O.2.1.1, O.2.1.2.1, O.2.1.2.2), O.2.2.1, O.2.2.2.1, O.2.2.2.2.1, O.2.2.2.2.2.1, O.2.2.2.2.2.2.1, O.2.2.2.2.2.2.2.1, O.2.2.2.2.2.2.2.2.1, upI O.2.2.2.2.2.2.2.2.2.1 z.toNat y, O.2.2.2.2.2.2.2.2.2.2))) := (as_I (xs_at f o _ 8) h1 (by omega) (by decide)).trans (iff_of_eq (congrArg G uo_8))
def upN (H : Nat → Nat) (k m : Nat) : Nat → Nat := fun i => if i = k then m else H i
theorem upN_I (H : Nat → Nat) (k m : Nat) : xa_I 6 (upI (fun i => (H i : Int)) k (m : Nat)) = xa_N 6 (upN H k m) := by
  show Sum.inl (0, 6, Sum.inl (fun i => xj (upI (fun i => (H i : Int)) k (m : Nat) i))) = Sum.inl (0, 6, Sum.inl (fun i => xj (upN H k m i)))
  congr 4
  funext i
  unfold upI upN
  split <;> rfl
theorem sO_9 {m : Nat} (h1 : 0 ≤ z) (h2 : z < 6) : xk_AS (xs f o (xl_Off o O)) (o + 9) (xj z) (xj (m : Nat)) G ↔ G (xs f o (xl_Off o ((O.1.1, O.1.2.1, O.1.2.2.1, O.1.2.2.2), (O.2.1.1, O.2.1.2.1, O.2.1.2.2), O.2.2.1, O.2.2.2.1, O.2.2.2.2.1, O.2.2.2.2.2.1, O.2.2.2.2.2.2.1, O.2.2.2.2.2.2.2.1, O.2.2.2.2.2.2.2.2.1, O.2.2.2.2.2.2.2.2.2.1, upN O.2.2.2.2.2.2.2.2.2.2 z.toNat m))) := by
  refine (as_I (g := fun i => (of_re O i : Int)) (xs_at f o _ 9) h1 (by omega) (by decide)).trans (iff_of_eq (congrArg G ?_))
  have e := upN_I (of_re O) z.toNat m
  rw [e]
  exact uo_9
theorem sO_9z (h1 : 0 ≤ z) (h2 : z < 6) : xk_AS (xs f o (xl_Off o O)) (o + 9) (xj z) (xj 0) G ↔ G (xs f o (xl_Off o ((O.1.1, O.1.2.1, O.1.2.2.1, O.1.2.2.2), (O.2.1.1, O.2.1.2.1, O.2.1.2.2), O.2.2.1, O.2.2.2.1, O.2.2.2.2.1, O.2.2.2.2.2.1, O.2.2.2.2.2.2.1, O.2.2.2.2.2.2.2.1, O.2.2.2.2.2.2.2.2.1, O.2.2.2.2.2.2.2.2.2.1, upN O.2.2.2.2.2.2.2.2.2.2 z.toNat 0))) := sO_9 (m := 0) h1 h2
theorem ckN_bad {lo hi : Int} {v : Int} {p' fa' : Nat} (h : ckN T n lo hi fa p v p' fa') (h0 : fa ≠ 0) : fa' ≠ 0 := by rw [h.2.2 h0]; exact h0
theorem c_pen (hD : 3 ≤ D) (hot : t + 4 ≤ o ∨ o + 10 ≤ t) (h : xT f t T n (nxT T n p) 0) (ho : xv_Off f o O) (hz : xz_Off O) (hdr : drR A O) (hA : ¬ 0 < A 0) (hpost : ∀ f' p' fa' O', frO2 o t f f' → xT f' t T n p' fa' → xv_Off f' o O' → xz_Off O' → oR (gOffL T n p A) p' fa' O' → K none (f', w)) : xk_Cl D 32 [.ref o, .ref t] (f, w) K := by
  rw [e32 (by omega)]
  simp (disch := omega) only [b32_0, b32_1, b32_2, b32_3, b32_5, List.getElem?_cons_zero, List.getElem?_cons_succ, List.length_cons, List.length_nil, List.set_cons_zero, List.set_cons_succ, true_and, and_true, Option.toList_some, Option.toList_none, List.cons_append, List.nil_append, ↓reduceIte, not_false_eq_true, not_true_eq_false, Nat.reduceAdd, xj0_01, xj1_01, xb_B, xb_True, xb_False]
  rw [b32_6, rc_T h, true_and]
  refine c_num (by omega) h (by omega) (by omega) (by omega) (by omega) (fun _ => by omega) (fun f1 v1 p1 fa1 e1 h1 k1 => ?_)
  have ho1 : xv_Off f1 o O := xv_Off_fr ho (fun x q1 q2 => e1 x (by omega))
  simp (disch := omega) only [List.getElem?_cons_zero, List.getElem?_cons_succ, List.length_cons, List.length_nil, List.set_cons_zero, List.set_cons_succ, true_and, and_true, Option.toList_some, Option.toList_none, List.cons_append, List.nil_append, ↓reduceIte, not_false_eq_true, not_true_eq_false, Nat.reduceAdd, xj0_01, xj1_01, xb_B, xb_True, xb_False]
  rw [← xv_Off_xv ho1]
  have hT1 : ∀ O', xT (xs f1 o (xl_Off o O')) t T n p1 fa1 := fun O' => xT_fr h1 (fun x q1 q2 => xs_ne (by show x < o ∨ o + 10 ≤ x; omega))
  simp (disch := omega) only [b32_9, b32_12, b32_13, b32_14, b32_15, b32_18, List.getElem?_cons_zero, List.getElem?_cons_succ, List.length_cons, List.length_nil, List.set_cons_zero, List.set_cons_succ, true_and, and_true, Option.toList_some, Option.toList_none, List.cons_append, List.nil_append, ↓reduceIte, not_false_eq_true, not_true_eq_false, Nat.reduceAdd, xj0_01, xj1_01, xb_B, xb_True, xb_False, ↓po_1]
  rw [b32_19, rc_T (hT1 _), true_and]
  refine c_num (by omega) (hT1 _) (by omega) (by omega) (by omega) (by omega) (fun _ => by omega) (fun f2 v2 p2 fa2 e2 h2 k2 => ?_)
  have ho2 := xv_Off_fr (xv_Off_xs (f := f1) (o := o) (O := ((O.1.1, v1, O.1.2.2.1, O.1.2.2.2), (O.2.1.1, O.2.1.2.1, O.2.1.2.2), O.2.2.1, O.2.2.2.1, O.2.2.2.2.1, O.2.2.2.2.2.1, O.2.2.2.2.2.2.1, O.2.2.2.2.2.2.2.1, O.2.2.2.2.2.2.2.2.1, O.2.2.2.2.2.2.2.2.2.1, O.2.2.2.2.2.2.2.2.2.2))) (fun x q1 q2 => e2 x (by omega))
  simp (disch := omega) only [List.getElem?_cons_zero, List.getElem?_cons_succ, List.length_cons, List.length_nil, List.set_cons_zero, List.set_cons_succ, true_and, and_true, Option.toList_some, Option.toList_none, List.cons_append, List.nil_append, ↓reduceIte, not_false_eq_true, not_true_eq_false, Nat.reduceAdd, xj0_01, xj1_01, xb_B, xb_True, xb_False]
  rw [← xv_Off_xv ho2]
  have hT2 : ∀ O', xT (xs f2 o (xl_Off o O')) t T n p2 fa2 := fun O' => xT_fr h2 (fun x q1 q2 => xs_ne (by show x < o ∨ o + 10 ≤ x; omega))
  simp (disch := omega) only [b32_22, b32_25, b32_26, b32_27, b32_28, b32_30, List.getElem?_cons_zero, List.getElem?_cons_succ, List.length_cons, List.length_nil, List.set_cons_zero, List.set_cons_succ, true_and, and_true, Option.toList_some, Option.toList_none, List.cons_append, List.nil_append, ↓reduceIte, not_false_eq_true, not_true_eq_false, Nat.reduceAdd, xj0_01, xj1_01, xb_B, xb_True, xb_False, ↓po_2]
  rw [b32_31, rc_T (hT2 _), true_and]
  refine c_num (by omega) (hT2 _) (by omega) (by omega) (by omega) (by omega) (fun _ => by omega) (fun f3 v3 p3 fa3 e3 h3 k3 => ?_)
  have ho3 := xv_Off_fr (xv_Off_xs (f := f2) (o := o) (O := ((O.1.1, v1, v2, O.1.2.2.2), (O.2.1.1, O.2.1.2.1, O.2.1.2.2), O.2.2.1, O.2.2.2.1, O.2.2.2.2.1, O.2.2.2.2.2.1, O.2.2.2.2.2.2.1, O.2.2.2.2.2.2.2.1, O.2.2.2.2.2.2.2.2.1, O.2.2.2.2.2.2.2.2.2.1, O.2.2.2.2.2.2.2.2.2.2))) (fun x q1 q2 => e3 x (by omega))
  simp (disch := omega) only [List.getElem?_cons_zero, List.getElem?_cons_succ, List.length_cons, List.length_nil, List.set_cons_zero, List.set_cons_succ, true_and, and_true, Option.toList_some, Option.toList_none, List.cons_append, List.nil_append, ↓reduceIte, not_false_eq_true, not_true_eq_false, Nat.reduceAdd, xj0_01, xj1_01, xb_B, xb_True, xb_False]
  rw [← xv_Off_xv ho3]
  have fr : ∀ O', frO2 o t f (xs f3 o (xl_Off o O')) := fun O' => frO2_t (frO2_t (frO2_x e1) frO2_o) (frO2_t (frO2_t (frO2_x e2) frO2_o) (frO2_t (frO2_x e3) frO2_o))
  have hT3 : ∀ O', xT (xs f3 o (xl_Off o O')) t T n p3 fa3 := fun O' => xT_fr h3 (fun x q1 q2 => xs_ne (by show x < o ∨ o + 10 ≤ x; omega))
  have po := hpost (xs f3 o (xl_Off o ((O.1.1, v1, v2, v3), (O.2.1.1, O.2.1.2.1, O.2.1.2.2), O.2.2.1, O.2.2.2.1, O.2.2.2.2.1, O.2.2.2.2.2.1, O.2.2.2.2.2.2.1, O.2.2.2.2.2.2.2.1, O.2.2.2.2.2.2.2.2.1, O.2.2.2.2.2.2.2.2.2.1, O.2.2.2.2.2.2.2.2.2.2))) p3 fa3 ((O.1.1, v1, v2, v3), (O.2.1.1, O.2.1.2.1, O.2.1.2.2), O.2.2.1, O.2.2.2.1, O.2.2.2.2.1, O.2.2.2.2.2.1, O.2.2.2.2.2.2.1, O.2.2.2.2.2.2.2.1, O.2.2.2.2.2.2.2.2.1, O.2.2.2.2.2.2.2.2.2.1, O.2.2.2.2.2.2.2.2.2.2) (fr _) (hT3 _) xv_Off_xs hz (by
    have hg : gOffL T n p A = bdN (gNum T n 1 99 (nxT T n p)) (fun p1 v => bdQ (gCell T n 1 1 200 p1 A) (fun p2 A2 => bdQ (gCell T n 2 0 20 p2 A2) (fun p3 A3 => .inr (p3, upI A3 0 v)))) := by unfold gOffL; rw [if_neg hA]
    rw [hg]
    rcases k1.2.1 rfl with ⟨a1, b1⟩ | ⟨a1, b1⟩
    · rw [b1, bdN_r]
      rcases k2.2.1 a1 with ⟨a2, b2⟩ | ⟨a2, b2⟩
      · unfold gCell
        rw [b2, bdN_r, bdQ_r]
        rcases k3.2.1 a2 with ⟨a3, b3⟩ | ⟨a3, b3⟩
        · rw [b3, bdN_r, bdQ_r]
          refine Or.inl ⟨a3, _, rfl, ?_⟩
          obtain ⟨r1, r2, r3, r4, r5, r6, r7, r8⟩ := hdr
          refine ⟨r1, fun _ => ⟨?_, ?_, ?_⟩, ?_, ?_, ?_, fun i hi => ?_, fun i hi => ?_, fun i hi => ?_⟩
          · rw [up_e]; rfl
          · rw [up_n (by decide), up_n (by decide), up_e]; rfl
          · rw [up_n (by decide), up_e]; rfl
          · rw [up_n (by decide), up_n (by decide), up_n (by decide)]; exact r3
          · rw [up_n (by decide), up_n (by decide), up_n (by decide)]; exact r4
          · rw [up_n (by decide), up_n (by decide), up_n (by decide)]; exact r5
          · rw [up_n (by omega), up_n (by omega), up_n (by omega)]; exact r6 i hi
          · rw [up_n (by omega), up_n (by omega), up_n (by omega), up_n (by omega), up_n (by omega), up_n (by omega), up_n (by omega), up_n (by omega), up_n (by omega)]; exact r7 i hi
          · rw [up_n (by omega), up_n (by omega), up_n (by omega), up_n (by omega), up_n (by omega), up_n (by omega), up_n (by omega), up_n (by omega), up_n (by omega), up_n (by omega), up_n (by omega), up_n (by omega), up_n (by omega), up_n (by omega), up_n (by omega)]; exact r8 i hi
        · rw [b3, bdN_l, bdQ_l]
          exact Or.inr ⟨a3, rfl⟩
      · have a3 := k3.2.2 a2
        unfold gCell
        rw [b2, bdN_l, bdQ_l]
        exact Or.inr ⟨by rw [a3]; exact a2, by rw [a3]⟩
    · have a2 := k2.2.2 a1
      have a3 := k3.2.2 (by rw [a2]; exact a1)
      rw [b1, bdN_l]
      exact Or.inr ⟨by rw [a3, a2]; exact a1, by rw [a3, a2]⟩)
  simp (disch := omega) only [b32_34, b32_37, List.getElem?_cons_zero, List.getElem?_cons_succ, List.length_cons, List.length_nil, List.set_cons_zero, List.set_cons_succ, true_and, and_true, Option.toList_some, Option.toList_none, List.cons_append, List.nil_append, ↓reduceIte, not_false_eq_true, not_true_eq_false, Nat.reduceAdd, xj0_01, xj1_01, xb_B, xb_True, xb_False, ↓po_3]
  exact po
end XS9a05
