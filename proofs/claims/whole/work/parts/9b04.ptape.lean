/-! the pen: the tape, the languages, logs, images -/
theorem bv_255 (y : Int32) : y &&& xj 255 = xj (y.toInt % 256) := by
  have h1 : y.toInt % 256 = ((y.toBitVec.toNat % 256 : Nat) : Int) := by
    have e : y.toInt = y.toBitVec.toInt := rfl
    rw [e, BitVec.toInt_eq_toNat_cond]
    have := y.toBitVec.isLt
    split <;> omega
  have e255 : (xj 255).toBitVec = BitVec.ofNat 32 255 := xj_bv (n := 255) (by decide)
  rw [h1]
  apply Int32.toBitVec_inj.mp
  rw [Int32.toBitVec_and, e255, xj_bv (by omega)]
  apply BitVec.eq_of_toNat_eq
  simp only [BitVec.toNat_and, BitVec.toNat_ofNat]
  rw [show (255 % 2 ^ 32 : Nat) = 2 ^ 8 - 1 from rfl, Nat.and_two_pow_sub_one_eq_mod]
  omega
theorem bv_cls (x : Int32) (k : Int) : (x >>> (xj k &&& 31)) &&& xj 255 = xj (bvF x k) := bv_255 _
theorem xw_dr {A : Nat → Int} {O : Of} (h : drR A O) (hz : zW A) (h0 : 0 < A 0) : xw_Off O := by
  obtain ⟨r1, r2, r3, r4, r5, r6, r7, r8⟩ := h
  obtain ⟨⟨z1, z2, z3, z4, z5, z6, z7, z8⟩, y1, y2, y3, y4, y5⟩ := hz
  have q2 := r2 h0
  have q1 := y1 h0
  refine ⟨Or.inl ⟨r1, by omega, by omega, by omega, by omega, by omega, by omega⟩, by omega, by omega, by omega, fun i hi => ?_, fun i hi => ?_, fun p hp => ?_⟩
  · rw [r6 i hi]; exact y2 i (by omega)
  · have q3 := r7 i hi
    have q4 := y3 i (by omega)
    omega
  · have q3 := r8 p hp
    have q4 := y4 p (by omega)
    have q5 := y5 p (by omega)
    have e5 : (A 5).toNat = of_np O := by omega
    rw [e5] at q5
    refine ⟨by omega, by omega, by omega, by omega, by omega, by omega, by omega, by omega, ?_⟩
    have : ((of_re O p : Nat) : Int) < ((2 ^ of_np O : Nat) : Int) := by omega
    omega
section XS9b04
variable {D a b o k p q n nr r t c v fa s : Nat} {f f' : Nat → xk_C} {w : Nat × Nat × Nat} {K : Option Value → xk_S → Prop} {x y z : Int} {T : Nat → Int} {ru : Nat → Ru} {S : Dk} {H : Hi} {im : Nat → Int} {I : Nat → Dk} {d d1 : Dy} {G : (Nat → xk_C) → Prop} {F : Int32 → Prop} {A : Nat → Int} {g : Nat → Int}
theorem ppn_1z (h : P0 f a n nr T) : xk_PF f a 11 1 (.int (xj 0)) G ↔ G (xu_Pen f a 0 nr) := ppn_1 (k := 0) h
theorem u_feedN {u : Int32} (hD : 1 ≤ D) (h : P0 f a n nr T) (hn : n + 4 ≤ 400) (hpost : ∀ f', (∀ y, (y < a ∨ a + 2 ≤ y) → f' y = f y) → P0 f' a (n + 4) nr (fourT T n u 4) → K none (f', w)) : xk_Cl D 100 [.ref a, .int u] (f, w) K := by
  rw [e100 (by omega)]
  have key : ∀ (m j : Nat) (f1 : Nat → xk_C), j + m = 4 → (∀ y, (y < a ∨ a + 2 ≤ y) → f1 y = f y) → P0 f1 a (n + j) nr (fourT T n u j) → xk_B (D - 1) 100 3 [.ref a, .int u, .int (xj (24 - 8 * (j : Nat)))] [] (f1, w) K := by
    intro m
    induction m with
    | zero =>
      intro j f1 hj e h1
      have e4 : j = 4 := by omega
      subst e4
      have po := hpost f1 e h1
      have e8 : (24 : Int) - 8 * ((4 : Nat) : Int) = -8 := by decide
      simp (disch := omega) only [b100_3, b100_4, b100_58, List.getElem?_cons_zero, List.getElem?_cons_succ, List.length_cons, List.length_nil, List.set_cons_zero, List.set_cons_succ, true_and, and_true, Option.toList_some, Option.toList_none, List.cons_append, List.nil_append, ↓reduceIte, not_false_eq_true, not_true_eq_false, Nat.reduceAdd, xj0_01, xj1_01, xb_B, xb_True, xb_False, ↓xj_in, xj_nat, Int.toNat_natCast, xj_lt_t, xj_lt_f, xj_le_t, xj_le_f, xj_eq_t, xj_eq_f, xj_lt, xj_le, xj_eq, xj_add, xj_sub, xj_mul, show ¬ xj 1 = xj 0 from by decide, e8]
      exact po
    | succ m ih =>
      intro j f1 hj e h1
      have e8 : (24 : Int) - 8 * (j : Nat) + -8 = 24 - 8 * ((j + 1 : Nat) : Int) := by omega
      have en : ((n + j : Nat) : Int) + 1 = ((n + (j + 1) : Nat) : Int) := by omega
      have s1 : ∀ v G, xk_AS f1 (a + 1) (xj (n + j : Nat)) (xj v) G ↔ G (va_up f1 (a + 1) (xa_I 400 (upI (fourT T n u j) (n + j) v))) := fun v G => as_I h1.2 (by omega) (by omega) (by decide)
      have e2 : ∀ v y, y ≠ a + 1 → va_up f1 (a + 1) (xa_I 400 (upI (fourT T n u j) (n + j) v)) y = f1 y := fun v y hy => up_ne hy
      have h2 : P0 (va_up f1 (a + 1) (xa_I 400 (upI (fourT T n u j) (n + j) (bvF u (24 - 8 * (j : Nat)))))) a (n + j) nr (fourT T n u (j + 1)) := ⟨(e2 _ _ (by omega)).trans h1.1, up_s _ _ _⟩
      have l1 : ∀ F, xk_LN f1 (a + 1) F ↔ F (xj (400 : Nat)) := fun F => ln_I h1.2
      have po := ih (j + 1) (xu_Pen (va_up f1 (a + 1) (xa_I 400 (upI (fourT T n u j) (n + j) (bvF u (24 - 8 * (j : Nat)))))) a (n + (j + 1)) nr) (by omega) (fun y hy => by rw [xu_ne (by omega), e2 _ y (by omega)]; exact e y hy) (xu_P0 h2)
      rw [b100_3]
      simp (disch := omega) only [b100_4, b100_7, b100_8, b100_11, b100_14, b100_15, b100_18, b100_19, b100_22, b100_23, b100_26, b100_27, b100_30, b100_31, b100_34, b100_35, b100_36, b100_37, b100_40, b100_41, b100_42, b100_43, b100_44, b100_47, b100_48, b100_49, b100_52, b100_55, List.getElem?_cons_zero, List.getElem?_cons_succ, List.length_cons, List.length_nil, List.set_cons_zero, List.set_cons_succ, true_and, and_true, Option.toList_some, Option.toList_none, List.cons_append, List.nil_append, ↓reduceIte, not_false_eq_true, not_true_eq_false, Nat.reduceAdd, xj0_01, xj1_01, xb_B, xb_True, xb_False, ↓gpn_0 h1, ↓gpn_1 h1, ↓l1, ↓s1, ↓gpn_1 h2, ↓ppn_1 h2, ↓xj_in, xj_nat, Int.toNat_natCast, xj_lt_t, xj_lt_f, xj_le_t, xj_le_f, xj_eq_t, xj_eq_f, xj_lt, xj_le, xj_eq, xj_add, xj_sub, xj_mul, show ¬ xj 1 = xj 0 from by decide, bv_cls, e8, en]
      exact po
  have k0 := key 4 0 f rfl (fun _ _ => rfl) h
  simp (disch := omega) only [b100_0, b100_2, List.getElem?_cons_zero, List.getElem?_cons_succ, List.length_cons, List.length_nil, List.set_cons_zero, List.set_cons_succ, true_and, and_true, Option.toList_some, Option.toList_none, List.cons_append, List.nil_append, ↓reduceIte, not_false_eq_true, not_true_eq_false, Nat.reduceAdd, xj0_01, xj1_01, xb_B, xb_True, xb_False]
  exact k0
theorem p_feed {u1 u2 u3 u4 u5 : Int32} (hD : 2 ≤ D) (h : xv_Pen f a n nr T ru S H im I) (hn : n ≤ 400) (hno : 400 < n + 20 → K (some (.int (xj (-1)))) (f, w)) (hyes : n + 20 ≤ 400 → ∀ f', (∀ x, (x < a ∨ a + 204 ≤ x) → f' x = f x) → xv_Pen f' a (n + 20) nr (feedT T n u1 u2 u3 u4 u5) ru S H im I → K (some (.int (xj (n + 20 : Nat)))) (f', w)) : xk_Cl D 99 [.ref a, .int u1, .int u2, .int u3, .int u4, .int u5] (f, w) K := by
  rw [e99 (by omega)]
  obtain ⟨p0, p1, p2, p3, p4, p5, p6, p7, p8, p9, p10, p11⟩ := h
  by_cases c : n + 20 ≤ 400
  · simp (disch := omega) only [b99_0, b99_1, b99_4, b99_6, b99_7, b99_10, b99_13, b99_14, b99_15, b99_16, List.getElem?_cons_zero, List.getElem?_cons_succ, List.length_cons, List.length_nil, List.set_cons_zero, List.set_cons_succ, true_and, and_true, Option.toList_some, Option.toList_none, List.cons_append, List.nil_append, ↓reduceIte, not_false_eq_true, not_true_eq_false, Nat.reduceAdd, xj0_01, xj1_01, xb_B, xb_True, xb_False, ↓gpn_1 p0, ↓xj_in, xj_nat, Int.toNat_natCast, xj_lt_t, xj_lt_f, xj_le_t, xj_le_f, xj_eq_t, xj_eq_f, xj_lt, xj_le, xj_eq, xj_add, xj_sub, xj_mul, show ¬ xj 1 = xj 0 from by decide]
    rw [b99_17, rc_Pen p0, true_and]
    refine u_feedN (by omega) p0 (by omega) (fun f1 e1 q1 => ?_)
    simp (disch := omega) only [b99_20, b99_21, List.getElem?_cons_zero, List.getElem?_cons_succ, List.length_cons, List.length_nil, List.set_cons_zero, List.set_cons_succ, true_and, and_true, Option.toList_some, Option.toList_none, List.cons_append, List.nil_append, ↓reduceIte, not_false_eq_true, not_true_eq_false, Nat.reduceAdd, xj0_01, xj1_01, xb_B, xb_True, xb_False]
    rw [b99_22, rc_Pen q1, true_and]
    refine u_feedN (by omega) q1 (by omega) (fun f2 e2 q2 => ?_)
    simp (disch := omega) only [b99_25, b99_26, List.getElem?_cons_zero, List.getElem?_cons_succ, List.length_cons, List.length_nil, List.set_cons_zero, List.set_cons_succ, true_and, and_true, Option.toList_some, Option.toList_none, List.cons_append, List.nil_append, ↓reduceIte, not_false_eq_true, not_true_eq_false, Nat.reduceAdd, xj0_01, xj1_01, xb_B, xb_True, xb_False]
    rw [b99_27, rc_Pen q2, true_and]
    refine u_feedN (by omega) q2 (by omega) (fun f3 e3 q3 => ?_)
    simp (disch := omega) only [b99_30, b99_31, List.getElem?_cons_zero, List.getElem?_cons_succ, List.length_cons, List.length_nil, List.set_cons_zero, List.set_cons_succ, true_and, and_true, Option.toList_some, Option.toList_none, List.cons_append, List.nil_append, ↓reduceIte, not_false_eq_true, not_true_eq_false, Nat.reduceAdd, xj0_01, xj1_01, xb_B, xb_True, xb_False]
    rw [b99_33, rc_Pen q3, true_and]
    refine u_feedN (by omega) q3 (by omega) (fun f4 e4 q4 => ?_)
    simp (disch := omega) only [b99_36, b99_37, List.getElem?_cons_zero, List.getElem?_cons_succ, List.length_cons, List.length_nil, List.set_cons_zero, List.set_cons_succ, true_and, and_true, Option.toList_some, Option.toList_none, List.cons_append, List.nil_append, ↓reduceIte, not_false_eq_true, not_true_eq_false, Nat.reduceAdd, xj0_01, xj1_01, xb_B, xb_True, xb_False]
    rw [b99_39, rc_Pen q4, true_and]
    refine u_feedN (by omega) q4 (by omega) (fun f5 e5 q5 => ?_)
    have e : ∀ x, (x < a ∨ a + 2 ≤ x) → f5 x = f x := fun x hx => by rw [e5 x hx, e4 x hx, e3 x hx, e2 x hx, e1 x hx]
    have po := hyes c f5 (fun x hx => e x (by omega)) ⟨q5, P1_fr p1 (fun x q => e x (by omega)), P2_fr p2 (fun x q => e x (by omega)), P3_fr p3 (fun x q => e x (by omega)), P4_fr p4 (fun x q => e x (by omega)), P5_fr p5 (fun x q => e x (by omega)), P6_fr p6 (fun x q => e x (by omega)), P7_fr p7 (fun x q => e x (by omega)), P8_fr p8 (fun x q => e x (by omega)), P9_fr p9 (fun x q => e x (by omega)), P10_fr p10 (fun x q => e x (by omega)), P11_fr p11 (fun x q => e x (by omega))⟩
    simp (disch := omega) only [b99_42, b99_43, b99_46, List.getElem?_cons_zero, List.getElem?_cons_succ, List.length_cons, List.length_nil, List.set_cons_zero, List.set_cons_succ, true_and, and_true, Option.toList_some, Option.toList_none, List.cons_append, List.nil_append, ↓reduceIte, not_false_eq_true, not_true_eq_false, Nat.reduceAdd, xj0_01, xj1_01, xb_B, xb_True, xb_False, ↓gpn_1 q5]
    exact po
  · have po := hno (by omega)
    simp (disch := omega) only [b99_0, b99_1, b99_4, b99_6, b99_7, b99_10, b99_13, b99_14, List.getElem?_cons_zero, List.getElem?_cons_succ, List.length_cons, List.length_nil, List.set_cons_zero, List.set_cons_succ, true_and, and_true, Option.toList_some, Option.toList_none, List.cons_append, List.nil_append, ↓reduceIte, not_false_eq_true, not_true_eq_false, Nat.reduceAdd, xj0_01, xj1_01, xb_B, xb_True, xb_False, ↓gpn_1 p0, ↓xj_in, xj_nat, Int.toNat_natCast, xj_lt_t, xj_lt_f, xj_le_t, xj_le_f, xj_eq_t, xj_eq_f, xj_lt, xj_le, xj_eq, xj_add, xj_sub, xj_mul, show ¬ xj 1 = xj 0 from by decide]
    exact po
theorem p_end (hD : 1 ≤ D) (h : xv_Pen f a n nr T ru S H im I) (hn : n ≤ 400) (z1 : -2147483648 ≤ z) (z2 : z ≤ 2147483647) (hno : ¬ (0 ≤ z ∧ z ≤ n) → K (some (.int (xj (-1)))) (f, w)) (hyes : ∀ k : Nat, z = k → k ≤ n → ∀ f', (∀ x, (x < a ∨ a + 204 ≤ x) → f' x = f x) → xv_Pen f' a k nr T ru S H im I → K (some (.int (xj (k : Nat)))) (f', w)) : xk_Cl D 101 [.ref a, .int (xj z)] (f, w) K := by
  rw [e101 (by omega)]
  obtain ⟨p0, p1, p2, p3, p4, p5, p6, p7, p8, p9, p10, p11⟩ := h
  by_cases c1 : 0 ≤ z
  · by_cases c2 : z ≤ n
    · obtain ⟨k, rfl⟩ : ∃ k : Nat, z = k := ⟨z.toNat, by omega⟩
      have e : ∀ x, x ≠ a → xu_Pen f a k nr x = f x := fun x hx => xu_ne hx
      have po := hyes k rfl (by omega) (xu_Pen f a k nr) (fun x hx => e x (by omega)) ⟨xu_P0 p0, P1_fr p1 (fun x q => e x (by omega)), P2_fr p2 (fun x q => e x (by omega)), P3_fr p3 (fun x q => e x (by omega)), P4_fr p4 (fun x q => e x (by omega)), P5_fr p5 (fun x q => e x (by omega)), P6_fr p6 (fun x q => e x (by omega)), P7_fr p7 (fun x q => e x (by omega)), P8_fr p8 (fun x q => e x (by omega)), P9_fr p9 (fun x q => e x (by omega)), P10_fr p10 (fun x q => e x (by omega)), P11_fr p11 (fun x q => e x (by omega))⟩
      simp (disch := omega) only [b101_0, b101_1, b101_4, b101_5, b101_6, b101_9, b101_12, b101_13, b101_14, b101_15, b101_16, b101_19, b101_20, List.getElem?_cons_zero, List.getElem?_cons_succ, List.length_cons, List.length_nil, List.set_cons_zero, List.set_cons_succ, true_and, and_true, Option.toList_some, Option.toList_none, List.cons_append, List.nil_append, ↓reduceIte, not_false_eq_true, not_true_eq_false, Nat.reduceAdd, xj0_01, xj1_01, xb_B, xb_True, xb_False, ↓gpn_1 p0, ↓ppn_1 p0, ↓xj_in, xj_nat, Int.toNat_natCast, xj_lt_t, xj_lt_f, xj_le_t, xj_le_f, xj_eq_t, xj_eq_f, xj_lt, xj_le, xj_eq, xj_add, xj_sub, xj_mul, show ¬ xj 1 = xj 0 from by decide]
      exact po
    · have po := hno (fun q => c2 q.2)
      simp (disch := omega) only [b101_0, b101_1, b101_4, b101_5, b101_6, b101_9, b101_12, b101_13, List.getElem?_cons_zero, List.getElem?_cons_succ, List.length_cons, List.length_nil, List.set_cons_zero, List.set_cons_succ, true_and, and_true, Option.toList_some, Option.toList_none, List.cons_append, List.nil_append, ↓reduceIte, not_false_eq_true, not_true_eq_false, Nat.reduceAdd, xj0_01, xj1_01, xb_B, xb_True, xb_False, ↓gpn_1 p0, ↓xj_in, xj_nat, Int.toNat_natCast, xj_lt_t, xj_lt_f, xj_le_t, xj_le_f, xj_eq_t, xj_eq_f, xj_lt, xj_le, xj_eq, xj_add, xj_sub, xj_mul, show ¬ xj 1 = xj 0 from by decide]
      exact po
  · have po := hno (fun q => c1 q.1)
    simp (disch := omega) only [b101_0, b101_1, b101_4, b101_5, b101_6, b101_9, b101_12, b101_13, List.getElem?_cons_zero, List.getElem?_cons_succ, List.length_cons, List.length_nil, List.set_cons_zero, List.set_cons_succ, true_and, and_true, Option.toList_some, Option.toList_none, List.cons_append, List.nil_append, ↓reduceIte, not_false_eq_true, not_true_eq_false, Nat.reduceAdd, xj0_01, xj1_01, xb_B, xb_True, xb_False, ↓gpn_1 p0, ↓xj_in, xj_nat, Int.toNat_natCast, xj_lt_t, xj_lt_f, xj_le_t, xj_le_f, xj_eq_t, xj_eq_f, xj_lt, xj_le, xj_eq, xj_add, xj_sub, xj_mul, show ¬ xj 1 = xj 0 from by decide]
    exact po
theorem p_office (hD : 13 ≤ D) (h : xv_Pen f a n nr T ru S H im I) (hT : tOK T n) (hw : xw_Dk S) (hA : ∀ i, i < 84 → A i = 0) (hno : ∀ e : Nat, gOf T n 41 0 (skT T n 0) A = .inl e → ∀ f', (∀ x, (x < a ∨ a + 204 ≤ x) → f' x = f x) → xv_Pen f' a 0 nr T ru S H im I → K (some (.int (xj (-2 - (e : Nat))))) (f', w)) (hyes : ∀ A' O', gOf T n 41 0 (skT T n 0) A = .inr A' → drR A' O' → zW A' → 0 < A' 0 → xz_Off O' → xw_Off O' → ∀ f', (∀ x, (x < a ∨ a + 204 ≤ x) → f' x = f x) → xv_Pen f' a 0 nr T ru (O', openD O', (0, S.2.2.1.2), S.2.2.2) (H.1, 0, H.2.2) im I → K (some (.int (xj (of_np O' : Nat)))) (f', w)) : xk_Cl D 102 [.ref a] (f, w) K := by
  rw [e102 (by omega)]
  obtain ⟨w1, w2, w3, w4, w5, w6, w7, w8⟩ := hw
  obtain ⟨p0, ⟨sz, nx, fa0, ks, vs, ps, t0, t1, t2, t3⟩, p2, p3, p4, p5, p6, p7, p8, p9, p10, p11⟩ := h
  have p5 : xv_Dk f (a + 22) S := p5
  have p7 : xv_Hi f (a + 41) H := p7
  simp (disch := omega) only [b102_0, b102_1, b102_4, b102_5, b102_8, b102_9, List.getElem?_cons_zero, List.getElem?_cons_succ, List.length_cons, List.length_nil, List.set_cons_zero, List.set_cons_succ, true_and, and_true, Option.toList_some, Option.toList_none, List.cons_append, List.nil_append, ↓reduceIte, not_false_eq_true, not_true_eq_false, Nat.reduceAdd, xj0_01, xj1_01, xb_B, xb_True, xb_False, ↓gpn_0 p0, ↓gpn_1 p0, ↓gpn_2 p0]
  rw [b102_12, rc_R t0, true_and]
  refine u_cut (by omega) t0 t1 t2 t3 p0.2 (by omega) hT (fun f1 e1 x1 => ?_)
  have q0 : P0 f1 a n nr T := P0_fr p0 (fun x q => e1 x (by omega))
  have e2 : ∀ x, x ≠ a → xu_Pen f1 a 0 nr x = f1 x := fun x hx => xu_ne hx
  have r0 : P0 (xu_Pen f1 a 0 nr) a 0 nr T := xu_P0 q0
  simp (disch := omega) only [b102_15, b102_16, b102_17, List.getElem?_cons_zero, List.getElem?_cons_succ, List.length_cons, List.length_nil, List.set_cons_zero, List.set_cons_succ, true_and, and_true, Option.toList_some, Option.toList_none, List.cons_append, List.nil_append, ↓reduceIte, not_false_eq_true, not_true_eq_false, Nat.reduceAdd, xj0_01, xj1_01, xb_B, xb_True, xb_False, ↓ppn_1z q0]
  generalize xu_Pen f1 a 0 nr = f2 at *
  have e12 : ∀ x, x ≠ a → (x < a + 2 ∨ a + 6 ≤ x) → f2 x = f x := fun x h1 h2 => by rw [e2 x h1, e1 x h2]
  have x2 : xT f2 (a + 2) T n (skT T n 0) 0 := xT_fr x1 (fun x h1 h2 => e2 x (by omega))
  obtain ⟨O0, o2, z0⟩ := P2_fr p2 (f' := f2) (fun x q => e12 x (by omega) (by omega))
  simp (disch := omega) only [b102_20, b102_21, b102_24, b102_25, List.getElem?_cons_zero, List.getElem?_cons_succ, List.length_cons, List.length_nil, List.set_cons_zero, List.set_cons_succ, true_and, and_true, Option.toList_some, Option.toList_none, List.cons_append, List.nil_append, ↓reduceIte, not_false_eq_true, not_true_eq_false, Nat.reduceAdd, xj0_01, xj1_01, xb_B, xb_True, xb_False, ↓gpn_2 r0, ↓gpn_3 r0]
  rw [b102_28, rc_Off o2, true_and]
  refine c_readFrom (by omega) (by omega) x2 o2 z0 hA (fun f3 p3' fa3 O3 fr3 x3 o3 z3 y3 n3 => ?_)
  have e3 : ∀ x, (x ≠ a ∧ (x < a + 2 ∨ a + 16 ≤ x)) → f3 x = f x := fun x hx => by rw [fr3 x (by omega) (by omega), e12 x hx.1 (by omega)]
  have s0 : P0 f3 a 0 nr T := P0_fr r0 (fun x q => fr3 x (by omega) (by omega))
  have hfa3 := (xT_at x3).2.2
  have v1 : P1 f3 a := by
    obtain ⟨ks, vs, ps, sz, nx, h0, h1, h2, h3, _⟩ := x3
    exact ⟨sz, nx, _, ks, vs, ps, h0, h1, h2, h3⟩
  by_cases c : fa3 = 0
  · obtain ⟨A', g1, g2, g3, g4⟩ := y3 c
    subst c
    have wO := xw_dr g2 g3 g4
    have s5 : xv_Dk f3 (a + 22) S := xv_Dk_fr p5 (fun x h1 h2 => e3 x (by omega))
    have co := fun K' => s_copyOff (D := D - 1) (w := w) (K := K') (by omega) s5.2.1 o3 w2 z3 wO (by omega)
    simp (disch := omega) only [b102_31, b102_32, b102_35, b102_38, b102_41, b102_43, b102_44, b102_47, b102_50, b102_51, b102_52, b102_53, b102_56, b102_59, b102_60, List.getElem?_cons_zero, List.getElem?_cons_succ, List.length_cons, List.length_nil, List.set_cons_zero, List.set_cons_succ, true_and, and_true, Option.toList_some, Option.toList_none, List.cons_append, List.nil_append, ↓reduceIte, not_false_eq_true, not_true_eq_false, Nat.reduceAdd, xj0_01, xj1_01, xb_B, xb_True, xb_False, ↓gpn_2 s0, ↓gpn_3 s0, ↓gpn_7 s0, ↓xT_fa x3, ↓gk_0 s5.1, ↓xj_in, xj_nat, Int.toNat_natCast, xj_lt_t, xj_lt_f, xj_le_t, xj_le_f, xj_eq_t, xj_eq_f, xj_lt, xj_le, xj_eq, xj_add, xj_sub, xj_mul, show ¬ xj 1 = xj 0 from by decide]
    rw [b102_63, rc_Off s5.2.1, true_and, co]
    have e4 : ∀ x, (x < a + 22 + 1 ∨ a + 22 + 11 ≤ x) → xs f3 (a + 22 + 1) (xl_Off (a + 22 + 1) O3) x = f3 x := fun x hx => xs_ne (by show x < a + 22 + 1 ∨ a + 22 + 1 + 10 ≤ x; omega)
    have o4 : xv_Off (xs f3 (a + 22 + 1) (xl_Off (a + 22 + 1) O3)) (a + 22 + 1) O3 := xv_Off_xs
    generalize xs f3 (a + 22 + 1) (xl_Off (a + 22 + 1) O3) = f4 at *
    have u0 : P0 f4 a 0 nr T := P0_fr s0 (fun x q => e4 x (by omega))
    have k4 : f4 (a + 22) = xd_c (a + 22) S.2.2.2 := (e4 _ (by omega)).trans s5.1
    have d4 : xv_Day f4 (a + 22 + 11) S.2.1 := xv_Day_fr s5.2.2.1 (fun x h1 h2 => e4 x (by omega))
    have o4d : xv_Off f4 (a + 6) O3 := xv_Off_fr o3 (fun x h1 h2 => e4 x (by omega))
    have op := fun K' => s_day_open (D := D - 1) (w := w) (K := K') (by omega) o4d wO d4 w4 (by omega)
    simp (disch := omega) only [b102_66, b102_67, b102_70, b102_73, b102_74, List.getElem?_cons_zero, List.getElem?_cons_succ, List.length_cons, List.length_nil, List.set_cons_zero, List.set_cons_succ, true_and, and_true, Option.toList_some, Option.toList_none, List.cons_append, List.nil_append, ↓reduceIte, not_false_eq_true, not_true_eq_false, Nat.reduceAdd, xj0_01, xj1_01, xb_B, xb_True, xb_False, ↓gpn_3 u0, ↓gpn_7 u0, ↓gk_1 k4]
    rw [b102_77, rc_Day d4, true_and, op]
    have e5 : ∀ x, (x < a + 22 + 11 ∨ a + 22 + 13 ≤ x) → xs_Day f4 (a + 22 + 11) (openD O3) x = f4 x := fun x hx => xs_Day_ne (by omega) (by omega)
    have d5 := xs_Day_v f4 (a + 22 + 11) (openD O3)
    generalize xs_Day f4 (a + 22 + 11) (openD O3) = f5 at *
    have v0 : P0 f5 a 0 nr T := P0_fr u0 (fun x q => e5 x (by omega))
    have k5 : f5 (a + 22) = xd_c (a + 22) S.2.2.2 := (e5 _ (by omega)).trans k4
    have l5 : xv_Lg f5 (a + 22 + 13) S.2.2.1 := xv_Lg_fr s5.2.2.2 (fun x h1 h2 => by rw [e5 x (by omega), e4 x (by omega)])
    have cl := fun K' => s_clearL (D := D - 1) (w := w) (K := K') (by omega) l5
    simp (disch := omega) only [b102_80, b102_81, b102_84, List.getElem?_cons_zero, List.getElem?_cons_succ, List.length_cons, List.length_nil, List.set_cons_zero, List.set_cons_succ, true_and, and_true, Option.toList_some, Option.toList_none, List.cons_append, List.nil_append, ↓reduceIte, not_false_eq_true, not_true_eq_false, Nat.reduceAdd, xj0_01, xj1_01, xb_B, xb_True, xb_False, ↓gpn_7 v0, ↓gk_2 k5]
    rw [b102_87, rc_R l5.1, true_and, cl]
    have e6 : ∀ x, (x < a + 22 + 13 ∨ a + 22 + 17 ≤ x) → xs f5 (a + 22 + 13) (xc_Lg (a + 22 + 13) (0, S.2.2.1.2)) x = f5 x := fun x hx => xs_ne (by show x < a + 22 + 13 ∨ a + 22 + 13 + 4 ≤ x; omega)
    have l6 : xv_Lg (xs f5 (a + 22 + 13) (xc_Lg (a + 22 + 13) (0, S.2.2.1.2))) (a + 22 + 13) (0, S.2.2.1.2) := xv_Lg_xs
    generalize xs f5 (a + 22 + 13) (xc_Lg (a + 22 + 13) (0, S.2.2.1.2)) = f6 at *
    have y0 : P0 f6 a 0 nr T := P0_fr v0 (fun x q => e6 x (by omega))
    have h6 : xv_Hi f6 (a + 41) H := xv_Hi_fr p7 (fun x h1 h2 => by rw [e6 x (by omega), e5 x (by omega), e4 x (by omega), e3 x (by omega)])
    have hc := fun K' => s_Hclear (D := D - 1) (w := w) (K := K') (by omega) h6
    simp (disch := omega) only [b102_90, b102_91, List.getElem?_cons_zero, List.getElem?_cons_succ, List.length_cons, List.length_nil, List.set_cons_zero, List.set_cons_succ, true_and, and_true, Option.toList_some, Option.toList_none, List.cons_append, List.nil_append, ↓reduceIte, not_false_eq_true, not_true_eq_false, Nat.reduceAdd, xj0_01, xj1_01, xb_B, xb_True, xb_False, ↓gpn_10 y0]
    rw [b102_94, rc_R h6.1, true_and, hc]
    have e7 : ∀ x, x ≠ a + 41 → va_up f6 (a + 41) (xh_c (a + 41) H.1 0) x = f6 x := fun x hx => up_ne hx
    have h7 : xv_Hi (va_up f6 (a + 41) (xh_c (a + 41) H.1 0)) (a + 41) (H.1, 0, H.2.2) := ⟨up_s _ _ _, (e7 _ (by omega)).trans h6.2.1, fun k hk => xv_Day_fr (h6.2.2 k hk) (fun x h1 h2 => e7 x (by omega))⟩
    generalize va_up f6 (a + 41) (xh_c (a + 41) H.1 0) = f7 at *
    have y1 : P0 f7 a 0 nr T := P0_fr y0 (fun x q => e7 x (by omega))
    have ea : ∀ x, (x ≠ a ∧ (x < a + 2 ∨ (a + 16 ≤ x ∧ x < a + 22) ∨ (a + 39 ≤ x ∧ x < a + 41) ∨ a + 83 ≤ x)) → f7 x = f x := fun x hx => by rw [e7 x (by omega), e6 x (by omega), e5 x (by omega), e4 x (by omega), e3 x (by omega)]
    have eb : ∀ x, (a + 1 ≤ x ∧ x < a + 22) → f7 x = f3 x := fun x hx => by rw [e7 x (by omega), e6 x (by omega), e5 x (by omega), e4 x (by omega)]
    have v5 : xv_Dk f7 (a + 22) (O3, openD O3, (0, S.2.2.1.2), S.2.2.2) := ⟨by rw [e7 _ (by omega), e6 _ (by omega)]; exact k5, xv_Off_fr o4 (fun x h1 h2 => by rw [e7 x (by omega), e6 x (by omega), e5 x (by omega)]), xv_Day_fr d5 (fun x h1 h2 => by rw [e7 x (by omega), e6 x (by omega)]), xv_Lg_fr l6 (fun x h1 h2 => e7 x (by omega))⟩
    have po := hyes A' O3 g1 g2 g3 g4 z3 wO f7 (fun x hx => ea x (by omega)) ⟨y1, P1_fr v1 (fun x q => eb x (by omega)), ⟨O3, xv_Off_fr o3 (fun x h1 h2 => eb x (by omega)), z3⟩, P3_fr p3 (fun x q => ea x (by omega)), P4_fr p4 (fun x q => ea x (by omega)), v5, P6_fr p6 (fun x q => ea x (by omega)), h7, P8_fr p8 (fun x q => ea x (by omega)), P9_fr p9 (fun x q => ea x (by omega)), P10_fr p10 (fun x q => ea x (by omega)), P11_fr p11 (fun x q => ea x (by omega))⟩
    have ho7 := v5.2.1
    simp (disch := omega) only [b102_97, b102_98, b102_101, b102_104, b102_107, List.getElem?_cons_zero, List.getElem?_cons_succ, List.length_cons, List.length_nil, List.set_cons_zero, List.set_cons_succ, true_and, and_true, Option.toList_some, Option.toList_none, List.cons_append, List.nil_append, ↓reduceIte, not_false_eq_true, not_true_eq_false, Nat.reduceAdd, xj0_01, xj1_01, xb_B, xb_True, xb_False, ↓go_0 ho7, ↓go_1 ho7, ↓go_2 ho7, ↓go_3 ho7, ↓go_4 ho7, ↓go_5 ho7, ↓go_6 ho7, ↓go_7 ho7, ↓go_8 ho7, ↓go_9 ho7, ↓go_10 ho7, ↓go_11 ho7, ↓go_12 ho7, ↓go_13 ho7, ↓go_14 ho7, ↓go_15 ho7, ↓ao_1 ho7, ↓ao_2 ho7, ↓ao_3 ho7, ↓ao_4 ho7, ↓ao_5 ho7, ↓ao_6 ho7, ↓ao_7 ho7, ↓ao_8 ho7, ↓ao_9 ho7, ↓gpn_7 y1, ↓gk_0 v5.1]
    exact po
  · have po := hno fa3 (n3 c) f3 (fun x hx => e3 x (by omega)) ⟨s0, v1, ⟨O3, o3, z3⟩, P3_fr p3 (fun x q => e3 x (by omega)), P4_fr p4 (fun x q => e3 x (by omega)), P5_fr p5 (fun x q => e3 x (by omega)), P6_fr p6 (fun x q => e3 x (by omega)), P7_fr p7 (fun x q => e3 x (by omega)), P8_fr p8 (fun x q => e3 x (by omega)), P9_fr p9 (fun x q => e3 x (by omega)), P10_fr p10 (fun x q => e3 x (by omega)), P11_fr p11 (fun x q => e3 x (by omega))⟩
    simp (disch := omega) only [b102_31, b102_32, b102_35, b102_38, b102_41, b102_43, b102_44, b102_47, b102_50, b102_51, List.getElem?_cons_zero, List.getElem?_cons_succ, List.length_cons, List.length_nil, List.set_cons_zero, List.set_cons_succ, true_and, and_true, Option.toList_some, Option.toList_none, List.cons_append, List.nil_append, ↓reduceIte, not_false_eq_true, not_true_eq_false, Nat.reduceAdd, xj0_01, xj1_01, xb_B, xb_True, xb_False, ↓gpn_2 s0, ↓xT_fa x3, ↓xj_in, xj_nat, Int.toNat_natCast, xj_lt_t, xj_lt_f, xj_le_t, xj_le_f, xj_eq_t, xj_eq_f, xj_lt, xj_le, xj_eq, xj_add, xj_sub, xj_mul, show ¬ xj 1 = xj 0 from by decide]
    exact po
theorem p_rule (hD : 44 ≤ D) (h : xv_Pen f a n nr T ru S H im I) (hT : tOK T n) (hnr : nr ≤ 6) (hfull : nr = 6 → K (some (.int (xj (-1)))) (f, w)) (hno : nr < 6 → ∀ e : Nat, gRu T n 13 (skT T n 0) 0 [] = .inl e → ∀ f', (∀ x, (x < a ∨ a + 204 ≤ x) → f' x = f x) → xv_Pen f' a 0 nr T ru S H im I → K (some (.int (xj (-2 - (e : Nat))))) (f', w)) (hyes : nr < 6 → ∀ ru', gRu T n 13 (skT T n 0) 0 [] = .inr ru' → ∀ f', (∀ x, (x < a ∨ a + 204 ≤ x) → f' x = f x) → xv_Pen f' a 0 (nr + 1) T (fun k => if k = nr then ru' else ru k) S H im I → K (some (.int (xj (nr : Nat)))) (f', w)) : xk_Cl D 103 [.ref a] (f, w) K := by
  rw [e103 (by omega)]
  obtain ⟨p0, ⟨sz, nx, fa0, ks, vs, ps, t0, t1, t2, t3⟩, p2, p3, p4, p5, p6, p7, p8, p9, p10, p11⟩ := h
  have l4 : ∀ F, xk_LN f (a + 21) F ↔ F (xj (6 : Nat)) := fun F => ln_4 p4.1 (by decide)
  by_cases c6 : nr = 6
  · have po := hfull c6
    subst c6
    simp (disch := omega) only [b103_0, b103_1, b103_4, b103_7, b103_8, b103_11, b103_12, b103_15, b103_16, b103_19, b103_20, List.getElem?_cons_zero, List.getElem?_cons_succ, List.length_cons, List.length_nil, List.set_cons_zero, List.set_cons_succ, true_and, and_true, Option.toList_some, Option.toList_none, List.cons_append, List.nil_append, ↓reduceIte, not_false_eq_true, not_true_eq_false, Nat.reduceAdd, xj0_01, xj1_01, xb_B, xb_True, xb_False, ↓gpn_5 p0, ↓gpn_6 p0, ↓l4, ↓xj_in, xj_nat, Int.toNat_natCast, xj_lt_t, xj_lt_f, xj_le_t, xj_le_f, xj_eq_t, xj_eq_f, xj_lt, xj_le, xj_eq, xj_add, xj_sub, xj_mul, show ¬ xj 1 = xj 0 from by decide]
    exact po
  · have c6 : nr < 6 := by omega
    simp (disch := omega) only [b103_0, b103_1, b103_4, b103_7, b103_8, b103_11, b103_12, b103_15, b103_16, b103_19, b103_20, b103_21, b103_22, b103_25, b103_26, b103_29, b103_30, List.getElem?_cons_zero, List.getElem?_cons_succ, List.length_cons, List.length_nil, List.set_cons_zero, List.set_cons_succ, true_and, and_true, Option.toList_some, Option.toList_none, List.cons_append, List.nil_append, ↓reduceIte, not_false_eq_true, not_true_eq_false, Nat.reduceAdd, xj0_01, xj1_01, xb_B, xb_True, xb_False, ↓gpn_0 p0, ↓gpn_1 p0, ↓gpn_2 p0, ↓gpn_5 p0, ↓gpn_6 p0, ↓l4, ↓xj_in, xj_nat, Int.toNat_natCast, xj_lt_t, xj_lt_f, xj_le_t, xj_le_f, xj_eq_t, xj_eq_f, xj_lt, xj_le, xj_eq, xj_add, xj_sub, xj_mul, show ¬ xj 1 = xj 0 from by decide]
    rw [b103_33, rc_R t0, true_and]
    refine u_cut (by omega) t0 t1 t2 t3 p0.2 (by omega) hT (fun f1 e1 x1 => ?_)
    have q0 : P0 f1 a n nr T := P0_fr p0 (fun x q => e1 x (by omega))
    have e2 : ∀ x, x ≠ a → xu_Pen f1 a 0 nr x = f1 x := fun x hx => xu_ne hx
    have r0 : P0 (xu_Pen f1 a 0 nr) a 0 nr T := xu_P0 q0
    simp (disch := omega) only [b103_36, b103_37, b103_38, List.getElem?_cons_zero, List.getElem?_cons_succ, List.length_cons, List.length_nil, List.set_cons_zero, List.set_cons_succ, true_and, and_true, Option.toList_some, Option.toList_none, List.cons_append, List.nil_append, ↓reduceIte, not_false_eq_true, not_true_eq_false, Nat.reduceAdd, xj0_01, xj1_01, xb_B, xb_True, xb_False, ↓ppn_1z q0]
    generalize xu_Pen f1 a 0 nr = f2 at *
    have e12 : ∀ x, x ≠ a → (x < a + 2 ∨ a + 6 ≤ x) → f2 x = f x := fun x h1 h2 => by rw [e2 x h1, e1 x h2]
    have x2 : xT f2 (a + 2) T n (skT T n 0) 0 := xT_fr x1 (fun x h1 h2 => e2 x (by omega))
    obtain ⟨c0, cs0, o2, l2⟩ := P3_fr p3 (f' := f2) (fun x q => e12 x (by omega) (by omega))
    simp (disch := omega) only [b103_41, b103_42, b103_45, b103_46, List.getElem?_cons_zero, List.getElem?_cons_succ, List.length_cons, List.length_nil, List.set_cons_zero, List.set_cons_succ, true_and, and_true, Option.toList_some, Option.toList_none, List.cons_append, List.nil_append, ↓reduceIte, not_false_eq_true, not_true_eq_false, Nat.reduceAdd, xj0_01, xj1_01, xb_B, xb_True, xb_False, ↓gpn_2 r0, ↓gpn_4 r0]
    rw [b103_49, rc_R o2, true_and]
    refine c_read (by omega) (by omega) x2 o2 l2 (fun f3 s3 fa3 fr3 x3 y3 n3 => ?_)
    have e3 : ∀ x, (x ≠ a ∧ (x < a + 2 ∨ (a + 6 ≤ x ∧ x < a + 16) ∨ a + 20 ≤ x)) → f3 x = f x := fun x hx => by rw [fr3 x (by omega) (by omega), e12 x hx.1 (by omega)]
    have s0 : P0 f3 a 0 nr T := P0_fr r0 (fun x q => fr3 x (by omega) (by omega))
    have hfa3 := (xT_at x3.1).2.2
    have v1 : P1 f3 a := by
      obtain ⟨ks, vs, ps, sz, nx, h0, h1, h2, h3, _⟩ := x3.1
      exact ⟨sz, nx, _, ks, vs, ps, h0, h1, h2, h3⟩
    have v3 : P3 f3 a := ⟨_, _, x3.2.1, x3.2.2.2⟩
    by_cases c : fa3 = 0
    · obtain ⟨ru', g1, g2⟩ := y3 c
      subst c
      have v4 := P4_fr p4 (f' := f3) (fun x q => e3 x (by omega))
      obtain ⟨cs, g, l4a, l4b, l4c⟩ := v4.2 nr c6
      have a4 : ∀ V, xk_ALQ f3 (a + 21) (xj (nr : Nat)) V ↔ V (.ref (a + 112 + 4 * nr)) := fun V => al_4 v4.1 (Or.inl rfl) c6 (by decide) (if_pos c6)
      have g8 : ∀ V, xk_GF f3 (a + 16) 8 0 V ↔ V (.ref (a + 16 + 1)) := fun V => grd_0 x3
      simp (disch := omega) only [b103_52, b103_53, b103_56, b103_59, b103_62, b103_64, b103_65, b103_68, b103_71, b103_72, b103_73, b103_74, b103_77, b103_78, b103_81, b103_82, b103_83, b103_86, List.getElem?_cons_zero, List.getElem?_cons_succ, List.length_cons, List.length_nil, List.set_cons_zero, List.set_cons_succ, true_and, and_true, Option.toList_some, Option.toList_none, List.cons_append, List.nil_append, ↓reduceIte, not_false_eq_true, not_true_eq_false, Nat.reduceAdd, xj0_01, xj1_01, xb_B, xb_True, xb_False, ↓gpn_2 s0, ↓gpn_4 s0, ↓gpn_5 s0, ↓gpn_6 s0, ↓xT_fa x3.1, ↓a4, ↓g8, ↓xj_in, xj_nat, Int.toNat_natCast, xj_lt_t, xj_lt_f, xj_le_t, xj_le_f, xj_eq_t, xj_eq_f, xj_lt, xj_le, xj_eq, xj_add, xj_sub, xj_mul, show ¬ xj 1 = xj 0 from by decide]
      rw [b103_89, rc_L l4a, true_and]
      refine u_Rcopy (by omega) l4a x3.2.2.2 (by omega) (fun f4 e4 l4 => ?_)
      rw [g2] at l4
      have u0 : P0 f4 a 0 nr T := P0_fr s0 (fun x q => e4 x (by omega))
      have en : ((nr : Nat) : Int) + 1 = ((nr + 1 : Nat) : Int) := by omega
      have e5 : ∀ x, x ≠ a → xu_Pen f4 a 0 (nr + 1) x = f4 x := fun x hx => xu_ne hx
      have w0 : P0 (xu_Pen f4 a 0 (nr + 1)) a 0 (nr + 1) T := xu_P0 u0
      have e6 : ∀ x, (x ≠ a ∧ (x < a + 2 ∨ (a + 6 ≤ x ∧ x < a + 16) ∨ (a + 20 ≤ x ∧ x < a + 112) ∨ a + 136 ≤ x)) → xu_Pen f4 a 0 (nr + 1) x = f x := fun x hx => by rw [e5 x hx.1, e4 x (by omega), e3 x (by omega)]
      have v4' : P4 (xu_Pen f4 a 0 (nr + 1)) a (nr + 1) (fun k => if k = nr then ru' else ru k) := by
        refine ⟨by rw [e5 _ (by omega), e4 _ (by omega)]; exact v4.1, fun k hk => ?_⟩
        by_cases ck : k = nr
        · subst ck
          exact ⟨flC ru', g, xL_fr l4 (fun x h1 h2 => e5 x (by omega)), by rw [e5 _ (by omega), e4 _ (by omega)]; exact l4b, fun _ => (congrArg flC (if_pos rfl)).symm⟩
        · obtain ⟨cs2, gg, m1, m2, m3⟩ := v4.2 k hk
          exact ⟨cs2, gg, xL_fr m1 (fun x h1 h2 => by rw [e5 x (by omega), e4 x (by omega)]), by rw [e5 _ (by omega), e4 _ (by omega)]; exact m2, fun hk2 => (m3 (by omega)).trans (congrArg flC (if_neg ck)).symm⟩
      have po := hyes c6 ru' g1 (xu_Pen f4 a 0 (nr + 1)) (fun x hx => e6 x (by omega)) ⟨w0, P1_fr v1 (fun x q => by rw [e5 x (by omega), e4 x (by omega)]), P2_fr p2 (fun x q => e6 x (by omega)), P3_fr v3 (fun x q => by rw [e5 x (by omega), e4 x (by omega)]), v4', P5_fr p5 (fun x q => e6 x (by omega)), P6_fr p6 (fun x q => e6 x (by omega)), P7_fr p7 (fun x q => e6 x (by omega)), P8_fr p8 (fun x q => e6 x (by omega)), P9_fr p9 (fun x q => e6 x (by omega)), P10_fr p10 (fun x q => e6 x (by omega)), P11_fr p11 (fun x q => e6 x (by omega))⟩
      have en2 : ((nr + 1 : Nat) : Int) - 1 = ((nr : Nat) : Int) := by omega
      simp (disch := omega) only [b103_92, b103_93, b103_94, b103_97, b103_98, b103_99, b103_102, b103_103, b103_106, b103_107, b103_108, List.getElem?_cons_zero, List.getElem?_cons_succ, List.length_cons, List.length_nil, List.set_cons_zero, List.set_cons_succ, true_and, and_true, Option.toList_some, Option.toList_none, List.cons_append, List.nil_append, ↓reduceIte, not_false_eq_true, not_true_eq_false, Nat.reduceAdd, xj0_01, xj1_01, xb_B, xb_True, xb_False, ↓gpn_6 u0, ↓ppn_6 u0, ↓gpn_6 w0, ↓xj_in, xj_nat, Int.toNat_natCast, xj_lt_t, xj_lt_f, xj_le_t, xj_le_f, xj_eq_t, xj_eq_f, xj_lt, xj_le, xj_eq, xj_add, xj_sub, xj_mul, show ¬ xj 1 = xj 0 from by decide, en, en2]
      exact po
    · have po := hno c6 fa3 (n3 c) f3 (fun x hx => e3 x (by omega)) ⟨s0, v1, P2_fr p2 (fun x q => e3 x (by omega)), v3, P4_fr p4 (fun x q => e3 x (by omega)), P5_fr p5 (fun x q => e3 x (by omega)), P6_fr p6 (fun x q => e3 x (by omega)), P7_fr p7 (fun x q => e3 x (by omega)), P8_fr p8 (fun x q => e3 x (by omega)), P9_fr p9 (fun x q => e3 x (by omega)), P10_fr p10 (fun x q => e3 x (by omega)), P11_fr p11 (fun x q => e3 x (by omega))⟩
      simp (disch := omega) only [b103_52, b103_53, b103_56, b103_59, b103_62, b103_64, b103_65, b103_68, b103_71, b103_72, List.getElem?_cons_zero, List.getElem?_cons_succ, List.length_cons, List.length_nil, List.set_cons_zero, List.set_cons_succ, true_and, and_true, Option.toList_some, Option.toList_none, List.cons_append, List.nil_append, ↓reduceIte, not_false_eq_true, not_true_eq_false, Nat.reduceAdd, xj0_01, xj1_01, xb_B, xb_True, xb_False, ↓gpn_2 s0, ↓xT_fa x3.1, ↓xj_in, xj_nat, Int.toNat_natCast, xj_lt_t, xj_lt_f, xj_le_t, xj_le_f, xj_eq_t, xj_eq_f, xj_lt, xj_le, xj_eq, xj_add, xj_sub, xj_mul, show ¬ xj 1 = xj 0 from by decide]
      exact po
theorem p_seed (hD : 1 ≤ D) (h : xv_Pen f a n nr T ru S H im I) (z1 : -2147483648 ≤ z) (z2 : z ≤ 2147483647) (hno : z < 0 → K (some (.int (xj (-1)))) (f, w)) (hyes : 0 ≤ z → ∀ f', (∀ x, (x < a ∨ a + 204 ≤ x) → f' x = f x) → xv_Pen f' a n nr T ru (S.1, S.2.1, S.2.2.1, z) H im I → K (some (.int (xj S.2.2.2))) (f', w)) : xk_Cl D 130 [.ref a, .int (xj z)] (f, w) K := by
  rw [e130 (by omega)]
  obtain ⟨p0, p1, p2, p3, p4, p5, p6, p7, p8, p9, p10, p11⟩ := h
  have p5 : xv_Dk f (a + 22) S := p5
  by_cases c : 0 ≤ z
  · have pf : ∀ v G, xk_PF f (a + 22) 1 3 v G ↔ G (va_up f (a + 22) (.inr (1, [.ref (a + 22 + 1), .ref (a + 22 + 11), .ref (a + 22 + 13), v]))) := fun v G => pf_R p5.1 (by show 3 < 4; decide)
    have e : ∀ x, x ≠ a + 22 → va_up f (a + 22) (.inr (1, [.ref (a + 22 + 1), .ref (a + 22 + 11), .ref (a + 22 + 13), .int (xj z)])) x = f x := fun x hx => up_ne hx
    have v5 : xv_Dk (va_up f (a + 22) (.inr (1, [.ref (a + 22 + 1), .ref (a + 22 + 11), .ref (a + 22 + 13), .int (xj z)]))) (a + 22) (S.1, S.2.1, S.2.2.1, z) := ⟨up_s _ _ _, xv_Off_fr p5.2.1 (fun x h1 h2 => e x (by omega)), xv_Day_fr p5.2.2.1 (fun x h1 h2 => e x (by omega)), xv_Lg_fr p5.2.2.2 (fun x h1 h2 => e x (by omega))⟩
    have po := hyes c (va_up f (a + 22) (.inr (1, [.ref (a + 22 + 1), .ref (a + 22 + 11), .ref (a + 22 + 13), .int (xj z)]))) (fun x hx => e x (by omega)) ⟨P0_fr p0 (fun x q => e x (by omega)), P1_fr p1 (fun x q => e x (by omega)), P2_fr p2 (fun x q => e x (by omega)), P3_fr p3 (fun x q => e x (by omega)), P4_fr p4 (fun x q => e x (by omega)), v5, P6_fr p6 (fun x q => e x (by omega)), P7_fr p7 (fun x q => e x (by omega)), P8_fr p8 (fun x q => e x (by omega)), P9_fr p9 (fun x q => e x (by omega)), P10_fr p10 (fun x q => e x (by omega)), P11_fr p11 (fun x q => e x (by omega))⟩
    simp (disch := omega) only [b130_0, b130_1, b130_4, b130_5, b130_6, b130_7, b130_10, b130_13, b130_14, b130_15, b130_18, b130_19, b130_22, b130_23, List.getElem?_cons_zero, List.getElem?_cons_succ, List.length_cons, List.length_nil, List.set_cons_zero, List.set_cons_succ, true_and, and_true, Option.toList_some, Option.toList_none, List.cons_append, List.nil_append, ↓reduceIte, not_false_eq_true, not_true_eq_false, Nat.reduceAdd, xj0_01, xj1_01, xb_B, xb_True, xb_False, ↓gpn_7 p0, ↓gk_3 p5.1, ↓pf, ↓xj_in, xj_nat, Int.toNat_natCast, xj_lt_t, xj_lt_f, xj_le_t, xj_le_f, xj_eq_t, xj_eq_f, xj_lt, xj_le, xj_eq, xj_add, xj_sub, xj_mul, show ¬ xj 1 = xj 0 from by decide]
    exact po
  · have po := hno (by omega)
    simp (disch := omega) only [b130_0, b130_1, b130_4, b130_5, List.getElem?_cons_zero, List.getElem?_cons_succ, List.length_cons, List.length_nil, List.set_cons_zero, List.set_cons_succ, true_and, and_true, Option.toList_some, Option.toList_none, List.cons_append, List.nil_append, ↓reduceIte, not_false_eq_true, not_true_eq_false, Nat.reduceAdd, xj0_01, xj1_01, xb_B, xb_True, xb_False, ↓xj_in, xj_nat, Int.toNat_natCast, xj_lt_t, xj_lt_f, xj_le_t, xj_le_f, xj_eq_t, xj_eq_f, xj_lt, xj_le, xj_eq, xj_add, xj_sub, xj_mul, show ¬ xj 1 = xj 0 from by decide]
    exact po
theorem p_log (hD : 3 ≤ D) (h : xv_Pen f a n nr T ru S H im I) (hw : xw_Dk S) (z1 : -2147483648 ≤ z) (z2 : z ≤ 2147483647) (x1 : -2147483648 ≤ x) (x2 : x ≤ 2147483647) (y1 : -2147483648 ≤ y) (y2 : y ≤ 2147483647) (hclr : z = -1 → ∀ f', (∀ x, (x < a ∨ a + 204 ≤ x) → f' x = f x) → xv_Pen f' a n nr T ru (S.1, S.2.1, (0, S.2.2.1.2), S.2.2.2) H im I → K (some (.int (xj 0))) (f', w)) (hno : z ≠ -1 → ¬ (mayF S.1 z x y = true ∧ S.2.2.1.1 < 10) → K (some (.int (xj (-2)))) (f, w)) (hyes : z ≠ -1 → mayF S.1 z x y = true → S.2.2.1.1 < 10 → ∀ f', (∀ x, (x < a ∨ a + 204 ≤ x) → f' x = f x) → xv_Pen f' a n nr T ru (S.1, S.2.1, addL S.2.2.1 z x y, S.2.2.2) H im I → K (some (.int (xj (S.2.2.1.1 + 1 : Nat)))) (f', w)) : xk_Cl D 127 [.ref a, .int (xj z), .int (xj x), .int (xj y)] (f, w) K := by
  rw [e127 (by omega)]
  obtain ⟨w1, w2, w3, w4, w5, w6, w7, w8⟩ := hw
  have w50 := w5.1
  obtain ⟨p0, p1, p2, p3, p4, p5, p6, p7, p8, p9, p10, p11⟩ := h
  have p5 : xv_Dk f (a + 22) S := p5
  have hl := p5.2.2.2
  by_cases c : z = -1
  · have cl := fun K' => s_clearL (D := D - 1) (w := w) (K := K') (by omega) hl
    have e : ∀ x, (x < a + 22 + 13 ∨ a + 22 + 17 ≤ x) → xs f (a + 22 + 13) (xc_Lg (a + 22 + 13) (0, S.2.2.1.2)) x = f x := fun x hx => xs_ne (by show x < a + 22 + 13 ∨ a + 22 + 13 + 4 ≤ x; omega)
    have v5 : xv_Dk (xs f (a + 22 + 13) (xc_Lg (a + 22 + 13) (0, S.2.2.1.2))) (a + 22) (S.1, S.2.1, (0, S.2.2.1.2), S.2.2.2) := ⟨(e _ (by omega)).trans p5.1, xv_Off_fr p5.2.1 (fun x h1 h2 => e x (by omega)), xv_Day_fr p5.2.2.1 (fun x h1 h2 => e x (by omega)), xv_Lg_xs⟩
    have po := hclr c _ (fun x hx => e x (by omega)) ⟨P0_fr p0 (fun x q => e x (by omega)), P1_fr p1 (fun x q => e x (by omega)), P2_fr p2 (fun x q => e x (by omega)), P3_fr p3 (fun x q => e x (by omega)), P4_fr p4 (fun x q => e x (by omega)), v5, P6_fr p6 (fun x q => e x (by omega)), P7_fr p7 (fun x q => e x (by omega)), P8_fr p8 (fun x q => e x (by omega)), P9_fr p9 (fun x q => e x (by omega)), P10_fr p10 (fun x q => e x (by omega)), P11_fr p11 (fun x q => e x (by omega))⟩
    subst c
    simp (disch := omega) only [b127_0, b127_1, b127_4, b127_7, b127_9, b127_10, b127_11, b127_14, b127_16, b127_19, b127_20, List.getElem?_cons_zero, List.getElem?_cons_succ, List.length_cons, List.length_nil, List.set_cons_zero, List.set_cons_succ, true_and, and_true, Option.toList_some, Option.toList_none, List.cons_append, List.nil_append, ↓reduceIte, not_false_eq_true, not_true_eq_false, Nat.reduceAdd, xj0_01, xj1_01, xb_B, xb_True, xb_False, ↓gpn_7 p0, ↓gk_2 p5.1, rc_R hl.1, cl, ↓xj_in, xj_nat, Int.toNat_natCast, xj_lt_t, xj_lt_f, xj_le_t, xj_le_f, xj_eq_t, xj_eq_f, xj_lt, xj_le, xj_eq, xj_add, xj_sub, xj_mul, show ¬ xj 1 = xj 0 from by decide]
    exact po
  · have mb := fun K' => s_mayBe (D := D - 1) (w := w) (K := K') (a := a + 22 + 13) (by omega) p5.2.1 w1 z1 z2 x1 x2 y1 y2
    by_cases c1 : mayF S.1 z x y = true
    · have xw : ∀ i, @xb (mayF S.1 z x y = true) i = xj 1 := fun i => xb_T c1
      by_cases c2 : S.2.2.1.1 < 10
      · have ad := fun K' => s_addL (D := D - 1) (w := w) (K := K') (z := z) (x := x) (y := y) (by omega) hl c2
        have e : ∀ i, (i < a + 22 + 13 ∨ a + 22 + 17 ≤ i) → xs f (a + 22 + 13) (xc_Lg (a + 22 + 13) (addL S.2.2.1 z x y)) i = f i := fun i hx => xs_ne (by show i < a + 22 + 13 ∨ a + 22 + 13 + 4 ≤ i; omega)
        have l6 : xv_Lg (xs f (a + 22 + 13) (xc_Lg (a + 22 + 13) (addL S.2.2.1 z x y))) (a + 22 + 13) (addL S.2.2.1 z x y) := xv_Lg_xs
        have v5 : xv_Dk (xs f (a + 22 + 13) (xc_Lg (a + 22 + 13) (addL S.2.2.1 z x y))) (a + 22) (S.1, S.2.1, addL S.2.2.1 z x y, S.2.2.2) := ⟨(e _ (by omega)).trans p5.1, xv_Off_fr p5.2.1 (fun x h1 h2 => e x (by omega)), xv_Day_fr p5.2.2.1 (fun x h1 h2 => e x (by omega)), l6⟩
        have po := hyes c c1 c2 _ (fun x hx => e x (by omega)) ⟨P0_fr p0 (fun x q => e x (by omega)), P1_fr p1 (fun x q => e x (by omega)), P2_fr p2 (fun x q => e x (by omega)), P3_fr p3 (fun x q => e x (by omega)), P4_fr p4 (fun x q => e x (by omega)), v5, P6_fr p6 (fun x q => e x (by omega)), P7_fr p7 (fun x q => e x (by omega)), P8_fr p8 (fun x q => e x (by omega)), P9_fr p9 (fun x q => e x (by omega)), P10_fr p10 (fun x q => e x (by omega)), P11_fr p11 (fun x q => e x (by omega))⟩
        have gl : ∀ V, xk_GF (xs f (a + 22 + 13) (xc_Lg (a + 22 + 13) (addL S.2.2.1 z x y))) (a + 22 + 13) 3 0 V ↔ V (.int (xj (S.2.2.1.1 + 1 : Nat))) := fun V => gf_R l6.1 rfl
        simp (disch := omega) only [b127_0, b127_1, b127_4, b127_7, b127_9, b127_10, b127_11, b127_21, b127_23, b127_24, b127_25, b127_26, b127_27, b127_30, b127_33, b127_36, b127_39, b127_41, b127_42, b127_43, b127_44, b127_47, b127_50, b127_52, b127_53, b127_55, b127_58, List.getElem?_cons_zero, List.getElem?_cons_succ, List.length_cons, List.length_nil, List.set_cons_zero, List.set_cons_succ, true_and, and_true, Option.toList_some, Option.toList_none, List.cons_append, List.nil_append, ↓reduceIte, not_false_eq_true, not_true_eq_false, Nat.reduceAdd, xj0_01, xj1_01, xb_B, xb_True, xb_False, ↓gpn_7 p0, ↓gk_0 p5.1, ↓gk_2 p5.1, rc_R hl.1, mb, xw, ad, ↓gl, ↓xj_in, xj_nat, Int.toNat_natCast, xj_lt_t, xj_lt_f, xj_le_t, xj_le_f, xj_eq_t, xj_eq_f, xj_lt, xj_le, xj_eq, xj_add, xj_sub, xj_mul, show ¬ xj 1 = xj 0 from by decide]
        exact po
      · have ad := fun K' => s_addL_no (D := D - 1) (w := w) (K := K') (z := z) (x := x) (y := y) (by omega) hl (by omega)
        have po := hno c (fun q => c2 q.2)
        simp (disch := omega) only [b127_0, b127_1, b127_4, b127_7, b127_9, b127_10, b127_11, b127_21, b127_23, b127_24, b127_25, b127_26, b127_27, b127_30, b127_33, b127_36, b127_39, b127_41, b127_42, b127_43, b127_44, b127_47, b127_50, b127_52, List.getElem?_cons_zero, List.getElem?_cons_succ, List.length_cons, List.length_nil, List.set_cons_zero, List.set_cons_succ, true_and, and_true, Option.toList_some, Option.toList_none, List.cons_append, List.nil_append, ↓reduceIte, not_false_eq_true, not_true_eq_false, Nat.reduceAdd, xj0_01, xj1_01, xb_B, xb_True, xb_False, ↓gpn_7 p0, ↓gk_0 p5.1, ↓gk_2 p5.1, rc_R hl.1, mb, xw, ad, ↓xj_in, xj_nat, Int.toNat_natCast, xj_lt_t, xj_lt_f, xj_le_t, xj_le_f, xj_eq_t, xj_eq_f, xj_lt, xj_le, xj_eq, xj_add, xj_sub, xj_mul, show ¬ xj 1 = xj 0 from by decide]
        exact po
    · have xw : ∀ i, @xb (mayF S.1 z x y = true) i = xj 0 := fun i => xb_F c1
      have po := hno c (fun q => c1 q.1)
      simp (disch := omega) only [b127_0, b127_1, b127_4, b127_7, b127_9, b127_10, b127_11, b127_21, b127_23, b127_24, b127_25, b127_26, b127_27, b127_30, b127_33, b127_36, b127_39, b127_41, b127_42, b127_43, b127_44, b127_47, b127_50, b127_52, List.getElem?_cons_zero, List.getElem?_cons_succ, List.length_cons, List.length_nil, List.set_cons_zero, List.set_cons_succ, true_and, and_true, Option.toList_some, Option.toList_none, List.cons_append, List.nil_append, ↓reduceIte, not_false_eq_true, not_true_eq_false, Nat.reduceAdd, xj0_01, xj1_01, xb_B, xb_True, xb_False, ↓gpn_7 p0, ↓gk_0 p5.1, ↓gk_2 p5.1, rc_R hl.1, mb, xw, ↓xj_in, xj_nat, Int.toNat_natCast, xj_lt_t, xj_lt_f, xj_le_t, xj_le_f, xj_eq_t, xj_eq_f, xj_lt, xj_le, xj_eq, xj_add, xj_sub, xj_mul, show ¬ xj 1 = xj 0 from by decide]
      exact po
theorem ln_2 {m : Nat} (h : f r = .inl (2, m, .inl (fun i => xj (g i)))) : xk_LN f r F ↔ F (xj (m : Nat)) := by
  unfold xk_LN
  rw [h]
  show (2 < 7 ∧ F (Int32.ofNat m)) ↔ _
  rw [xj_ofNat]
  exact ⟨fun q => q.2, fun q => ⟨by decide, q⟩⟩
theorem al_2 {m : Nat} (h : f r = .inl (2, m, .inl (fun i => xj (g i)))) (hk : k < m) (hm : m ≤ 1000) : (xk_AL f r 1 (xj (k : Nat)) F ∨ xk_AL f r 2 (xj (k : Nat)) F) ↔ F (xj (g k)) := by
  have e : (xj (k : Nat)).toNatClampNeg = k := by rw [xj_nat (by omega) (by omega), Int.toNat_natCast]
  unfold xk_AL
  rw [h]
  show ((2 = 1 ∧ ¬ (xj (k : Nat) < 0 ∨ m ≤ (xj (k : Nat)).toNatClampNeg) ∧ F (xj (g (xj (k : Nat)).toNatClampNeg))) ∨ (2 = 2 ∧ ¬ (xj (k : Nat) < 0 ∨ m ≤ (xj (k : Nat)).toNatClampNeg) ∧ F (xj (g (xj (k : Nat)).toNatClampNeg)))) ↔ _
  have hin := (xj_in (z := (k : Nat)) (n := m) (by omega) (by omega) (by omega)).mpr trivial
  constructor
  · rintro (q | q)
    · exact absurd q.1 (by decide)
    · rw [e] at q; exact q.2.2
  · intro q
    exact Or.inr ⟨rfl, hin, by rw [e]; exact q⟩
theorem as_2 {m : Nat} (h : f r = .inl (2, m, .inl (fun i => xj (g i)))) (hk : k < m) (hm : m ≤ 1000) : xk_ASB f r (xj (k : Nat)) (xj 1) G ↔ G (va_up f r (.inl (2, m, .inl (fun i => xj (upI g k 1 i))))) := by
  have e : (xj (k : Nat)).toNatClampNeg = k := by rw [xj_nat (by omega) (by omega), Int.toNat_natCast]
  unfold xk_ASB
  rw [h]
  show ((2 = 1 ∨ 2 = 2) ∧ ¬ (xj (k : Nat) < 0 ∨ m ≤ (xj (k : Nat)).toNatClampNeg) ∧ G (va_up f r (.inl (2, m, .inl (va_up (fun i => xj (g i)) (xj (k : Nat)).toNatClampNeg (if 2 = 1 then (xj 1).toInt8.toInt32 else xj 1 &&& 1)))))) ↔ _
  have hin := (xj_in (z := (k : Nat)) (n := m) (by omega) (by omega) (by omega)).mpr trivial
  have e1 : (if 2 = 1 then (xj 1).toInt8.toInt32 else xj 1 &&& 1) = xj 1 := by decide
  rw [e1, e, up_at]
  rw [e] at hin
  exact ⟨fun q => q.2.2, fun q => ⟨Or.inr rfl, hin, q⟩⟩
theorem p_image (hD : 4 ≤ D) (h : xv_Pen f a n nr T ru S H im I) (hw : xw_Dk S) (hI : ∀ k, k < 4 → xw_Dk (I k)) (z1 : -2147483648 ≤ z) (z2 : z ≤ 2147483647) (hno : ¬ (0 ≤ z ∧ z ≤ 3) → K (some (.int (xj (-1)))) (f, w)) (hyes : ∀ k : Nat, z = k → k < 4 → ∀ f', (∀ x, (x < a ∨ a + 204 ≤ x) → f' x = f x) → xv_Pen f' a n nr T ru S H (upI im k 1) (fun j => if j = k then S else I j) → K (some (.int (xj S.2.1.1))) (f', w)) : xk_Cl D 133 [.ref a, .int (xj z)] (f, w) K := by
  rw [e133 (by omega)]
  obtain ⟨p0, p1, p2, p3, p4, p5, p6, p7, p8, p9, p10, p11⟩ := h
  have p5 : xv_Dk f (a + 22) S := p5
  obtain ⟨i1, i2, i3⟩ := p6
  have l5 : ∀ F, xk_LN f (a + 39) F ↔ F (xj (4 : Nat)) := fun F => ln_4 i1 (by decide)
  have l2 : ∀ F, xk_LN f (a + 40) F ↔ F (xj (4 : Nat)) := fun F => ln_2 i2
  by_cases c1 : 0 ≤ z
  · by_cases c2 : z ≤ 3
    · obtain ⟨k, rfl⟩ : ∃ k : Nat, z = k := ⟨z.toNat, by omega⟩
      have hk : k < 4 := by omega
      have a5 : ∀ V, xk_ALQ f (a + 39) (xj (k : Nat)) V ↔ V (.ref (a + 136 + 17 * k)) := fun V => al_4 i1 (Or.inr (Or.inl rfl)) hk (by decide) (if_pos hk)
      have cd := fun K' => s_copyDk (D := D - 1) (w := w) (K := K') (by omega) (i3 k hk) p5 (hI k hk) hw (by omega)
      have e1 : ∀ x, (x < a + 136 + 17 * k ∨ a + 136 + 17 * k + 17 ≤ x) → xs_Dk f (a + 136 + 17 * k) S x = f x := fun x hx => xs_Dk_ne hx
      have v1 := xv_Dk_xs f (a + 136 + 17 * k) S
      simp (disch := omega) only [b133_0, b133_1, b133_4, b133_5, b133_6, b133_9, b133_10, b133_13, b133_14, b133_15, b133_18, b133_19, b133_22, b133_23, b133_24, b133_25, b133_28, b133_29, b133_30, b133_31, List.getElem?_cons_zero, List.getElem?_cons_succ, List.length_cons, List.length_nil, List.set_cons_zero, List.set_cons_succ, true_and, and_true, Option.toList_some, Option.toList_none, List.cons_append, List.nil_append, ↓reduceIte, not_false_eq_true, not_true_eq_false, Nat.reduceAdd, xj0_01, xj1_01, xb_B, xb_True, xb_False, ↓gpn_7 p0, ↓gpn_8 p0, ↓gpn_9 p0, ↓l5, ↓l2, ↓a5, ↓xj_in, xj_nat, Int.toNat_natCast, xj_lt_t, xj_lt_f, xj_le_t, xj_le_f, xj_eq_t, xj_eq_f, xj_lt, xj_le, xj_eq, xj_add, xj_sub, xj_mul, show ¬ xj 1 = xj 0 from by decide]
      rw [b133_34, rc_R (i3 k hk).1, true_and, cd]
      generalize xs_Dk f (a + 136 + 17 * k) S = f1 at *
      have q0 : P0 f1 a n nr T := P0_fr p0 (fun x q => e1 x (by omega))
      have i2' : f1 (a + 40) = .inl (2, 4, .inl (fun i => xj (im i))) := (e1 _ (by omega)).trans i2
      have s2 : ∀ G, xk_ASB f1 (a + 40) (xj (k : Nat)) (xj 1) G ↔ _ := fun G => as_2 i2' hk (by decide)
      have e2 : ∀ x, x ≠ a + 40 → va_up f1 (a + 40) (.inl (2, 4, .inl (fun i => xj (upI im k 1 i)))) x = f1 x := fun x hx => up_ne hx
      have e3 : ∀ x, (x < a + 40 ∨ (a + 40 < x ∧ x < a + 136) ∨ a + 204 ≤ x) → va_up f1 (a + 40) (.inl (2, 4, .inl (fun i => xj (upI im k 1 i)))) x = f x := fun x hx => by rw [e2 x (by omega), e1 x (by omega)]
      have v6 : P6 (va_up f1 (a + 40) (.inl (2, 4, .inl (fun i => xj (upI im k 1 i))))) a (upI im k 1) (fun j => if j = k then S else I j) := by
        refine ⟨(e3 _ (by omega)).trans i1, up_s _ _ _, fun j hj => ?_⟩
        by_cases cj : j = k
        · subst cj
          show xv_Dk _ _ (if j = j then S else I j)
          rw [if_pos rfl]
          exact xv_Dk_fr v1 (fun x h1 h2 => e2 x (by omega))
        · show xv_Dk _ _ (if j = k then S else I j)
          rw [if_neg cj]
          exact xv_Dk_fr (i3 j hj) (fun x h1 h2 => by rw [e2 x (by omega), e1 x (by omega)])
      have h6 : xv_Pen (va_up f1 (a + 40) (.inl (2, 4, .inl (fun i => xj (upI im k 1 i))))) a n nr T ru S H (upI im k 1) (fun j => if j = k then S else I j) := ⟨P0_fr p0 (fun x q => e3 x (by omega)), P1_fr p1 (fun x q => e3 x (by omega)), P2_fr p2 (fun x q => e3 x (by omega)), P3_fr p3 (fun x q => e3 x (by omega)), P4_fr p4 (fun x q => e3 x (by omega)), P5_fr p5 (fun x q => e3 x (by omega)), v6, P7_fr p7 (fun x q => e3 x (by omega)), P8_fr p8 (fun x q => e3 x (by omega)), P9_fr p9 (fun x q => e3 x (by omega)), P10_fr p10 (fun x q => e3 x (by omega)), P11_fr p11 (fun x q => e3 x (by omega))⟩
      have po := hyes k rfl hk _ (fun x hx => e3 x (by omega)) h6
      have r0 := h6.1
      have r5 : xv_Dk _ (a + 22) S := h6.2.2.2.2.2.1
      simp (disch := omega) only [b133_37, b133_38, b133_41, b133_42, b133_43, List.getElem?_cons_zero, List.getElem?_cons_succ, List.length_cons, List.length_nil, List.set_cons_zero, List.set_cons_succ, true_and, and_true, Option.toList_some, Option.toList_none, List.cons_append, List.nil_append, ↓reduceIte, not_false_eq_true, not_true_eq_false, Nat.reduceAdd, xj0_01, xj1_01, xb_B, xb_True, xb_False, ↓gpn_9 q0, ↓s2]
      simp (disch := omega) only [b133_44, b133_45, b133_48, b133_51, b133_54, List.getElem?_cons_zero, List.getElem?_cons_succ, List.length_cons, List.length_nil, List.set_cons_zero, List.set_cons_succ, true_and, and_true, Option.toList_some, Option.toList_none, List.cons_append, List.nil_append, ↓reduceIte, not_false_eq_true, not_true_eq_false, Nat.reduceAdd, xj0_01, xj1_01, xb_B, xb_True, xb_False, ↓gpn_7 r0, ↓gk_1 r5.1, ↓gv_0 r5.2.2.1]
      exact po
    · have po := hno (fun q => c2 q.2)
      simp (disch := omega) only [b133_0, b133_1, b133_4, b133_5, b133_6, b133_9, b133_10, b133_13, b133_14, b133_15, b133_18, b133_19, b133_22, b133_23, List.getElem?_cons_zero, List.getElem?_cons_succ, List.length_cons, List.length_nil, List.set_cons_zero, List.set_cons_succ, true_and, and_true, Option.toList_some, Option.toList_none, List.cons_append, List.nil_append, ↓reduceIte, not_false_eq_true, not_true_eq_false, Nat.reduceAdd, xj0_01, xj1_01, xb_B, xb_True, xb_False, ↓gpn_8 p0, ↓gpn_9 p0, ↓l5, ↓l2, ↓xj_in, xj_nat, Int.toNat_natCast, xj_lt_t, xj_lt_f, xj_le_t, xj_le_f, xj_eq_t, xj_eq_f, xj_lt, xj_le, xj_eq, xj_add, xj_sub, xj_mul, show ¬ xj 1 = xj 0 from by decide]
      exact po
  · have po := hno (fun q => c1 q.1)
    simp (disch := omega) only [b133_0, b133_1, b133_4, b133_5, b133_6, b133_9, b133_10, b133_13, b133_14, b133_15, b133_18, b133_19, b133_22, b133_23, List.getElem?_cons_zero, List.getElem?_cons_succ, List.length_cons, List.length_nil, List.set_cons_zero, List.set_cons_succ, true_and, and_true, Option.toList_some, Option.toList_none, List.cons_append, List.nil_append, ↓reduceIte, not_false_eq_true, not_true_eq_false, Nat.reduceAdd, xj0_01, xj1_01, xb_B, xb_True, xb_False, ↓xj_in, xj_nat, Int.toNat_natCast, xj_lt_t, xj_lt_f, xj_le_t, xj_le_f, xj_eq_t, xj_eq_f, xj_lt, xj_le, xj_eq, xj_add, xj_sub, xj_mul, show ¬ xj 1 = xj 0 from by decide]
    exact po
theorem p_back (hD : 4 ≤ D) (h : xv_Pen f a n nr T ru S H im I) (hw : xw_Dk S) (hI : ∀ k, k < 4 → xw_Dk (I k)) (him : ∀ k, k < 4 → im k = 0 ∨ im k = 1) (z1 : -2147483648 ≤ z) (z2 : z ≤ 2147483647) (hno : ¬ ((0 ≤ z ∧ z ≤ 3) ∧ im z.toNat = 1) → K (some (.int (xj (-1)))) (f, w)) (hyes : ∀ k : Nat, z = k → k < 4 → im k = 1 → ∀ f', (∀ x, (x < a ∨ a + 204 ≤ x) → f' x = f x) → xv_Pen f' a n nr T ru (I k) (H.1, 0, H.2.2) im I → K (some (.int (xj (I k).2.1.1))) (f', w)) : xk_Cl D 134 [.ref a, .int (xj z)] (f, w) K := by
  rw [e134 (by omega)]
  obtain ⟨p0, p1, p2, p3, p4, p5, p6, p7, p8, p9, p10, p11⟩ := h
  have p5 : xv_Dk f (a + 22) S := p5
  have p7 : xv_Hi f (a + 41) H := p7
  have i1 := p6.1
  have i2 := p6.2.1
  have i3 := p6.2.2
  have l5 : ∀ F, xk_LN f (a + 39) F ↔ F (xj (4 : Nat)) := fun F => ln_4 i1 (by decide)
  have l2 : ∀ F, xk_LN f (a + 40) F ↔ F (xj (4 : Nat)) := fun F => ln_2 i2
  by_cases c1 : 0 ≤ z
  · by_cases c2 : z ≤ 3
    · obtain ⟨k, rfl⟩ : ∃ k : Nat, z = k := ⟨z.toNat, by omega⟩
      have hk : k < 4 := by omega
      rw [Int.toNat_natCast] at hno
      have a5 : ∀ V, xk_ALQ f (a + 39) (xj (k : Nat)) V ↔ V (.ref (a + 136 + 17 * k)) := fun V => al_4 i1 (Or.inr (Or.inl rfl)) hk (by decide) (if_pos hk)
      have b2 : ∀ F, (xk_AL f (a + 40) 1 (xj (k : Nat)) F ∨ xk_AL f (a + 40) 2 (xj (k : Nat)) F) ↔ F (xj (im k)) := fun F => al_2 i2 hk (by decide)
      rcases him k hk with c3 | c3
      · have po := hno (fun q => by rw [c3] at q; exact absurd q.2 (by decide))
        simp (disch := omega) only [b134_0, b134_1, b134_4, b134_5, b134_6, b134_9, b134_10, b134_13, b134_14, b134_15, b134_18, b134_19, b134_22, b134_23, b134_26, b134_27, b134_28, b134_31, b134_32, List.getElem?_cons_zero, List.getElem?_cons_succ, List.length_cons, List.length_nil, List.set_cons_zero, List.set_cons_succ, true_and, and_true, Option.toList_some, Option.toList_none, List.cons_append, List.nil_append, ↓reduceIte, not_false_eq_true, not_true_eq_false, Nat.reduceAdd, xj0_01, xj1_01, xb_B, xb_True, xb_False, ↓gpn_8 p0, ↓gpn_9 p0, ↓l5, ↓l2, ↓b2, c3, ↓xj_in, xj_nat, Int.toNat_natCast, xj_lt_t, xj_lt_f, xj_le_t, xj_le_f, xj_eq_t, xj_eq_f, xj_lt, xj_le, xj_eq, xj_add, xj_sub, xj_mul, show ¬ xj 1 = xj 0 from by decide]
        exact po
      · have cd := fun K' => s_copyDk (D := D - 1) (w := w) (K := K') (by omega) p5 (i3 k hk) hw (hI k hk) (by omega)
        have e1 : ∀ x, (x < a + 22 ∨ a + 22 + 17 ≤ x) → xs_Dk f (a + 22) (I k) x = f x := fun x hx => xs_Dk_ne hx
        have v1 := xv_Dk_xs f (a + 22) (I k)
        simp (disch := omega) only [b134_0, b134_1, b134_4, b134_5, b134_6, b134_9, b134_10, b134_13, b134_14, b134_15, b134_18, b134_19, b134_22, b134_23, b134_26, b134_27, b134_28, b134_31, b134_32, b134_33, b134_34, b134_37, b134_38, b134_41, b134_42, List.getElem?_cons_zero, List.getElem?_cons_succ, List.length_cons, List.length_nil, List.set_cons_zero, List.set_cons_succ, true_and, and_true, Option.toList_some, Option.toList_none, List.cons_append, List.nil_append, ↓reduceIte, not_false_eq_true, not_true_eq_false, Nat.reduceAdd, xj0_01, xj1_01, xb_B, xb_True, xb_False, ↓gpn_7 p0, ↓gpn_8 p0, ↓gpn_9 p0, ↓l5, ↓l2, ↓b2, c3, ↓a5, ↓xj_in, xj_nat, Int.toNat_natCast, xj_lt_t, xj_lt_f, xj_le_t, xj_le_f, xj_eq_t, xj_eq_f, xj_lt, xj_le, xj_eq, xj_add, xj_sub, xj_mul, show ¬ xj 1 = xj 0 from by decide]
        rw [b134_43, rc_R p5.1, true_and, cd]
        generalize xs_Dk f (a + 22) (I k) = f1 at *
        have q0 : P0 f1 a n nr T := P0_fr p0 (fun x q => e1 x (by omega))
        have h6 : xv_Hi f1 (a + 41) H := xv_Hi_fr p7 (fun x h1 h2 => e1 x (by omega))
        have hc := fun K' => s_Hclear (D := D - 1) (w := w) (K := K') (by omega) h6
        simp (disch := omega) only [b134_46, b134_47, List.getElem?_cons_zero, List.getElem?_cons_succ, List.length_cons, List.length_nil, List.set_cons_zero, List.set_cons_succ, true_and, and_true, Option.toList_some, Option.toList_none, List.cons_append, List.nil_append, ↓reduceIte, not_false_eq_true, not_true_eq_false, Nat.reduceAdd, xj0_01, xj1_01, xb_B, xb_True, xb_False, ↓gpn_10 q0]
        rw [b134_50, rc_R h6.1, true_and, hc]
        have e7 : ∀ x, x ≠ a + 41 → va_up f1 (a + 41) (xh_c (a + 41) H.1 0) x = f1 x := fun x hx => up_ne hx
        have h7 : xv_Hi (va_up f1 (a + 41) (xh_c (a + 41) H.1 0)) (a + 41) (H.1, 0, H.2.2) := ⟨up_s _ _ _, (e7 _ (by omega)).trans h6.2.1, fun j hj => xv_Day_fr (h6.2.2 j hj) (fun x h1 h2 => e7 x (by omega))⟩
        generalize va_up f1 (a + 41) (xh_c (a + 41) H.1 0) = f2 at *
        have v5 : xv_Dk f2 (a + 22) (I k) := xv_Dk_fr v1 (fun x h1 h2 => e7 x (by omega))
        have ea : ∀ x, (x < a + 22 ∨ (a + 39 ≤ x ∧ x < a + 41) ∨ a + 83 ≤ x) → f2 x = f x := fun x hx => by rw [e7 x (by omega), e1 x (by omega)]
        have hN : xv_Pen f2 a n nr T ru (I k) (H.1, 0, H.2.2) im I := ⟨P0_fr p0 (fun x q => ea x (by omega)), P1_fr p1 (fun x q => ea x (by omega)), P2_fr p2 (fun x q => ea x (by omega)), P3_fr p3 (fun x q => ea x (by omega)), P4_fr p4 (fun x q => ea x (by omega)), v5, P6_fr p6 (fun x q => ea x (by omega)), h7, P8_fr p8 (fun x q => ea x (by omega)), P9_fr p9 (fun x q => ea x (by omega)), P10_fr p10 (fun x q => ea x (by omega)), P11_fr p11 (fun x q => ea x (by omega))⟩
        have po := hyes k rfl hk c3 f2 (fun x hx => ea x (by omega)) hN
        have r0 := hN.1
        simp (disch := omega) only [b134_53, b134_54, b134_57, b134_60, b134_63, List.getElem?_cons_zero, List.getElem?_cons_succ, List.length_cons, List.length_nil, List.set_cons_zero, List.set_cons_succ, true_and, and_true, Option.toList_some, Option.toList_none, List.cons_append, List.nil_append, ↓reduceIte, not_false_eq_true, not_true_eq_false, Nat.reduceAdd, xj0_01, xj1_01, xb_B, xb_True, xb_False, ↓gpn_7 r0, ↓gk_1 v5.1, ↓gv_0 v5.2.2.1]
        exact po
    · have po := hno (fun q => c2 q.1.2)
      simp (disch := omega) only [b134_0, b134_1, b134_4, b134_5, b134_6, b134_9, b134_10, b134_13, b134_14, b134_15, b134_18, b134_19, b134_22, b134_23, b134_26, b134_27, b134_28, b134_31, b134_32, List.getElem?_cons_zero, List.getElem?_cons_succ, List.length_cons, List.length_nil, List.set_cons_zero, List.set_cons_succ, true_and, and_true, Option.toList_some, Option.toList_none, List.cons_append, List.nil_append, ↓reduceIte, not_false_eq_true, not_true_eq_false, Nat.reduceAdd, xj0_01, xj1_01, xb_B, xb_True, xb_False, ↓gpn_8 p0, ↓gpn_9 p0, ↓l5, ↓l2, ↓xj_in, xj_nat, Int.toNat_natCast, xj_lt_t, xj_lt_f, xj_le_t, xj_le_f, xj_eq_t, xj_eq_f, xj_lt, xj_le, xj_eq, xj_add, xj_sub, xj_mul, show ¬ xj 1 = xj 0 from by decide]
      exact po
  · have po := hno (fun q => c1 q.1.1)
    simp (disch := omega) only [b134_0, b134_1, b134_4, b134_5, b134_6, b134_9, b134_10, b134_13, b134_14, b134_15, b134_18, b134_19, b134_22, b134_23, b134_26, b134_27, b134_28, b134_31, b134_32, List.getElem?_cons_zero, List.getElem?_cons_succ, List.length_cons, List.length_nil, List.set_cons_zero, List.set_cons_succ, true_and, and_true, Option.toList_some, Option.toList_none, List.cons_append, List.nil_append, ↓reduceIte, not_false_eq_true, not_true_eq_false, Nat.reduceAdd, xj0_01, xj1_01, xb_B, xb_True, xb_False, ↓xj_in, xj_nat, Int.toNat_natCast, xj_lt_t, xj_lt_f, xj_le_t, xj_le_f, xj_eq_t, xj_eq_f, xj_lt, xj_le, xj_eq, xj_add, xj_sub, xj_mul, show ¬ xj 1 = xj 0 from by decide]
    exact po
end XS9b04
