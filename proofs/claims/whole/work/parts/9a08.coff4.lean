/-! the class reads an office to its end -/
section XS9a08
variable {D a b o k p q n r t c v fa s : Nat} {f : Nat → xk_C} {w : Nat × Nat × Nat} {K : Option Value → xk_S → Prop} {x y z lo hi : Int} {T : Nat → Int} {O : Of} {A : Nat → Int} {F : (Nat → xk_C) → Prop}
theorem po_4z : xk_PF (xs f o (xl_Off o O)) o 4 4 (.int (xj 0)) F ↔ F (xs f o (xl_Off o ((O.1.1, O.1.2.1, O.1.2.2.1, O.1.2.2.2), (0, O.2.1.2.1, O.2.1.2.2), O.2.2.1, O.2.2.2.1, O.2.2.2.2.1, O.2.2.2.2.2.1, O.2.2.2.2.2.2.1, O.2.2.2.2.2.2.2.1, O.2.2.2.2.2.2.2.2.1, O.2.2.2.2.2.2.2.2.2.1, O.2.2.2.2.2.2.2.2.2.2))) := po_4 (k := 0)
theorem po_5z : xk_PF (xs f o (xl_Off o O)) o 4 5 (.int (xj 0)) F ↔ F (xs f o (xl_Off o ((O.1.1, O.1.2.1, O.1.2.2.1, O.1.2.2.2), (O.2.1.1, 0, O.2.1.2.2), O.2.2.1, O.2.2.2.1, O.2.2.2.2.1, O.2.2.2.2.2.1, O.2.2.2.2.2.2.1, O.2.2.2.2.2.2.2.1, O.2.2.2.2.2.2.2.2.1, O.2.2.2.2.2.2.2.2.2.1, O.2.2.2.2.2.2.2.2.2.2))) := po_5 (k := 0)
theorem po_6z : xk_PF (xs f o (xl_Off o O)) o 4 6 (.int (xj 0)) F ↔ F (xs f o (xl_Off o ((O.1.1, O.1.2.1, O.1.2.2.1, O.1.2.2.2), (O.2.1.1, O.2.1.2.1, 0), O.2.2.1, O.2.2.2.1, O.2.2.2.2.1, O.2.2.2.2.2.1, O.2.2.2.2.2.2.1, O.2.2.2.2.2.2.2.1, O.2.2.2.2.2.2.2.2.1, O.2.2.2.2.2.2.2.2.2.1, O.2.2.2.2.2.2.2.2.2.2))) := po_6 (k := 0)
theorem c_oL {f0 : Nat → xk_C} (hD : 8 ≤ D) (hot : t + 4 ≤ o ∨ o + 10 ≤ t) : ∀ (fu k p : Nat) (A : Nat → Int) (O : Of) (f : Nat → xk_C), k + fu = 41 → k ≤ 40 → (k = 0 → A 0 = 0) → (k ≠ 0 → 0 < A 0) → xT f t T n p 0 → xv_Off f o O → xz_Off O → drR A O → zW A → frO2 o t f0 f → (∀ f' p' fa' O', frO2 o t f0 f' → xT f' t T n p' fa' → xv_Off f' o O' → xz_Off O' → (fa' = 0 → ∃ A', gOf T n fu k p A = .inr A' ∧ drR A' O' ∧ zW A' ∧ 0 < A' 0) → (fa' ≠ 0 → gOf T n fu k p A = .inl fa') → K none (f', w)) → xk_B (D - 1) 29 22 [.ref o, .ref t, .int (xj (k : Nat))] [] (f, w) K := by
  intro fu
  induction fu with
  | zero => intro k p A O f h1 h2; omega
  | succ fu ih =>
    intro k p A O f h1 h2 hk0 hk1 h ho hz hdr hzw fr hpost
    obtain ⟨ha, hT, _⟩ := xT_at h
    have hn := hT.1
    have hg : gOf T n (fu + 1) k p A = gOq T n fu k (gOC T n k p A) := gOf_s
    rw [hg] at hpost
    simp (disch := omega) only [b29_22, b29_23, b29_26, b29_29, b29_30, b29_33, b29_36, b29_37, b29_38, List.getElem?_cons_zero, List.getElem?_cons_succ, List.length_cons, List.length_nil, List.set_cons_zero, List.set_cons_succ, true_and, and_true, Option.toList_some, Option.toList_none, List.cons_append, List.nil_append, ↓reduceIte, not_false_eq_true, not_true_eq_false, Nat.reduceAdd, xj0_01, xj1_01, xb_B, xb_True, xb_False, ↓xT_fa h, ↓xj_in, xj_nat, Int.toNat_natCast, xj_lt_t, xj_lt_f, xj_le_t, xj_le_f, xj_eq_t, xj_eq_f, xj_lt, xj_le, xj_eq, xj_add, xj_sub, xj_mul, show ¬ xj 1 = xj 0 from by decide]
    rw [b29_39, rc_Off ho, true_and]
    refine c_ocl (by omega) hot h ho hz hdr hzw h2 hk0 hk1 (fun f1 p1 fa1 O1 g1 h1' o1 z1 r1 => ?_)
    obtain ⟨ha1, _, hfa1⟩ := xT_at h1'
    have fr1 := frO2_t fr g1
    have e1 : ((k : Nat) : Int) + 1 = ((k + 1 : Nat) : Int) := by omega
    -- the loop's head behind a fault
    have out : ∀ (f2 : Nat → xk_C) (p2 fa2 : Nat) (O2 : Of), frO2 o t f0 f2 → xT f2 t T n p2 fa2 → xv_Off f2 o O2 → xz_Off O2 → fa2 ≠ 0 → gOq T n fu k (gOC T n k p A) = .inl fa2 → xk_B (D - 1) 29 22 [.ref o, .ref t, .int (xj (k + 1 : Nat))] [] (f2, w) K := by
      intro f2 p2 fa2 O2 fr2 hr2 o2 z2 h0 hq
      obtain ⟨_, _, hfa2⟩ := xT_at hr2
      have po := hpost f2 p2 fa2 O2 fr2 hr2 o2 z2 (fun q => absurd q h0) (fun _ => hq)
      simp (disch := omega) only [b29_22, b29_23, b29_26, b29_29, b29_30, b29_33, b29_69, List.getElem?_cons_zero, List.getElem?_cons_succ, List.length_cons, List.length_nil, List.set_cons_zero, List.set_cons_succ, true_and, and_true, Option.toList_some, Option.toList_none, List.cons_append, List.nil_append, ↓reduceIte, not_false_eq_true, not_true_eq_false, Nat.reduceAdd, xj0_01, xj1_01, xb_B, xb_True, xb_False, ↓xT_fa hr2, ↓xj_in, xj_nat, Int.toNat_natCast, xj_lt_t, xj_lt_f, xj_le_t, xj_le_f, xj_eq_t, xj_eq_f, xj_lt, xj_le, xj_eq, xj_add, xj_sub, xj_mul, show ¬ xj 1 = xj 0 from by decide]
      exact po
    rcases r1 with ⟨c0, A1, hq, d1⟩ | ⟨c0, hq⟩
    · rw [hq] at hpost out
      obtain ⟨y1, y2, y3, y4, y5⟩ := gOC_ok hn hzw hq
      have y1 : zW A1 := y1
      have y2 : 0 < A1 0 := y2
      have hpost : ∀ f' p' fa' O', frO2 o t f0 f' → xT f' t T n p' fa' → xv_Off f' o O' → xz_Off O' → (fa' = 0 → ∃ A', gOe T n fu (k + 1) p1 A1 = .inr A' ∧ drR A' O' ∧ zW A' ∧ 0 < A' 0) → (fa' ≠ 0 → gOe T n fu (k + 1) p1 A1 = .inl fa') → K none (f', w) := hpost
      have out : ∀ (f2 : Nat → xk_C) (p2 fa2 : Nat) (O2 : Of), frO2 o t f0 f2 → xT f2 t T n p2 fa2 → xv_Off f2 o O2 → xz_Off O2 → fa2 ≠ 0 → gOe T n fu (k + 1) p1 A1 = .inl fa2 → xk_B (D - 1) 29 22 [.ref o, .ref t, .int (xj (k + 1 : Nat))] [] (f2, w) K := out
      by_cases ck : kdT T n p1 = 0
      · have hge : gOe T n fu (k + 1) p1 A1 = .inr A1 := by
          have hs := see_out (T := T) (kd0_iff.mp ck)
          unfold gOe
          rw [if_neg (by rw [hs]; decide), if_pos hs]
        have po := hpost f1 p1 fa1 O1 fr1 h1' o1 z1 (fun _ => ⟨_, hge, d1, y1, y2⟩) (fun q => absurd c0 q)
        simp (disch := omega) only [b29_42, b29_43, b29_46, b29_49, b29_50, b29_53, b29_56, List.getElem?_cons_zero, List.getElem?_cons_succ, List.length_cons, List.length_nil, List.set_cons_zero, List.set_cons_succ, true_and, and_true, Option.toList_some, Option.toList_none, List.cons_append, List.nil_append, ↓reduceIte, not_false_eq_true, not_true_eq_false, Nat.reduceAdd, xj0_01, xj1_01, xb_B, xb_True, xb_False, ↓xT_fa h1', rc_T h1', s_kind _ h1', ck, ↓xj_in, xj_nat, Int.toNat_natCast, xj_lt_t, xj_lt_f, xj_le_t, xj_le_f, xj_eq_t, xj_eq_f, xj_lt, xj_le, xj_eq, xj_add, xj_sub, xj_mul, show ¬ xj 1 = xj 0 from by decide]
        exact po
      · have hkr := kd_rng T n p1
        have hp := kd_lt (T := T) ck
        have nx := nx_rng (T := T) hn hp
        simp (disch := omega) only [b29_42, b29_43, b29_46, b29_49, b29_50, b29_53, b29_56, b29_57, b29_58, List.getElem?_cons_zero, List.getElem?_cons_succ, List.length_cons, List.length_nil, List.set_cons_zero, List.set_cons_succ, true_and, and_true, Option.toList_some, Option.toList_none, List.cons_append, List.nil_append, ↓reduceIte, not_false_eq_true, not_true_eq_false, Nat.reduceAdd, xj0_01, xj1_01, xb_B, xb_True, xb_False, ↓xT_fa h1', rc_T h1', s_kind _ h1', ↓xj_in, xj_nat, Int.toNat_natCast, xj_lt_t, xj_lt_f, xj_le_t, xj_le_f, xj_eq_t, xj_eq_f, xj_lt, xj_le, xj_eq, xj_add, xj_sub, xj_mul, show ¬ xj 1 = xj 0 from by decide]
        rw [b29_60, rc_T h1', true_and]
        refine u_takeMark (by omega) h1' (Or.inl rfl) (fun c3 f2 g2 h2' => ?_) (fun c3 f2 g2 h2' => ?_)
        · have hge : gOe T n fu (k + 1) p1 A1 = gOf T n fu (k + 1) (nxT T n p1) A1 := by unfold gOe; rw [if_pos c3]
          rw [hge] at hpost
          subst c0
          have po := ih (k + 1) (nxT T n p1) A1 O1 f2 (by omega) (by omega) (fun q => by omega) (fun _ => y2) h2' (xv_Off_fr o1 (fun x q1 q2 => g2 x (by omega))) z1 d1 y1 (frO2_t fr1 (frO2_x g2)) hpost
          simp (disch := omega) only [b29_63, b29_66, List.getElem?_cons_zero, List.getElem?_cons_succ, List.length_cons, List.length_nil, List.set_cons_zero, List.set_cons_succ, true_and, and_true, Option.toList_some, Option.toList_none, List.cons_append, List.nil_append, ↓reduceIte, not_false_eq_true, not_true_eq_false, Nat.reduceAdd, xj0_01, xj1_01, xb_B, xb_True, xb_False, ↓xj_in, xj_nat, Int.toNat_natCast, xj_lt_t, xj_lt_f, xj_le_t, xj_le_f, xj_eq_t, xj_eq_f, xj_lt, xj_le, xj_eq, xj_add, xj_sub, xj_mul, show ¬ xj 1 = xj 0 from by decide, e1]
          exact po
        · have cm : ¬ seeF T n p1 = -1 := fun e => by
            have := see_m1 (fun i hi => (hT.2 i hi).1) e
            omega
          have hge : gOe T n fu (k + 1) p1 A1 = .inl (1 + 8 * p1) := by unfold gOe; rw [if_neg c3, if_neg cm]
          rw [if_pos c0] at h2'
          have po := out f2 _ _ O1 (frO2_t fr1 (frO2_x g2)) h2' (xv_Off_fr o1 (fun x q1 q2 => g2 x (by omega))) z1 (by omega) hge
          simp (disch := omega) only [b29_63, b29_66, List.getElem?_cons_zero, List.getElem?_cons_succ, List.length_cons, List.length_nil, List.set_cons_zero, List.set_cons_succ, true_and, and_true, Option.toList_some, Option.toList_none, List.cons_append, List.nil_append, ↓reduceIte, not_false_eq_true, not_true_eq_false, Nat.reduceAdd, xj0_01, xj1_01, xb_B, xb_True, xb_False, ↓xj_in, xj_nat, Int.toNat_natCast, xj_lt_t, xj_lt_f, xj_le_t, xj_le_f, xj_eq_t, xj_eq_f, xj_lt, xj_le, xj_eq, xj_add, xj_sub, xj_mul, show ¬ xj 1 = xj 0 from by decide, e1]
          exact po
    · rw [hq] at out
      simp (disch := omega) only [b29_42, b29_43, b29_46, b29_49, b29_50, b29_53, b29_56, b29_57, b29_58, List.getElem?_cons_zero, List.getElem?_cons_succ, List.length_cons, List.length_nil, List.set_cons_zero, List.set_cons_succ, true_and, and_true, Option.toList_some, Option.toList_none, List.cons_append, List.nil_append, ↓reduceIte, not_false_eq_true, not_true_eq_false, Nat.reduceAdd, xj0_01, xj1_01, xb_B, xb_True, xb_False, ↓xT_fa h1', ↓xj_in, xj_nat, Int.toNat_natCast, xj_lt_t, xj_lt_f, xj_le_t, xj_le_f, xj_eq_t, xj_eq_f, xj_lt, xj_le, xj_eq, xj_add, xj_sub, xj_mul, show ¬ xj 1 = xj 0 from by decide]
      rw [b29_60, rc_T h1', true_and]
      refine u_takeMark (by omega) h1' (Or.inl rfl) (fun c3 f2 g2 h2' => ?_) (fun c3 f2 g2 h2' => ?_)
      · have po := out f2 _ _ O1 (frO2_t fr1 (frO2_x g2)) h2' (xv_Off_fr o1 (fun x q1 q2 => g2 x (by omega))) z1 c0 rfl
        simp (disch := omega) only [b29_63, b29_66, List.getElem?_cons_zero, List.getElem?_cons_succ, List.length_cons, List.length_nil, List.set_cons_zero, List.set_cons_succ, true_and, and_true, Option.toList_some, Option.toList_none, List.cons_append, List.nil_append, ↓reduceIte, not_false_eq_true, not_true_eq_false, Nat.reduceAdd, xj0_01, xj1_01, xb_B, xb_True, xb_False, ↓xj_in, xj_nat, Int.toNat_natCast, xj_lt_t, xj_lt_f, xj_le_t, xj_le_f, xj_eq_t, xj_eq_f, xj_lt, xj_le, xj_eq, xj_add, xj_sub, xj_mul, show ¬ xj 1 = xj 0 from by decide, e1]
        exact po
      · rw [if_neg c0] at h2'
        have po := out f2 _ _ O1 (frO2_t fr1 (frO2_x g2)) h2' (xv_Off_fr o1 (fun x q1 q2 => g2 x (by omega))) z1 c0 rfl
        simp (disch := omega) only [b29_63, b29_66, List.getElem?_cons_zero, List.getElem?_cons_succ, List.length_cons, List.length_nil, List.set_cons_zero, List.set_cons_succ, true_and, and_true, Option.toList_some, Option.toList_none, List.cons_append, List.nil_append, ↓reduceIte, not_false_eq_true, not_true_eq_false, Nat.reduceAdd, xj0_01, xj1_01, xb_B, xb_True, xb_False, ↓xj_in, xj_nat, Int.toNat_natCast, xj_lt_t, xj_lt_f, xj_le_t, xj_le_f, xj_eq_t, xj_eq_f, xj_lt, xj_le, xj_eq, xj_add, xj_sub, xj_mul, show ¬ xj 1 = xj 0 from by decide, e1]
        exact po
theorem c_readFrom (hD : 8 ≤ D) (hot : t + 4 ≤ o ∨ o + 10 ≤ t) (h : xT f t T n p 0) (ho : xv_Off f o O) (hz : xz_Off O) (hA : ∀ i, i < 84 → A i = 0) (hpost : ∀ f' p' fa' O', frO2 o t f f' → xT f' t T n p' fa' → xv_Off f' o O' → xz_Off O' → (fa' = 0 → ∃ A', gOf T n 41 0 p A = .inr A' ∧ drR A' O' ∧ zW A' ∧ 0 < A' 0) → (fa' ≠ 0 → gOf T n 41 0 p A = .inl fa') → K none (f', w)) : xk_Cl D 29 [.ref o, .ref t] (f, w) K := by
  rw [e29 (by omega)]
  rw [← xv_Off_xv ho]
  have hT1 : ∀ O', xT (xs f o (xl_Off o O')) t T n p 0 := fun O' => xT_fr h (fun x q1 q2 => xs_ne (by show x < o ∨ o + 10 ≤ x; omega))
  simp (disch := omega) only [b29_0, b29_1, b29_2, b29_5, b29_6, b29_7, b29_10, b29_11, b29_12, b29_15, b29_16, b29_17, b29_20, b29_21, List.getElem?_cons_zero, List.getElem?_cons_succ, List.length_cons, List.length_nil, List.set_cons_zero, List.set_cons_succ, true_and, and_true, Option.toList_some, Option.toList_none, List.cons_append, List.nil_append, ↓reduceIte, not_false_eq_true, not_true_eq_false, Nat.reduceAdd, xj0_01, xj1_01, xb_B, xb_True, xb_False, ↓po_0, ↓po_4z, ↓po_5z, ↓po_6z, ↓xj_in, xj_nat, Int.toNat_natCast, xj_lt_t, xj_lt_f, xj_le_t, xj_le_f, xj_eq_t, xj_eq_f, xj_lt, xj_le, xj_eq, xj_add, xj_sub, xj_mul, show ¬ xj 1 = xj 0 from by decide]
  refine c_oL hD hot 41 0 p A _ _ rfl (by omega) (fun _ => hA 0 (by omega)) (fun q => absurd rfl q) (hT1 _) xv_Off_xs hz ⟨rfl, fun q => ?_, ?_, ?_, ?_, fun i hi => ?_, fun i hi => ?_, fun i hi => ?_⟩ (zW_0 hA) frO2_o hpost
  · rw [hA 0 (by omega)] at q; omega
  · rw [hA 3 (by omega)]; rfl
  · rw [hA 4 (by omega)]; rfl
  · rw [hA 5 (by omega)]; rfl
  · have hi : i < 0 := hi; omega
  · have hi : i < 0 := hi; omega
  · have hi : i < 0 := hi; omega
end XS9a08
