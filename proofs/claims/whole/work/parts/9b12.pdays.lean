/-! the pen: drawn days -/
theorem jx_low (n : Nat) : jx (n : Nat) &&& jx 2147483647 = jx ((n % 2147483648 : Nat) : Int) := by
  apply Int64.toBitVec_inj.mp
  rw [Int64.toBitVec_and]
  show BitVec.ofInt 64 (n : Nat) &&& BitVec.ofInt 64 2147483647 = BitVec.ofInt 64 ((n % 2147483648 : Nat) : Int)
  rw [BitVec.ofInt_natCast, BitVec.ofInt_natCast, show BitVec.ofInt 64 2147483647 = BitVec.ofNat 64 2147483647 from by decide]
  apply BitVec.eq_of_toNat_eq
  rw [BitVec.toNat_and, BitVec.toNat_ofNat, BitVec.toNat_ofNat, BitVec.toNat_ofNat]
  rw [show 2147483647 % 2 ^ 64 = 2 ^ 31 - 1 from by decide, Nat.and_two_pow_sub_one_eq_mod]
  omega
theorem jx_drF {x : Int} (h : 0 ≤ x) : jx (x * 1103515245 + 12345) &&& jx 2147483647 = jx (drF x) := by
  obtain ⟨n, hn⟩ : ∃ n : Nat, x * 1103515245 + 12345 = n := ⟨(x * 1103515245 + 12345).toNat, by omega⟩
  unfold drF
  rw [hn, jx_low]
  congr 1
def dayZ (O : Of) (d : Dy) (s x y : Int) : Int := if of_told O = 1 ∧ (1 ≤ x ∧ x ≤ 20) ∧ 0 ≤ y ∧ y ≤ 1 then (if y = 0 then (ddF O d s x.toNat).2.1 else (ddF O d s x.toNat).2.2) else -1
section XS9b12
variable {D a b o k p q n nr r t c v fa s m : Nat} {f f' : Nat → xk_C} {w : Nat × Nat × Nat} {K : Option Value → xk_S → Prop} {x y z : Int} {T : Nat → Int} {ru : Nat → Ru} {S : Dk} {H : Hi} {im : Nat → Int} {I : Nat → Dk} {d d1 : Dy}
theorem s_bip (hD : 2 ≤ D) (hs : s < 64) (hm : m < bcF s) : xk_Cl D 137 [.int (xj (s : Nat)), .int (xj (m : Nat))] (f, w) K ↔ K (some (.int (xj (bpN s (m : Nat))))) (f, w) := by
  rw [e137 (by omega)]
  have hb6 := bc_le s
  obtain ⟨k, c1, c2, c3, c4, c5⟩ := bpN_at hs hm
  rw [c2]
  have key := xk_down (J := Unit) (n := k) (P := fun r _ => xk_B (D - 1) 137 4 [.int (xj (s : Nat)), .int (xj (m : Nat)), .int (xj (cnt (fun i => s.testBit i) r : Nat)), .int (xj (r : Nat))] [] (f, w) K) (Q := K (some (.int (xj (k : Nat)))) (f, w)) (fun j => ?_) (fun r hrr ih j => ?_) 0 (Nat.zero_le _) ()
  · simp (disch := omega) only [b137_0, b137_1, b137_2, b137_3, List.getElem?_cons_zero, List.getElem?_cons_succ, List.length_cons, List.length_nil, List.set_cons_zero, List.set_cons_succ, true_and, and_true, Option.toList_some, Option.toList_none, List.cons_append, List.nil_append, ↓reduceIte, not_false_eq_true, not_true_eq_false, Nat.reduceAdd, xj0_01, xj1_01, xb_B, xb_True, xb_False]
    exact key
  · have cl := cnt_le (fun i => s.testBit i) k
    have has := fun K' => s_has (D := D - 1) (K := K') (f := f) (w := w) (n := s) (k := k) (by omega) (by omega) (by omega)
    rw [c4]
    simp (disch := omega) only [b137_4, b137_5, b137_7, b137_10, b137_11, b137_12, b137_15, b137_18, b137_19, b137_20, b137_23, b137_24, List.getElem?_cons_zero, List.getElem?_cons_succ, List.length_cons, List.length_nil, List.set_cons_zero, List.set_cons_succ, true_and, and_true, Option.toList_some, Option.toList_none, List.cons_append, List.nil_append, ↓reduceIte, not_false_eq_true, not_true_eq_false, Nat.reduceAdd, xj0_01, xj1_01, xb_B, xb_True, xb_False, has, c3, xb_T, ↓xj_in, xj_nat, Int.toNat_natCast, xj_lt_t, xj_lt_f, xj_le_t, xj_le_f, xj_eq_t, xj_eq_f, xj_lt, xj_le, xj_eq, xj_add, xj_sub, xj_mul, show ¬ xj 1 = xj 0 from by decide]
  · have cl := cnt_le (fun i => s.testBit i) r
    have has := fun K' => s_has (D := D - 1) (K := K') (f := f) (w := w) (n := s) (k := r) (by omega) (by omega) (by omega)
    rw [b137_4, ← ih ()]
    have e : cnt (fun i => s.testBit i) (r + 1) = if s.testBit r = true then cnt (fun i => s.testBit i) r + 1 else cnt (fun i => s.testBit i) r := rfl
    rw [e]
    cases hbit : s.testBit r
    · (simp (disch := omega) only [b137_5, b137_7, b137_10, b137_11, b137_12, b137_15, b137_18, b137_19, b137_20, b137_23, b137_24, b137_25, b137_28, b137_31, List.getElem?_cons_zero, List.getElem?_cons_succ, List.length_cons, List.length_nil, List.set_cons_zero, List.set_cons_succ, true_and, and_true, Option.toList_some, Option.toList_none, List.cons_append, List.nil_append, ↓reduceIte, not_false_eq_true, not_true_eq_false, Nat.reduceAdd, xj0_01, xj1_01, xb_B, xb_True, xb_False, has, hbit, Bool.false_eq_true, xb_F, ↓xj_in, xj_nat, Int.toNat_natCast, xj_lt_t, xj_lt_f, xj_le_t, xj_le_f, xj_eq_t, xj_eq_f, xj_lt, xj_le, xj_eq, xj_add, xj_sub, xj_mul, show ¬ xj 1 = xj 0 from by decide]) <;> rfl
    · have h5 := c5 r hrr hbit
      (simp (disch := omega) only [b137_5, b137_7, b137_10, b137_11, b137_12, b137_15, b137_18, b137_19, b137_20, b137_23, b137_24, b137_25, b137_28, b137_31, List.getElem?_cons_zero, List.getElem?_cons_succ, List.length_cons, List.length_nil, List.set_cons_zero, List.set_cons_succ, true_and, and_true, Option.toList_some, Option.toList_none, List.cons_append, List.nil_append, ↓reduceIte, not_false_eq_true, not_true_eq_false, Nat.reduceAdd, xj0_01, xj1_01, xb_B, xb_True, xb_False, has, hbit, xb_T, ↓xj_in, xj_nat, Int.toNat_natCast, xj_lt_t, xj_lt_f, xj_le_t, xj_le_f, xj_eq_t, xj_eq_f, xj_lt, xj_le, xj_eq, xj_add, xj_sub, xj_mul, show ¬ xj 1 = xj 0 from by decide]) <;> rfl
theorem draw_loop (hD : 7 ≤ D) (hw : xw_Off S.1) {x0 : Value} : ∀ (n i : Nat) (d : Dy) (x : Int) (fj : Nat → xk_C) (l4 l5 l6 : Value), i + n = 6 → xv_Pen fj a p nr T ru S H im I → xv_Day fj (a + 83) d → xz_Day d → xw_Day S.1 d → 0 ≤ x → x ≤ 2147483647 → (∀ f', (∀ x, (x < a + 83 ∨ a + 85 ≤ x) → f' x = fj x) → xv_Pen f' a p nr T ru S H im I → xv_Day f' (a + 83) (dayF S.1 n d x).1 → xw_Day S.1 (dayF S.1 n d x).1 → 0 ≤ (dayF S.1 n d x).2 → (dayF S.1 n d x).2 ≤ 2147483647 → K (some (.int (xj (dayF S.1 n d x).2))) (f', w)) → xk_B (D - 1) 132 18 [.ref a, x0, .int (xj x), .int (xj (i : Nat)), l4, l5, l6] [] (fj, w) K := by
  intro n
  induction n with
  | zero =>
    intro i d x fj l4 l5 l6 hi hp hd hz hwd x1 x2 hpost
    have po := hpost fj (fun _ _ => rfl) hp hd hwd x1 x2
    simp (disch := omega) only [b132_18, b132_19, b132_21, b132_118, b132_119, List.getElem?_cons_zero, List.getElem?_cons_succ, List.length_cons, List.length_nil, List.set_cons_zero, List.set_cons_succ, true_and, and_true, Option.toList_some, Option.toList_none, List.cons_append, List.nil_append, ↓reduceIte, not_false_eq_true, not_true_eq_false, Nat.reduceAdd, xj0_01, xj1_01, xb_B, xb_True, xb_False, ↓xj_in, xj_nat, Int.toNat_natCast, xj_lt_t, xj_lt_f, xj_le_t, xj_le_f, xj_eq_t, xj_eq_f, xj_lt, xj_le, xj_eq, xj_add, xj_sub, xj_mul, show ¬ xj 1 = xj 0 from by decide]
    exact po
  | succ n ih =>
    intro i d x fj l4 l5 l6 hi hp hd hz hwd x1 x2 hpost
    have e : dayF S.1 (n + 1) d x = (if unsF S.1 d = 0 then (d, x) else if canF S.1 d (bpN (unsF S.1 d) (drF x / 65536 % (bcF (unsF S.1 d) : Nat))) = true then dayF S.1 n (writeD S.1 d (bpN (unsF S.1 d) (drF x / 65536 % (bcF (unsF S.1 d) : Nat))).toNat 63) (drF x) else (d, drF x)) := rfl
    rw [e] at hpost
    have hn := hw.2.2.2.1
    have q0 := hp.1
    have q5 : xv_Dk fj (a + 22) S := hp.2.2.2.2.2.1
    have hu := uns_lt (d := d) hw
    have us := fun K' => s_unsF (D := D - 1) (K := K') (w := w) (by omega) q5.2.1 hw hd hwd
    have bc := fun K' => s_bitCount (D := D - 1) (n := unsF S.1 d) (f := fj) (w := w) (K := K') (by omega) hu
    by_cases c0 : unsF S.1 d = 0
    · rw [if_pos c0] at hpost
      have po := hpost fj (fun _ _ => rfl) hp hd hwd x1 x2
      have b0 : bcF (unsF S.1 d) = 0 := by rw [c0]; rfl
      rw [b132_18]
      simp (disch := omega) only [b132_19, b132_21, b132_24, b132_25, b132_28, b132_29, b132_32, b132_35, b132_38, b132_40, b132_42, b132_45, b132_47, b132_49, b132_50, b132_53, b132_118, b132_119, List.getElem?_cons_zero, List.getElem?_cons_succ, List.length_cons, List.length_nil, List.set_cons_zero, List.set_cons_succ, true_and, and_true, Option.toList_some, Option.toList_none, List.cons_append, List.nil_append, ↓reduceIte, not_false_eq_true, not_true_eq_false, Nat.reduceAdd, xj0_01, xj1_01, xb_B, xb_True, xb_False, ↓gpn_7 q0, ↓gpn_11 q0, ↓gk_0 q5.1, rc_Day hd, us, bc, b0, ↓xj_in, xj_nat, Int.toNat_natCast, xj_lt_t, xj_lt_f, xj_le_t, xj_le_f, xj_eq_t, xj_eq_f, xj_lt, xj_le, xj_eq, xj_add, xj_sub, xj_mul, show ¬ xj 1 = xj 0 from by decide]
      exact po
    · rw [if_neg c0] at hpost
      have hb := bc_pos _ hu c0
      have hb6 := bc_le (unsF S.1 d)
      have hx := drF_rng x
      have hm : 0 ≤ drF x / 65536 % (bcF (unsF S.1 d) : Nat) ∧ drF x / 65536 % (bcF (unsF S.1 d) : Nat) < (bcF (unsF S.1 d) : Nat) := ⟨Int.emod_nonneg _ (by omega), Int.emod_lt_of_pos _ (by omega)⟩
      have hq : 0 ≤ drF x / 65536 ∧ drF x / 65536 ≤ 32767 := by omega
      have em : drF x / 65536 - drF x / 65536 / (bcF (unsF S.1 d) : Nat) * (bcF (unsF S.1 d) : Nat) = drF x / 65536 % (bcF (unsF S.1 d) : Nat) := by
        have h := Int.emod_def (drF x / 65536) (bcF (unsF S.1 d) : Nat)
        rw [Int.mul_comm] at h
        omega
      have l1 : (1103515245 : Int64) = jx 1103515245 := by decide
      have l2 : (12345 : Int64) = jx 12345 := by decide
      have l3 : (2147483647 : Int64) = jx 2147483647 := by decide
      have l4' : (65536 : Int32) = xj 65536 := by decide
      have n1 : ¬ xj 65536 = 0 := by decide
      have n2 : ¬ xj (bcF (unsF S.1 d) : Nat) = 0 := xj_ne0 (by omega) (by omega)
      have an := jx_drF x1
      rw [b132_18]
      simp (disch := omega) only [b132_19, b132_21, b132_24, b132_25, b132_28, b132_29, b132_32, b132_35, b132_38, b132_40, b132_42, b132_45, b132_47, b132_49, b132_50, b132_53, b132_56, b132_57, b132_58, b132_61, b132_62, b132_65, b132_66, List.getElem?_cons_zero, List.getElem?_cons_succ, List.length_cons, List.length_nil, List.set_cons_zero, List.set_cons_succ, true_and, and_true, Option.toList_some, Option.toList_none, List.cons_append, List.nil_append, ↓reduceIte, not_false_eq_true, not_true_eq_false, Nat.reduceAdd, xj0_01, xj1_01, xb_B, xb_True, xb_False, ↓gpn_7 q0, ↓gpn_11 q0, ↓gk_0 q5.1, rc_Day hd, us, bc, jx_i2l, l1, l2, l3, jx_mul, jx_add, ↓xj_in, xj_nat, Int.toNat_natCast, xj_lt_t, xj_lt_f, xj_le_t, xj_le_f, xj_eq_t, xj_eq_f, xj_lt, xj_le, xj_eq, xj_add, xj_sub, xj_mul, show ¬ xj 1 = xj 0 from by decide]
      simp (disch := omega) only [b132_69, b132_70, b132_71, b132_72, b132_74, b132_75, List.getElem?_cons_zero, List.getElem?_cons_succ, List.length_cons, List.length_nil, List.set_cons_zero, List.set_cons_succ, true_and, and_true, Option.toList_some, Option.toList_none, List.cons_append, List.nil_append, ↓reduceIte, not_false_eq_true, not_true_eq_false, Nat.reduceAdd, xj0_01, xj1_01, xb_B, xb_True, xb_False, an, jx_l2i, l4', ↓xj_in, xj_nat, Int.toNat_natCast, xj_lt_t, xj_lt_f, xj_le_t, xj_le_f, xj_eq_t, xj_eq_f, xj_lt, xj_le, xj_eq, xj_add, xj_sub, xj_mul, show ¬ xj 1 = xj 0 from by decide]
      rw [b132_78 n1, xj_div (by omega) (by omega) (by omega) (by omega)]
      simp (disch := omega) only [b132_79, List.getElem?_cons_zero, List.getElem?_cons_succ, List.length_cons, List.length_nil, List.set_cons_zero, List.set_cons_succ, true_and, and_true, Option.toList_some, Option.toList_none, List.cons_append, List.nil_append, ↓reduceIte, not_false_eq_true, not_true_eq_false, Nat.reduceAdd, xj0_01, xj1_01, xb_B, xb_True, xb_False, ↓xj_in, xj_nat, Int.toNat_natCast, xj_lt_t, xj_lt_f, xj_le_t, xj_le_f, xj_eq_t, xj_eq_f, xj_lt, xj_le, xj_eq, xj_add, xj_sub, xj_mul, show ¬ xj 1 = xj 0 from by decide]
      rw [b132_81 n2, xj_div (by omega) (by omega) (by omega) (by omega), xj_mul, xj_sub, em]
      generalize hmm : drF x / 65536 % (bcF (unsF S.1 d) : Nat) = mm at *
      obtain ⟨m, rfl⟩ : ∃ m : Nat, mm = m := ⟨mm.toNat, by omega⟩
      obtain ⟨k, c1, c2, c3, c4, c5⟩ := bpN_at hu (show m < bcF (unsF S.1 d) by omega)
      have bp := fun K' => s_bip (D := D - 1) (K := K') (f := fj) (w := w) (by omega) hu (show m < bcF (unsF S.1 d) by omega)
      rw [c2] at bp hpost
      rw [Int.toNat_natCast] at hpost
      have hk : k < of_np S.1 := by
        unfold unsF at c3
        rw [msk_bit, Bool.and_eq_true] at c3
        exact of_decide_eq_true c3.1
      simp (disch := omega) only [b132_82, b132_85, b132_87, b132_88, b132_91, b132_92, b132_95, b132_98, b132_100, List.getElem?_cons_zero, List.getElem?_cons_succ, List.length_cons, List.length_nil, List.set_cons_zero, List.set_cons_succ, true_and, and_true, Option.toList_some, Option.toList_none, List.cons_append, List.nil_append, ↓reduceIte, not_false_eq_true, not_true_eq_false, Nat.reduceAdd, xj0_01, xj1_01, xb_B, xb_True, xb_False, ↓gpn_7 q0, ↓gpn_11 q0, ↓gk_0 q5.1, bp, ↓xj_in, xj_nat, Int.toNat_natCast, xj_lt_t, xj_lt_f, xj_le_t, xj_le_f, xj_eq_t, xj_eq_f, xj_lt, xj_le, xj_eq, xj_add, xj_sub, xj_mul, show ¬ xj 1 = xj 0 from by decide]
      cases hc : canF S.1 d (k : Nat) with
      | false =>
        rw [hc, if_neg (by decide)] at hpost
        have po := hpost fj (fun _ _ => rfl) hp hd hwd hx.1 hx.2
        have wr : ∀ K', xk_Cl (D - 1) 10 [.ref (a + 83), .ref (a + 22 + 1), .int (xj (k : Nat)), .int (xj 63)] (fj, w) K' ↔ _ := fun K' => s_write_no (by omega) q5.2.1 hw hd hwd (by omega) (by omega) hc
        simp (disch := omega) only [b132_102, b132_105, b132_106, b132_109, b132_118, b132_119, List.getElem?_cons_zero, List.getElem?_cons_succ, List.length_cons, List.length_nil, List.set_cons_zero, List.set_cons_succ, true_and, and_true, Option.toList_some, Option.toList_none, List.cons_append, List.nil_append, ↓reduceIte, not_false_eq_true, not_true_eq_false, Nat.reduceAdd, xj0_01, xj1_01, xb_B, xb_True, xb_False, rc_Day hd, wr, ↓xj_in, xj_nat, Int.toNat_natCast, xj_lt_t, xj_lt_f, xj_le_t, xj_le_f, xj_eq_t, xj_eq_f, xj_lt, xj_le, xj_eq, xj_add, xj_sub, xj_mul, show ¬ xj 1 = xj 0 from by decide]
        exact po
      | true =>
        rw [hc, if_pos rfl] at hpost
        have he := can_wr hw hwd hc
        have wr : ∀ K', xk_Cl (D - 1) 10 [.ref (a + 83), .ref (a + 22 + 1), .int (xj (k : Nat)), .int (xj 63)] (fj, w) K' ↔ K' (some (.int (xj (endF S.1 d k)))) (xs_Day fj (a + 83) (writeD S.1 d k 63), w) := fun K' => s_write (q := 63) (by omega) q5.2.1 hw hd hwd (by omega) hc (by decide)
        have e2 : ∀ x, (x < a + 83 ∨ a + 85 ≤ x) → xs_Day fj (a + 83) (writeD S.1 d k 63) x = fj x := fun x hx => xs_Day_ne (by omega) (by omega)
        have d2 := xs_Day_v fj (a + 83) (writeD S.1 d k 63)
        have z2' : xz_Day (writeD S.1 d k 63) := xz_writeD hz (by omega)
        have w2' : xw_Day S.1 (writeD S.1 d k 63) := xw_writeD hw hwd hc
        have h2 := pen_8 hp e2 d2 z2'
        have nx := ih (i + 1) (writeD S.1 d k 63) (drF x) _ (.int (xj (unsF S.1 d : Nat))) (.int (xj (bcF (unsF S.1 d) : Nat))) (.int (xj (k : Nat))) (by omega) h2 d2 z2' w2' hx.1 hx.2 (fun f' g1 g2 g3 g4 g5 g6 => hpost f' (fun x hx => (g1 x hx).trans (e2 x hx)) g2 g3 g4 g5 g6)
        simp (disch := omega) only [b132_102, b132_105, b132_106, b132_109, b132_112, b132_115, List.getElem?_cons_zero, List.getElem?_cons_succ, List.length_cons, List.length_nil, List.set_cons_zero, List.set_cons_succ, true_and, and_true, Option.toList_some, Option.toList_none, List.cons_append, List.nil_append, ↓reduceIte, not_false_eq_true, not_true_eq_false, Nat.reduceAdd, xj0_01, xj1_01, xb_B, xb_True, xb_False, rc_Day hd, wr, ↓xj_in, xj_nat, Int.toNat_natCast, xj_lt_t, xj_lt_f, xj_le_t, xj_le_f, xj_eq_t, xj_eq_f, xj_lt, xj_le, xj_eq, xj_add, xj_sub, xj_mul, show ¬ xj 1 = xj 0 from by decide]
        exact nx
theorem p_draw (hD : 7 ≤ D) (hw : PW S) (hp : xv_Pen f a p nr T ru S H im I) (x1 : 0 ≤ x) (x2 : x ≤ 2147483647) (hpost : ∀ f', (∀ x, (x < a + 83 ∨ a + 85 ≤ x) → f' x = f x) → xv_Pen f' a p nr T ru S H im I → xv_Day f' (a + 83) (dayF S.1 6 S.2.1 x).1 → xw_Day S.1 (dayF S.1 6 S.2.1 x).1 → 0 ≤ (dayF S.1 6 S.2.1 x).2 → (dayF S.1 6 S.2.1 x).2 ≤ 2147483647 → K (some (.int (xj (dayF S.1 6 S.2.1 x).2))) (f', w)) : xk_Cl D 132 [.ref a, .int (xj x)] (f, w) K := by
  rw [e132 (by omega)]
  obtain ⟨⟨w1, w2, w3, w4, w5, w6, w7, w8⟩, hvs, hvl⟩ := hw
  have p0 := hp.1
  have p5 : xv_Dk f (a + 22) S := hp.2.2.2.2.2.1
  simp (disch := omega) only [b132_0, b132_1, b132_4, b132_5, b132_8, List.getElem?_cons_zero, List.getElem?_cons_succ, List.length_cons, List.length_nil, List.set_cons_zero, List.set_cons_succ, true_and, and_true, Option.toList_some, Option.toList_none, List.cons_append, List.nil_append, ↓reduceIte, not_false_eq_true, not_true_eq_false, Nat.reduceAdd, xj0_01, xj1_01, xb_B, xb_True, xb_False, ↓gpn_7 p0, ↓gpn_11 p0, ↓gk_1 p5.1]
  rw [b132_11, rc_8 hp, true_and]
  refine p_trial (by omega) hp w4 (fun f1 e1 d1 => ?_)
  have h1 := pen_8 hp e1 d1 w4
  have lp := draw_loop (D := D) (K := K) (w := w) (x0 := .int (xj x)) hD w1 6 0 S.2.1 x f1 xk_dd xk_dd xk_dd (by omega) h1 d1 w4 w3 x1 x2 (fun f' g1 g2 g3 g4 g5 g6 => hpost f' (fun x hx => (g1 x hx).trans (e1 x hx)) g2 g3 g4 g5 g6)
  simp (disch := omega) only [b132_14, b132_15, b132_16, b132_17, List.getElem?_cons_zero, List.getElem?_cons_succ, List.length_cons, List.length_nil, List.set_cons_zero, List.set_cons_succ, true_and, and_true, Option.toList_some, Option.toList_none, List.cons_append, List.nil_append, ↓reduceIte, not_false_eq_true, not_true_eq_false, Nat.reduceAdd, xj0_01, xj1_01, xb_B, xb_True, xb_False]
  exact lp
theorem dd_rn2 {O : Of} {d : Dy} {s : Int} (hw : xw_Off O) (hd : xw_Day O d) : ∀ j : Nat, (0 ≤ (ddF O d s j).2.1 ∧ (ddF O d s j).2.1 ≤ 180 * j) ∧ 0 ≤ (ddF O d s j).2.2 ∧ (ddF O d s j).2.2 ≤ 9999 * j := by
  have dw : ∀ (n : Nat) (d : Dy) (x : Int), xw_Day O d → xw_Day O (dayF O n d x).1 := by
    intro n
    induction n with
    | zero => intro d x h; exact h
    | succ n ih =>
      intro d x h
      unfold dayF
      split
      · exact h
      · split
        · rename_i c
          have c' := of_decide_eq_true c
          obtain ⟨k, hk⟩ : ∃ k : Nat, bpN (unsF O d) (drF x / 65536 % (bcF (unsF O d) : Nat)) = k := ⟨(bpN (unsF O d) (drF x / 65536 % (bcF (unsF O d) : Nat))).toNat, by omega⟩
          rw [hk] at c ⊢
          rw [Int.toNat_natCast]
          exact ih _ _ (xw_writeD hw h c)
        · exact h
  intro j
  induction j with
  | zero => exact ⟨⟨by show (0 : Int) ≤ 0; decide, by show (0 : Int) ≤ 180 * ((0 : Nat) : Int); decide⟩, by show (0 : Int) ≤ 0; decide, by show (0 : Int) ≤ 9999 * ((0 : Nat) : Int); decide⟩
  | succ j ih =>
    have h1 := wt_rng hw (dayF O 6 d (ddF O d s j).1).1
    have h2 := dw 6 d (ddF O d s j).1 hd
    have h3 := h2.1
    have h4 := h2.2.1
    show (0 ≤ (ddF O d s j).2.1 + wtF O (dayF O 6 d (ddF O d s j).1).1 ∧ (ddF O d s j).2.1 + wtF O (dayF O 6 d (ddF O d s j).1).1 ≤ 180 * ((j + 1 : Nat) : Int)) ∧ 0 ≤ (ddF O d s j).2.2 + (dayF O 6 d (ddF O d s j).1).1.1 ∧ (ddF O d s j).2.2 + (dayF O 6 d (ddF O d s j).1).1.1 ≤ 9999 * ((j + 1 : Nat) : Int)
    omega
theorem p_days (hD : 8 ≤ D) (h : xv_Pen f a p nr T ru S H im I) (hw : PW S) (x1 : -2147483648 ≤ x) (x2 : x ≤ 2147483647) (y1 : -2147483648 ≤ y) (y2 : y ≤ 2147483647) (hpost : ∀ f', (∀ x, (x < a ∨ a + 204 ≤ x) → f' x = f x) → xv_Pen f' a p nr T ru S H im I → K (some (.int (xj (dayZ S.1 S.2.1 S.2.2.2 x y)))) (f', w)) : xk_Cl D 131 [.ref a, .int (xj x), .int (xj y)] (f, w) K := by
  rw [e131 (by omega)]
  have hw' := hw
  obtain ⟨⟨w1, w2, w3, w4, w5, w6, w7, w8⟩, hvs, hvl⟩ := hw
  have p0 := h.1
  have p5 : xv_Dk f (a + 22) S := h.2.2.2.2.2.1
  have ho := p5.2.1
  have no : ¬ (of_told S.1 = 1 ∧ (1 ≤ x ∧ x ≤ 20) ∧ 0 ≤ y ∧ y ≤ 1) → K (some (.int (xj (-1)))) (f, w) := fun hz => by
    have po := hpost f (fun _ _ => rfl) h
    unfold dayZ at po
    rw [if_neg hz] at po
    exact po
  by_cases c1 : 1 ≤ x
  · by_cases c2 : x ≤ 20
    · by_cases c3 : 0 ≤ y
      · by_cases c4 : y ≤ 1
        · by_cases c5 : of_told S.1 = 1
          · obtain ⟨n, rfl⟩ : ∃ n : Nat, x = n := ⟨x.toNat, by omega⟩
            have ey : dayZ S.1 S.2.1 S.2.2.2 (n : Nat) y = (if y = 0 then (ddF S.1 S.2.1 S.2.2.2 n).2.1 else (ddF S.1 S.2.1 S.2.2.2 n).2.2) := by unfold dayZ; rw [if_pos ⟨c5, ⟨c1, c2⟩, c3, c4⟩, Int.toNat_natCast]
            rw [ey] at hpost
            have loop : ∀ (m j : Nat) (fj : Nat → xk_C), j + m = n → (∀ x, (x < a ∨ a + 204 ≤ x) → fj x = f x) → xv_Pen fj a p nr T ru S H im I → 0 ≤ (ddF S.1 S.2.1 S.2.2.2 j).1 → (ddF S.1 S.2.1 S.2.2.2 j).1 ≤ 2147483647 → xk_B (D - 1) 131 49 [.ref a, .int (xj (n : Nat)), .int (xj y), .int (xj (ddF S.1 S.2.1 S.2.2.2 j).1), .int (xj (if y = 0 then (ddF S.1 S.2.1 S.2.2.2 j).2.1 else (ddF S.1 S.2.1 S.2.2.2 j).2.2)), .int (xj (j : Nat))] [] (fj, w) K := by
              intro m
              induction m with
              | zero =>
                intro j fj hj fr hpj r1 r2
                have hj : j = n := by omega
                subst hj
                have t := hpost fj fr hpj
                simp (disch := omega) only [b131_49, b131_51, b131_52, b131_100, b131_102, List.getElem?_cons_zero, List.getElem?_cons_succ, List.length_cons, List.length_nil, List.set_cons_zero, List.set_cons_succ, true_and, and_true, Option.toList_some, Option.toList_none, List.cons_append, List.nil_append, ↓reduceIte, not_false_eq_true, not_true_eq_false, Nat.reduceAdd, xj0_01, xj1_01, xb_B, xb_True, xb_False, ↓xj_in, xj_nat, Int.toNat_natCast, xj_lt_t, xj_lt_f, xj_le_t, xj_le_f, xj_eq_t, xj_eq_f, xj_lt, xj_le, xj_eq, xj_add, xj_sub, xj_mul, show ¬ xj 1 = xj 0 from by decide]
                exact t
              | succ m ihm =>
                intro j fj hj fr hpj r1 r2
                have dr := dd_rn2 (s := S.2.2.2) w1 w3 j
                rw [b131_49]
                simp (disch := omega) only [b131_51, b131_52, b131_55, b131_56, List.getElem?_cons_zero, List.getElem?_cons_succ, List.length_cons, List.length_nil, List.set_cons_zero, List.set_cons_succ, true_and, and_true, Option.toList_some, Option.toList_none, List.cons_append, List.nil_append, ↓reduceIte, not_false_eq_true, not_true_eq_false, Nat.reduceAdd, xj0_01, xj1_01, xb_B, xb_True, xb_False, ↓xj_in, xj_nat, Int.toNat_natCast, xj_lt_t, xj_lt_f, xj_le_t, xj_le_f, xj_eq_t, xj_eq_f, xj_lt, xj_le, xj_eq, xj_add, xj_sub, xj_mul, show ¬ xj 1 = xj 0 from by decide]
                rw [b131_57, rc_Pen hpj.1, true_and]
                refine p_draw (by omega) hw' hpj r1 r2 (fun f1 e1 h1 d1 wd s1 s2 => ?_)
                have q0 := h1.1
                have q5 : xv_Dk f1 (a + 22) S := h1.2.2.2.2.2.1
                have wt : ∀ K', xk_Cl (D - 1) 6 [.ref (a + 83), .ref (a + 22 + 1)] (f1, w) K' ↔ K' (some (.int (xj (wtF S.1 (dayF S.1 6 S.2.1 (ddF S.1 S.2.1 S.2.2.2 j).1).1)))) (f1, w) := fun K' => s_worthInTime (by omega) q5.2.1 w1 d1 wd
                have wr := wt_rng w1 (dayF S.1 6 S.2.1 (ddF S.1 S.2.1 S.2.2.2 j).1).1
                have wd1 := wd.1
                have wd2 := wd.2.1
                have t := ihm (j + 1) f1 (by omega) (fun x hx => (e1 x (by omega)).trans (fr x hx)) h1 s1 s2
                have g1 : (ddF S.1 S.2.1 S.2.2.2 (j + 1)).1 = (dayF S.1 6 S.2.1 (ddF S.1 S.2.1 S.2.2.2 j).1).2 := rfl
                have g2 : (ddF S.1 S.2.1 S.2.2.2 (j + 1)).2.1 = (ddF S.1 S.2.1 S.2.2.2 j).2.1 + wtF S.1 (dayF S.1 6 S.2.1 (ddF S.1 S.2.1 S.2.2.2 j).1).1 := rfl
                have g3 : (ddF S.1 S.2.1 S.2.2.2 (j + 1)).2.2 = (ddF S.1 S.2.1 S.2.2.2 j).2.2 + (dayF S.1 6 S.2.1 (ddF S.1 S.2.1 S.2.2.2 j).1).1.1 := rfl
                rw [g1, g2, g3] at t
                by_cases e0 : y = 0
                · rw [if_pos e0] at t ⊢
                  simp (disch := omega) only [b131_60, b131_61, b131_63, b131_64, b131_67, b131_68, b131_71, b131_72, b131_75, b131_78, b131_81, b131_84, b131_85, b131_88, b131_91, b131_92, b131_94, b131_97, List.getElem?_cons_zero, List.getElem?_cons_succ, List.length_cons, List.length_nil, List.set_cons_zero, List.set_cons_succ, true_and, and_true, Option.toList_some, Option.toList_none, List.cons_append, List.nil_append, ↓reduceIte, not_false_eq_true, not_true_eq_false, Nat.reduceAdd, xj0_01, xj1_01, xb_B, xb_True, xb_False, ↓gpn_7 q0, ↓gpn_11 q0, ↓gk_0 q5.1, rc_Day d1, wt, ↓xj_in, xj_nat, Int.toNat_natCast, xj_lt_t, xj_lt_f, xj_le_t, xj_le_f, xj_eq_t, xj_eq_f, xj_lt, xj_le, xj_eq, xj_add, xj_sub, xj_mul, show ¬ xj 1 = xj 0 from by decide]
                  exact t
                · rw [if_neg e0] at t ⊢
                  simp (disch := omega) only [b131_60, b131_61, b131_63, b131_64, b131_67, b131_68, b131_71, b131_72, b131_75, b131_78, b131_81, b131_84, b131_85, b131_88, b131_91, b131_92, b131_94, b131_97, List.getElem?_cons_zero, List.getElem?_cons_succ, List.length_cons, List.length_nil, List.set_cons_zero, List.set_cons_succ, true_and, and_true, Option.toList_some, Option.toList_none, List.cons_append, List.nil_append, ↓reduceIte, not_false_eq_true, not_true_eq_false, Nat.reduceAdd, xj0_01, xj1_01, xb_B, xb_True, xb_False, ↓gpn_11 q0, ↓gv_0 d1, ↓xj_in, xj_nat, Int.toNat_natCast, xj_lt_t, xj_lt_f, xj_le_t, xj_le_f, xj_eq_t, xj_eq_f, xj_lt, xj_le, xj_eq, xj_add, xj_sub, xj_mul, show ¬ xj 1 = xj 0 from by decide]
                  exact t
            have lp := loop n 0 f (by omega) (fun _ _ => rfl) h w7 w8
            have z0 : (if y = 0 then (ddF S.1 S.2.1 S.2.2.2 0).2.1 else (ddF S.1 S.2.1 S.2.2.2 0).2.2) = 0 := by split <;> rfl
            rw [z0] at lp
            simp (disch := omega) only [b131_0, b131_1, b131_2, b131_5, b131_6, b131_8, b131_11, b131_12, b131_15, b131_16, b131_17, b131_20, b131_21, b131_24, b131_27, b131_30, b131_33, b131_34, b131_35, b131_36, b131_39, b131_42, b131_43, b131_44, b131_46, b131_47, List.getElem?_cons_zero, List.getElem?_cons_succ, List.length_cons, List.length_nil, List.set_cons_zero, List.set_cons_succ, true_and, and_true, Option.toList_some, Option.toList_none, List.cons_append, List.nil_append, ↓reduceIte, not_false_eq_true, not_true_eq_false, Nat.reduceAdd, xj0_01, xj1_01, xb_B, xb_True, xb_False, ↓go_0 ho, ↓go_1 ho, ↓go_2 ho, ↓go_3 ho, ↓go_4 ho, ↓go_5 ho, ↓go_6 ho, ↓go_7 ho, ↓go_8 ho, ↓go_9 ho, ↓go_10 ho, ↓go_11 ho, ↓go_12 ho, ↓go_13 ho, ↓go_14 ho, ↓go_15 ho, ↓ao_1 ho, ↓ao_2 ho, ↓ao_3 ho, ↓ao_4 ho, ↓ao_5 ho, ↓ao_6 ho, ↓ao_7 ho, ↓ao_8 ho, ↓ao_9 ho, ↓gpn_7 p0, ↓gk_0 p5.1, ↓gk_3 p5.1, c5, ↓xj_in, xj_nat, Int.toNat_natCast, xj_lt_t, xj_lt_f, xj_le_t, xj_le_f, xj_eq_t, xj_eq_f, xj_lt, xj_le, xj_eq, xj_add, xj_sub, xj_mul, show ¬ xj 1 = xj 0 from by decide]
            exact lp
          · have ht0 := told01 w1 c5
            have po := no (fun q => c5 q.1)
            simp (disch := omega) only [b131_0, b131_1, b131_2, b131_5, b131_6, b131_8, b131_11, b131_12, b131_15, b131_16, b131_17, b131_20, b131_21, b131_24, b131_27, b131_30, b131_33, b131_34, List.getElem?_cons_zero, List.getElem?_cons_succ, List.length_cons, List.length_nil, List.set_cons_zero, List.set_cons_succ, true_and, and_true, Option.toList_some, Option.toList_none, List.cons_append, List.nil_append, ↓reduceIte, not_false_eq_true, not_true_eq_false, Nat.reduceAdd, xj0_01, xj1_01, xb_B, xb_True, xb_False, ↓go_0 ho, ↓go_1 ho, ↓go_2 ho, ↓go_3 ho, ↓go_4 ho, ↓go_5 ho, ↓go_6 ho, ↓go_7 ho, ↓go_8 ho, ↓go_9 ho, ↓go_10 ho, ↓go_11 ho, ↓go_12 ho, ↓go_13 ho, ↓go_14 ho, ↓go_15 ho, ↓ao_1 ho, ↓ao_2 ho, ↓ao_3 ho, ↓ao_4 ho, ↓ao_5 ho, ↓ao_6 ho, ↓ao_7 ho, ↓ao_8 ho, ↓ao_9 ho, ↓gpn_7 p0, ↓gk_0 p5.1, ht0, ↓xj_in, xj_nat, Int.toNat_natCast, xj_lt_t, xj_lt_f, xj_le_t, xj_le_f, xj_eq_t, xj_eq_f, xj_lt, xj_le, xj_eq, xj_add, xj_sub, xj_mul, show ¬ xj 1 = xj 0 from by decide]
            exact po
        · have po := no (fun q => c4 q.2.2.2)
          simp (disch := omega) only [b131_0, b131_1, b131_2, b131_5, b131_6, b131_8, b131_11, b131_12, b131_15, b131_16, b131_17, b131_20, b131_21, b131_24, b131_27, b131_30, b131_33, b131_34, List.getElem?_cons_zero, List.getElem?_cons_succ, List.length_cons, List.length_nil, List.set_cons_zero, List.set_cons_succ, true_and, and_true, Option.toList_some, Option.toList_none, List.cons_append, List.nil_append, ↓reduceIte, not_false_eq_true, not_true_eq_false, Nat.reduceAdd, xj0_01, xj1_01, xb_B, xb_True, xb_False, ↓xj_in, xj_nat, Int.toNat_natCast, xj_lt_t, xj_lt_f, xj_le_t, xj_le_f, xj_eq_t, xj_eq_f, xj_lt, xj_le, xj_eq, xj_add, xj_sub, xj_mul, show ¬ xj 1 = xj 0 from by decide]
          exact po
      · have po := no (fun q => c3 q.2.2.1)
        simp (disch := omega) only [b131_0, b131_1, b131_2, b131_5, b131_6, b131_8, b131_11, b131_12, b131_15, b131_16, b131_17, b131_20, b131_21, b131_24, b131_27, b131_30, b131_33, b131_34, List.getElem?_cons_zero, List.getElem?_cons_succ, List.length_cons, List.length_nil, List.set_cons_zero, List.set_cons_succ, true_and, and_true, Option.toList_some, Option.toList_none, List.cons_append, List.nil_append, ↓reduceIte, not_false_eq_true, not_true_eq_false, Nat.reduceAdd, xj0_01, xj1_01, xb_B, xb_True, xb_False, ↓xj_in, xj_nat, Int.toNat_natCast, xj_lt_t, xj_lt_f, xj_le_t, xj_le_f, xj_eq_t, xj_eq_f, xj_lt, xj_le, xj_eq, xj_add, xj_sub, xj_mul, show ¬ xj 1 = xj 0 from by decide]
        exact po
    · have po := no (fun q => c2 q.2.1.2)
      simp (disch := omega) only [b131_0, b131_1, b131_2, b131_5, b131_6, b131_8, b131_11, b131_12, b131_15, b131_16, b131_17, b131_20, b131_21, b131_24, b131_27, b131_30, b131_33, b131_34, List.getElem?_cons_zero, List.getElem?_cons_succ, List.length_cons, List.length_nil, List.set_cons_zero, List.set_cons_succ, true_and, and_true, Option.toList_some, Option.toList_none, List.cons_append, List.nil_append, ↓reduceIte, not_false_eq_true, not_true_eq_false, Nat.reduceAdd, xj0_01, xj1_01, xb_B, xb_True, xb_False, ↓xj_in, xj_nat, Int.toNat_natCast, xj_lt_t, xj_lt_f, xj_le_t, xj_le_f, xj_eq_t, xj_eq_f, xj_lt, xj_le, xj_eq, xj_add, xj_sub, xj_mul, show ¬ xj 1 = xj 0 from by decide]
      exact po
  · have po := no (fun q => c1 q.2.1.1)
    simp (disch := omega) only [b131_0, b131_1, b131_2, b131_5, b131_6, b131_8, b131_11, b131_12, b131_15, b131_16, b131_17, b131_20, b131_21, b131_24, b131_27, b131_30, b131_33, b131_34, List.getElem?_cons_zero, List.getElem?_cons_succ, List.length_cons, List.length_nil, List.set_cons_zero, List.set_cons_succ, true_and, and_true, Option.toList_some, Option.toList_none, List.cons_append, List.nil_append, ↓reduceIte, not_false_eq_true, not_true_eq_false, Nat.reduceAdd, xj0_01, xj1_01, xb_B, xb_True, xb_False, ↓xj_in, xj_nat, Int.toNat_natCast, xj_lt_t, xj_lt_f, xj_le_t, xj_le_f, xj_eq_t, xj_eq_f, xj_lt, xj_le, xj_eq, xj_add, xj_sub, xj_mul, show ¬ xj 1 = xj 0 from by decide]
    exact po
end XS9b12
