/-! rows of all papers: the class's search -/
def osP (O : Of) (L : Lg) (o a l n : Nat) : Prop := ∀ (D k m u : Nat) (f : Nat → xk_C) (w : Nat × Nat × Nat) (K : Option Value → xk_S → Prop) (t tA : Ot) (row prow : Nat → Int), k + n = of_np O → n + 6 ≤ D → xv_Off f o O → xv_Lg f l L → xv_Or f a t prow → (∀ i, i < k → prow i = row i) → u < 64 → (∀ i, i < 6 → 0 ≤ prow i ∧ prow i < 6) → (∀ i, 6 ≤ i → prow i = 0) → (∀ i, 6 ≤ i → t.2.1 i = 0) → otOK m t → m + facF n ≤ 50000 → otE (of_np O) t tA →
  (∀ f' t' prow', xv_Or f' a t' prow' → (∀ x, x < a ∨ a + 4 ≤ x → f' x = f x) → (∀ i, i < k → prow' i = prow i) → (∀ i, i < 6 → 0 ≤ prow' i ∧ prow' i < 6) → (∀ i, 6 ≤ i → prow' i = 0) → (∀ i, 6 ≤ i → t'.2.1 i = 0) → otOK (m + facF n) t' → otE (of_np O) t' (ordG (of_np O) (wOr O L) n k u row tA) → K none (f', w)) →
  xk_Cl D 48 [.ref a, .ref o, .ref l, .int (xj k), .int (xj u)] (f, w) K
theorem wOr_OK {O : Of} {L : Lg} {row : Nat → Int} {t : Ot} {m : Nat} (hn : of_np O ≤ 6) (hrow : ∀ i, i < 6 → 0 ≤ row i ∧ row i < 6) (h : otOK m t) : otOK (m + 1) (wOr O L row t) := by
  obtain ⟨h1, h2⟩ := h
  unfold wOr
  split
  · refine ⟨by show t.1 + 1 ≤ m + 1; omega, fun i => ?_⟩
    have h3 := tl_rng (row := row) (g := t.2.2) (m := t.1) (of_np O) (fun i hi => hrow i (by omega)) h2 i
    show 0 ≤ tlF row t.2.2 (of_np O) i ∧ tlF row t.2.2 (of_np O) i ≤ ((t.1 + 1 : Nat) : Int)
    split at h3 <;> omega
  · exact ⟨by omega, h2⟩
theorem u_osIn {O : Of} {L : Lg} {o a l : Nat} (hw : xw_Off O) (hwl : xw_Lg O L) (hoa : o + 9 < a ∨ a + 3 < o) (hla : l + 3 < a ∨ a + 3 < l) (n : Nat) (hch : ∀ n', n = n' + 1 → osP O L o a l n') : osP O L o a l n := by
  intro D k m u f w K t tA row prow hkn hD ho hl hor hrow hu hpr hpz htz hT hm hE hpost
  have hn := hw.2.2.2.1
  have rco : ∀ {f : Nat → xk_C} {t : Ot} {r : Nat → Int}, xv_Or f a t r → (xk_RC f a 5 ↔ True) := fun h => by unfold xk_RC; rw [h.1]; exact ⟨fun _ => trivial, fun _ => rfl⟩
  rw [e48 (by omega)]
  cases n with
  | zero =>
    have hk : k = of_np O := by omega
    have e1 : wOr O L prow t = wOr O L prow t := rfl
    have post := hpost (xs_Or f a (wOr O L prow t) prow) (wOr O L prow t) prow xs_Or_v (fun x hx => xs_Or_ne hx) (fun _ _ => rfl) hpr hpz (fun i hi => by
      unfold wOr
      split
      · show (if t.1 = 0 then prow else t.2.1) i = 0
        split
        · exact hpz i hi
        · exact htz i hi
      · exact htz i hi) (wOr_OK hn hpr hT) (wOr_E (fun i hi => hrow i (by omega)) hE)
    have ids := xv_Or_id hor
    have hT' : otOK 100000 t := ⟨by have := hT.1; unfold facF at hm; omega, hT.2⟩
    have wg := fun K => s_oweigh (D := D - 1) (w := w) (K := K) (by omega) ho hw hl hwl hpr hpz htz hT' hoa hla (f := f) (a := a) (t := t) (row := prow)
    rw [ids] at wg
    simp (disch := omega) only [b48_0, b48_1, b48_4, b48_5, b48_6, b48_9, b48_12, b48_13, b48_15, b48_18, b48_19, b48_20, List.getElem?_cons_zero, List.getElem?_cons_succ, List.length_cons, List.length_nil, List.set_cons_zero, List.set_cons_succ, true_and, and_true, Option.toList_some, Option.toList_none, List.cons_append, List.nil_append, ↓reduceIte, not_false_eq_true, not_true_eq_false, Nat.reduceAdd, xj0_01, xj1_01, xb_B, xb_True, xb_False, ↓xj_in, xj_nat, Int.toNat_natCast, xj_lt_t, xj_lt_f, xj_le_t, xj_le_f, xj_eq_t, xj_eq_f, xj_lt, xj_le, xj_eq, xj_add, xj_sub, xj_mul, show ¬ xj 1 = xj 0 from by decide, ↓go_0 ho, ↓go_1 ho, ↓go_2 ho, ↓go_3 ho, ↓go_4 ho, ↓go_5 ho, ↓go_6 ho, ↓go_7 ho, ↓go_8 ho, ↓go_9 ho, ↓go_10 ho, ↓go_11 ho, ↓go_12 ho, ↓go_13 ho, ↓go_14 ho, ↓go_15 ho, ↓ao_1 ho, ↓ao_2 ho, ↓ao_3 ho, ↓ao_4 ho, ↓ao_5 ho, ↓ao_6 ho, ↓ao_7 ho, ↓ao_8 ho, ↓ao_9 ho]
    rw [b48_21, rco hor, true_and, wg]
    simp (disch := omega) only [b48_24, List.getElem?_cons_zero, List.getElem?_cons_succ, List.length_cons, List.length_nil, List.set_cons_zero, List.set_cons_succ, true_and, and_true, Option.toList_some, Option.toList_none, List.cons_append, List.nil_append, ↓reduceIte, not_false_eq_true, not_true_eq_false, Nat.reduceAdd, xj0_01, xj1_01, xb_B, xb_True, xb_False]
    exact post
  | succ n =>
    have hk : k < of_np O := by omega
    have hf : facF (n + 1) = 6 * facF n := rfl
    simp (disch := omega) only [b48_0, b48_1, b48_4, b48_5, b48_6, b48_9, b48_12, b48_13, b48_15, b48_18, b48_19, b48_20, b48_21, b48_24, b48_25, b48_26, List.getElem?_cons_zero, List.getElem?_cons_succ, List.length_cons, List.length_nil, List.set_cons_zero, List.set_cons_succ, true_and, and_true, Option.toList_some, Option.toList_none, List.cons_append, List.nil_append, ↓reduceIte, not_false_eq_true, not_true_eq_false, Nat.reduceAdd, xj0_01, xj1_01, xb_B, xb_True, xb_False, ↓xj_in, xj_nat, Int.toNat_natCast, xj_lt_t, xj_lt_f, xj_le_t, xj_le_f, xj_eq_t, xj_eq_f, xj_lt, xj_le, xj_eq, xj_add, xj_sub, xj_mul, show ¬ xj 1 = xj 0 from by decide, ↓go_0 ho, ↓go_1 ho, ↓go_2 ho, ↓go_3 ho, ↓go_4 ho, ↓go_5 ho, ↓go_6 ho, ↓go_7 ho, ↓go_8 ho, ↓go_9 ho, ↓go_10 ho, ↓go_11 ho, ↓go_12 ho, ↓go_13 ho, ↓go_14 ho, ↓go_15 ho, ↓ao_1 ho, ↓ao_2 ho, ↓ao_3 ho, ↓ao_4 ho, ↓ao_5 ho, ↓ao_6 ho, ↓ao_7 ho, ↓ao_8 ho, ↓ao_9 ho]
    have loop : ∀ (mm j : Nat) (g : Nat → xk_C) (tj : Ot) (pj : Nat → Int), j + mm = of_np O → xv_Or g a tj pj → (∀ x, x < a ∨ a + 4 ≤ x → g x = f x) → (∀ i, i < k → pj i = prow i) → (∀ i, i < 6 → 0 ≤ pj i ∧ pj i < 6) → (∀ i, 6 ≤ i → pj i = 0) → (∀ i, 6 ≤ i → tj.2.1 i = 0) → otOK (m + j * facF n) tj → otE (of_np O) tj (itF (fun t p => if u.testBit p = true then t else ordG (of_np O) (wOr O L) n (k + 1) (u ||| 2 ^ p) (upI row k p) t) j tA) → xk_B (D - 1) 48 28 [.ref a, .ref o, .ref l, .int (xj k), .int (xj u), .int (xj j)] [] (g, w) K := by
      intro mm
      induction mm with
      | zero =>
        intro j g tj pj hj hoj hg hpk hp6 hpz htz hTj hEj
        have hj : j = of_np O := by omega
        subst hj
        have hog : xv_Off g o O := xv_Off_fr ho (fun x h1 h2 => hg x (by omega))
        have le : of_np O * facF n ≤ 6 * facF n := Nat.mul_le_mul_right _ hn
        have h1 := hpost g tj pj hoj hg hpk hp6 hpz htz ⟨by have := hTj.1; omega, hTj.2⟩ hEj
        simp (disch := omega) only [b48_28, b48_30, b48_31, b48_34, b48_77, List.getElem?_cons_zero, List.getElem?_cons_succ, List.length_cons, List.length_nil, List.set_cons_zero, List.set_cons_succ, true_and, and_true, Option.toList_some, Option.toList_none, List.cons_append, List.nil_append, ↓reduceIte, not_false_eq_true, not_true_eq_false, Nat.reduceAdd, xj0_01, xj1_01, xb_B, xb_True, xb_False, ↓go_0 hog, ↓go_1 hog, ↓go_2 hog, ↓go_3 hog, ↓go_4 hog, ↓go_5 hog, ↓go_6 hog, ↓go_7 hog, ↓go_8 hog, ↓go_9 hog, ↓go_10 hog, ↓go_11 hog, ↓go_12 hog, ↓go_13 hog, ↓go_14 hog, ↓go_15 hog, ↓ao_1 hog, ↓ao_2 hog, ↓ao_3 hog, ↓ao_4 hog, ↓ao_5 hog, ↓ao_6 hog, ↓ao_7 hog, ↓ao_8 hog, ↓ao_9 hog, ↓xj_in, xj_nat, Int.toNat_natCast, xj_lt_t, xj_lt_f, xj_le_t, xj_le_f, xj_eq_t, xj_eq_f, xj_lt, xj_le, xj_eq, xj_add, xj_sub, xj_mul, show ¬ xj 1 = xj 0 from by decide]
        exact h1
      | succ mm ihm =>
        intro j g tj pj hj hoj hg hpk hp6 hpz htz hTj hEj
        have hjn : j < of_np O := by omega
        have hog : xv_Off g o O := xv_Off_fr ho (fun x h1 h2 => hg x (by omega))
        have hlg : xv_Lg g l L := xv_Lg_fr hl (fun x h1 h2 => hg x (by omega))
        have sm : (j + 1) * facF n = j * facF n + facF n := Nat.succ_mul _ _
        have le : (j + 1) * facF n ≤ 6 * facF n := Nat.mul_le_mul_right _ (by omega)
        rw [b48_28]
        cases hb : u.testBit j
        · have e1 : xv_Or (va_up g (a + 3) (xa_I 6 (upI pj k (j : Int)))) a tj (upI pj k (j : Int)) := by
            rw [← xv_Or_id hoj, uOr_3]; exact xs_Or_v
          have ge : ∀ V : Value → Prop, xk_GF g a 5 3 V ↔ V (.ref (a + 3)) := fun V => gf_R hoj.1 rfl
          have pb : u ||| 2 ^ j < 64 := Nat.or_lt_two_pow (n := 6) hu (Nat.pow_lt_pow_right (by decide) (by omega))
          have hc := hch n rfl (D - 1) (k + 1) (m + j * facF n) (u ||| 2 ^ j) (va_up g (a + 3) (xa_I 6 (upI pj k (j : Int)))) w (fun v σ' => xk_B (D - 1) 48 71 [.ref a, .ref o, .ref l, .int (xj k), .int (xj u), .int (xj j)] (v.toList ++ []) σ' K) tj _ (upI row k j) (upI pj k (j : Int)) (by omega) (by omega) (xv_Off_fr hog (fun x h1 h2 => up_ne (by omega))) (xv_Lg_fr hlg (fun x h1 h2 => up_ne (by omega))) e1 (fun i hi => ?_) pb (fun i hi => ?_) (fun i hi => ?_) htz hTj (by omega) hEj (fun f' t' prow' g1 g2 g3 g4 g5 g6 g7 g8 => ?_)
          · simp (disch := omega) only [b48_30, b48_31, b48_34, b48_37, b48_39, b48_41, b48_44, b48_47, b48_48, b48_51, b48_52, b48_54, b48_55, b48_56, b48_57, b48_58, b48_59, b48_60, b48_61, b48_63, b48_64, b48_66, b48_67, List.getElem?_cons_zero, List.getElem?_cons_succ, List.length_cons, List.length_nil, List.set_cons_zero, List.set_cons_succ, true_and, and_true, Option.toList_some, Option.toList_none, List.cons_append, List.nil_append, ↓reduceIte, not_false_eq_true, not_true_eq_false, Nat.reduceAdd, xj0_01, xj1_01, xb_B, xb_True, xb_False, ↓xj_in, xj_nat, Int.toNat_natCast, xj_lt_t, xj_lt_f, xj_le_t, xj_le_f, xj_eq_t, xj_eq_f, xj_lt, xj_le, xj_eq, xj_add, xj_sub, xj_mul, show ¬ xj 1 = xj 0 from by decide, tn_add, tn_mul, tn_sub, Int.toNat_natCast, Int.reduceToNat, ↓go_0 hog, ↓go_1 hog, ↓go_2 hog, ↓go_3 hog, ↓go_4 hog, ↓go_5 hog, ↓go_6 hog, ↓go_7 hog, ↓go_8 hog, ↓go_9 hog, ↓go_10 hog, ↓go_11 hog, ↓go_12 hog, ↓go_13 hog, ↓go_14 hog, ↓go_15 hog, ↓ao_1 hog, ↓ao_2 hog, ↓ao_3 hog, ↓ao_4 hog, ↓ao_5 hog, ↓ao_6 hog, ↓ao_7 hog, ↓ao_8 hog, ↓ao_9 hog, s_has, hb, Bool.false_eq_true, xb_F, ↓ge, ↓as_I hoj.2.2.2, xj_shl1 (k := j) (by omega), xj_or (show u < 2147483648 by omega) (p2lt (by omega : j < 31))]
            rw [b48_68]
            exact hc
          · by_cases c : i = k
            · subst c; rw [up_e, up_e]
            · rw [up_n c, up_n c, hpk i (by omega)]; exact hrow i (by omega)
          · by_cases c : i = k
            · subst c; rw [up_e]; omega
            · rw [up_n c]; exact hp6 i hi
          · rw [up_n (by omega)]; exact hpz i hi
          · have t1 := ihm (j + 1) f' t' prow' (by omega) g1 (fun x hx => (g2 x hx).trans ((up_ne (by omega)).trans (hg x hx))) (fun i hi => by rw [g3 i (by omega), up_n (by omega)]; exact hpk i hi) g4 g5 g6 (by rw [sm, ← Nat.add_assoc]; exact g7) (by
              show otE (of_np O) t' (if u.testBit j = true then _ else _)
              rw [hb, if_neg (by decide)]
              exact g8)
            simp (disch := omega) only [b48_71, b48_74, List.getElem?_cons_zero, List.getElem?_cons_succ, List.length_cons, List.length_nil, List.set_cons_zero, List.set_cons_succ, true_and, and_true, Option.toList_some, Option.toList_none, List.cons_append, List.nil_append, ↓reduceIte, not_false_eq_true, not_true_eq_false, Nat.reduceAdd, xj0_01, xj1_01, xb_B, xb_True, xb_False, ↓xj_in, xj_nat, Int.toNat_natCast, xj_lt_t, xj_lt_f, xj_le_t, xj_le_f, xj_eq_t, xj_eq_f, xj_lt, xj_le, xj_eq, xj_add, xj_sub, xj_mul, show ¬ xj 1 = xj 0 from by decide]
            exact t1
        · have t1 := ihm (j + 1) g tj pj (by omega) hoj hg hpk hp6 hpz htz ⟨by have := hTj.1; omega, hTj.2⟩ (by
            show otE (of_np O) tj (if u.testBit j = true then _ else _)
            rw [hb, if_pos rfl]
            exact hEj)
          simp (disch := omega) only [b48_30, b48_31, b48_34, b48_37, b48_39, b48_41, b48_44, b48_71, b48_74, List.getElem?_cons_zero, List.getElem?_cons_succ, List.length_cons, List.length_nil, List.set_cons_zero, List.set_cons_succ, true_and, and_true, Option.toList_some, Option.toList_none, List.cons_append, List.nil_append, ↓reduceIte, not_false_eq_true, not_true_eq_false, Nat.reduceAdd, xj0_01, xj1_01, xb_B, xb_True, xb_False, ↓xj_in, xj_nat, Int.toNat_natCast, xj_lt_t, xj_lt_f, xj_le_t, xj_le_f, xj_eq_t, xj_eq_f, xj_lt, xj_le, xj_eq, xj_add, xj_sub, xj_mul, show ¬ xj 1 = xj 0 from by decide, tn_add, tn_mul, tn_sub, Int.toNat_natCast, Int.reduceToNat, ↓go_0 hog, ↓go_1 hog, ↓go_2 hog, ↓go_3 hog, ↓go_4 hog, ↓go_5 hog, ↓go_6 hog, ↓go_7 hog, ↓go_8 hog, ↓go_9 hog, ↓go_10 hog, ↓go_11 hog, ↓go_12 hog, ↓go_13 hog, ↓go_14 hog, ↓go_15 hog, ↓ao_1 hog, ↓ao_2 hog, ↓ao_3 hog, ↓ao_4 hog, ↓ao_5 hog, ↓ao_6 hog, ↓ao_7 hog, ↓ao_8 hog, ↓ao_9 hog, s_has, hb, xb_T]
          exact t1
    have h0 : m + 0 * facF n = m := by rw [Nat.zero_mul, Nat.add_zero]
    exact loop (of_np O) 0 f t prow (by omega) hor (fun _ _ => rfl) (fun _ _ => rfl) hpr hpz htz (by rw [h0]; exact hT) hE
theorem u_oseek {O : Of} {L : Lg} {o a l : Nat} (hw : xw_Off O) (hwl : xw_Lg O L) (hoa : o + 9 < a ∨ a + 3 < o) (hla : l + 3 < a ∨ a + 3 < l) (n : Nat) : osP O L o a l n := by
  induction n with
  | zero => exact u_osIn hw hwl hoa hla 0 (fun n' h => by omega)
  | succ n ih => exact u_osIn hw hwl hoa hla (n + 1) (fun n' h => by cases h; exact ih)
def ot0 : Ot := (0, (fun _ => 0), fun _ => 0)
def ordF (O : Of) (L : Lg) : Ot := ordG (of_np O) (wOr O L) (of_np O) 0 0 row0 ot0
def paF (g : Nat → Int) (k n : Nat) : Nat := msk (fun p => decide (0 < g (k * 6 + p))) n
def maF (g : Nat → Int) (k : Nat) : Nat → Int
  | 0 => 0
  | p + 1 => if maF g k p < g (k * 6 + p) then g (k * 6 + p) else maF g k p
theorem maF_rng {g : Nat → Int} {k : Nat} {m : Int} (h : ∀ i, 0 ≤ g i ∧ g i ≤ m) (hm : 0 ≤ m) : ∀ n, 0 ≤ maF g k n ∧ maF g k n ≤ m := by
  intro n
  induction n with
  | zero => exact ⟨Int.le_refl _, hm⟩
  | succ n ih =>
    have := h (k * 6 + n)
    unfold maF
    split <;> omega
section XS58
variable {D a b o l k p q s n : Nat} {f g : Nat → xk_C} {w : Nat × Nat × Nat} {K : Option Value → xk_S → Prop} {O : Of} {L : Lg} {x z y : Int} {t t2 : Ot} {row r : Nat → Int}
theorem u_find (hD : 13 ≤ D) (ho : xv_Off f o O) (hw : xw_Off O) (hl : xv_Lg f l L) (hwl : xw_Lg O L) (hor : xv_Or f a t row) (hpr : ∀ i, i < 6 → 0 ≤ row i ∧ row i < 6) (hpz : ∀ i, 6 ≤ i → row i = 0) (htz : ∀ i, 6 ≤ i → t.2.1 i = 0) (htz2 : ∀ i, 36 ≤ i → t.2.2 i = 0) (hoa : o + 9 < a ∨ a + 3 < o) (hla : l + 3 < a ∨ a + 3 < l)
    (hpost : ∀ f' t' row', xv_Or f' a t' row' → (∀ x, x < a ∨ a + 4 ≤ x → f' x = f x) → (∀ i, i < 6 → 0 ≤ row' i ∧ row' i < 6) → (∀ i, 6 ≤ i → row' i = 0) → (∀ i, 6 ≤ i → t'.2.1 i = 0) → otOK 50000 t' → otE (of_np O) t' (ordF O L) → K none (f', w)) : xk_Cl D 47 [.ref a, .ref o, .ref l] (f, w) K := by
  rw [e47 (by omega), ← xv_Or_id hor]
  have hn := hw.2.2.2.1
  have hf : facF (of_np O) ≤ 46656 := by
    have : ∀ n, n ≤ 6 → facF n ≤ 46656 := by decide
    exact this _ hn
  have p0 : ∀ G : (Nat → xk_C) → Prop, xk_PF (xs_Or f a t row) a 5 0 (.int (xj 0)) G ↔ G (xs_Or f a (0, t.2) row) := fun G => pOr_0 (n := 0)
  have c2 : xs_Or f a (0, t.2) row (a + 2) = xa_I 36 t.2.2 := xs_Or_v.2.2.1
  have m0 : mixI 36 (fun _ => 0) t.2.2 = fun _ => 0 := mixI_z (fun _ _ => rfl) htz2
  simp (disch := omega) only [b47_0, b47_1, b47_2, b47_5, b47_6, b47_9, ↓p0, ↓gOr_2, List.getElem?_cons_zero, List.getElem?_cons_succ, List.length_cons, List.length_nil, List.set_cons_zero, List.set_cons_succ, true_and, and_true, Option.toList_some, Option.toList_none, List.cons_append, List.nil_append, ↓reduceIte, not_false_eq_true, not_true_eq_false, Nat.reduceAdd, xj0_01, xj1_01, xb_B, xb_True, xb_False]
  rw [b47_10, s_fillRow (by omega) c2 (by decide), m0, uOr_2]
  have fr : ∀ (t' : Ot) (x : Nat), x < a ∨ a + 4 ≤ x → xs_Or f a t' row x = f x := fun t' x hx => xs_Or_ne hx
  simp (disch := omega) only [b47_13, b47_14, b47_15, b47_16, b47_17, List.getElem?_cons_zero, List.getElem?_cons_succ, List.length_cons, List.length_nil, List.set_cons_zero, List.set_cons_succ, true_and, and_true, Option.toList_some, Option.toList_none, List.cons_append, List.nil_append, ↓reduceIte, not_false_eq_true, not_true_eq_false, Nat.reduceAdd, xj0_01, xj1_01, xb_B, xb_True, xb_False]
  rw [b47_18]
  refine u_oseek hw hwl hoa hla (of_np O) (D - 1) 0 0 0 _ w _ (0, t.2.1, fun _ => 0) ot0 row0 row (by omega) (by omega) (xv_Off_fr ho (fun x h1 h2 => fr _ x (by omega))) (xv_Lg_fr hl (fun x h1 h2 => fr _ x (by omega))) xs_Or_v (fun i hi => by omega) (by omega) hpr hpz htz ⟨Nat.le_refl _, fun i => ⟨Int.le_refl _, Int.le_refl _⟩⟩ (by omega) ⟨rfl, fun h => by have h : 0 < 0 := h; omega, rfl⟩ (fun f' t' prow' g1 g2 g3 g4 g5 g6 g7 g8 => ?_)
  have post := hpost f' t' prow' g1 (fun x hx => (g2 x hx).trans (fr _ x hx)) g4 g5 g6 ⟨by have := g7.1; omega, g7.2⟩ g8
  simp (disch := omega) only [b47_21, List.getElem?_cons_zero, List.getElem?_cons_succ, List.length_cons, List.length_nil, List.set_cons_zero, List.set_cons_succ, true_and, and_true, Option.toList_some, Option.toList_none, List.cons_append, List.nil_append, ↓reduceIte, not_false_eq_true, not_true_eq_false, Nat.reduceAdd, xj0_01, xj1_01, xb_B, xb_True, xb_False]
  exact post
theorem s_papersAt (hD : 1 ≤ D) (hor : xv_Or f a t row) (hk : k < 6) (hT : otOK 50000 t) : xk_Cl D 50 [.ref a, .int (xj k)] (f, w) K ↔ K (some (.int (xj (paF t.2.2 k 6 : Nat)))) (f, w) := by
  rw [e50 (by omega)]
  have ge : ∀ V : Value → Prop, xk_GF f a 5 2 V ↔ V (.ref (a + 2)) := fun V => gf_R hor.1 rfl
  obtain ⟨hT1, hT2⟩ := hT
  simp only [b50_0, b50_1, b50_2, b50_3]
  unfold paF
  refine xk_down (J := Unit) (n := 6) (P := fun r _ => xk_B (D - 1) 50 4 [.ref a, .int (xj k), .int (xj (msk (fun p => decide (0 < t.2.2 (k * 6 + p))) r : Nat)), .int (xj r)] [] (f, w) K) (fun j => ?_) (fun r hr ih j => ?_) 0 (Nat.zero_le _) ()
  · simp (disch := omega) only [b50_0, b50_1, b50_2, b50_3, b50_4, b50_5, b50_7, b50_10, b50_11, b50_14, b50_15, b50_17, b50_18, b50_19, b50_20, b50_21, b50_24, b50_25, b50_26, b50_27, b50_28, b50_29, b50_30, b50_33, b50_36, b50_37, List.getElem?_cons_zero, List.getElem?_cons_succ, List.length_cons, List.length_nil, List.set_cons_zero, List.set_cons_succ, true_and, and_true, Option.toList_some, Option.toList_none, List.cons_append, List.nil_append, ↓reduceIte, not_false_eq_true, not_true_eq_false, Nat.reduceAdd, xj0_01, xj1_01, xb_B, xb_True, xb_False, ↓xj_in, xj_nat, Int.toNat_natCast, xj_lt_t, xj_lt_f, xj_le_t, xj_le_f, xj_eq_t, xj_eq_f, xj_lt, xj_le, xj_eq, xj_add, xj_sub, xj_mul, show ¬ xj 1 = xj 0 from by decide]
  · have hx := hT2 (k * 6 + r)
    have hm := msk_lt31 (fun p => decide (0 < t.2.2 (k * 6 + p))) (n := r) (by omega)
    rw [b50_4, ← ih ()]
    by_cases c : 0 < t.2.2 (k * 6 + r)
    · have e : msk (fun p => decide (0 < t.2.2 (k * 6 + p))) (r + 1) = msk (fun p => decide (0 < t.2.2 (k * 6 + p))) r ||| 2 ^ r := by show (if _ then _ else _) = _; rw [if_pos (decide_eq_true c)]
      rw [e]
      simp (disch := omega) only [b50_5, b50_7, b50_10, b50_11, b50_14, b50_15, b50_17, b50_18, b50_19, b50_20, b50_21, b50_24, b50_25, b50_26, b50_27, b50_28, b50_29, b50_30, b50_33, ↓ge, List.getElem?_cons_zero, List.getElem?_cons_succ, List.length_cons, List.length_nil, List.set_cons_zero, List.set_cons_succ, true_and, and_true, Option.toList_some, Option.toList_none, List.cons_append, List.nil_append, ↓reduceIte, not_false_eq_true, not_true_eq_false, Nat.reduceAdd, xj0_01, xj1_01, xb_B, xb_True, xb_False, ↓xj_in, xj_nat, Int.toNat_natCast, xj_lt_t, xj_lt_f, xj_le_t, xj_le_f, xj_eq_t, xj_eq_f, xj_lt, xj_le, xj_eq, xj_add, xj_sub, xj_mul, show ¬ xj 1 = xj 0 from by decide, tn_add, tn_mul, tn_sub, Int.toNat_natCast, Int.reduceToNat, ↓al_I hor.2.2.1, xj_shl1 (k := r) (by omega), xj_or hm (p2lt (by omega : r < 31))]
      rfl
    · have e : msk (fun p => decide (0 < t.2.2 (k * 6 + p))) (r + 1) = msk (fun p => decide (0 < t.2.2 (k * 6 + p))) r := by show (if _ then _ else _) = _; rw [if_neg (fun q => c (of_decide_eq_true q))]
      rw [e]
      simp (disch := omega) only [b50_5, b50_7, b50_10, b50_11, b50_14, b50_15, b50_17, b50_18, b50_19, b50_20, b50_21, b50_24, b50_25, b50_26, b50_27, b50_28, b50_29, b50_30, b50_33, ↓ge, List.getElem?_cons_zero, List.getElem?_cons_succ, List.length_cons, List.length_nil, List.set_cons_zero, List.set_cons_succ, true_and, and_true, Option.toList_some, Option.toList_none, List.cons_append, List.nil_append, ↓reduceIte, not_false_eq_true, not_true_eq_false, Nat.reduceAdd, xj0_01, xj1_01, xb_B, xb_True, xb_False, ↓xj_in, xj_nat, Int.toNat_natCast, xj_lt_t, xj_lt_f, xj_le_t, xj_le_f, xj_eq_t, xj_eq_f, xj_lt, xj_le, xj_eq, xj_add, xj_sub, xj_mul, show ¬ xj 1 = xj 0 from by decide, tn_add, tn_mul, tn_sub, Int.toNat_natCast, Int.reduceToNat, ↓al_I hor.2.2.1]
      rfl
theorem s_mostAlike (hD : 1 ≤ D) (hor : xv_Or f a t row) (hk : k < 6) (hT : otOK 50000 t) : xk_Cl D 51 [.ref a, .int (xj k)] (f, w) K ↔ K (some (.int (xj (maF t.2.2 k 6)))) (f, w) := by
  rw [e51 (by omega)]
  have ge : ∀ V : Value → Prop, xk_GF f a 5 2 V ↔ V (.ref (a + 2)) := fun V => gf_R hor.1 rfl
  obtain ⟨hT1, hT2⟩ := hT
  simp only [b51_0, b51_1, b51_2, b51_3]
  refine xk_down (J := Unit) (n := 6) (P := fun r _ => xk_B (D - 1) 51 4 [.ref a, .int (xj k), .int (xj (maF t.2.2 k r)), .int (xj r)] [] (f, w) K) (fun j => ?_) (fun r hr ih j => ?_) 0 (Nat.zero_le _) ()
  · simp (disch := omega) only [b51_0, b51_1, b51_2, b51_3, b51_4, b51_5, b51_7, b51_10, b51_11, b51_12, b51_15, b51_16, b51_18, b51_19, b51_20, b51_21, b51_22, b51_25, b51_26, b51_29, b51_32, b51_33, List.getElem?_cons_zero, List.getElem?_cons_succ, List.length_cons, List.length_nil, List.set_cons_zero, List.set_cons_succ, true_and, and_true, Option.toList_some, Option.toList_none, List.cons_append, List.nil_append, ↓reduceIte, not_false_eq_true, not_true_eq_false, Nat.reduceAdd, xj0_01, xj1_01, xb_B, xb_True, xb_False, ↓xj_in, xj_nat, Int.toNat_natCast, xj_lt_t, xj_lt_f, xj_le_t, xj_le_f, xj_eq_t, xj_eq_f, xj_lt, xj_le, xj_eq, xj_add, xj_sub, xj_mul, show ¬ xj 1 = xj 0 from by decide]
  · have hx := hT2 (k * 6 + r)
    have hm := maF_rng (k := k) hT2 (by omega) r
    rw [b51_4, ← ih ()]
    have e : maF t.2.2 k (r + 1) = if maF t.2.2 k r < t.2.2 (k * 6 + r) then t.2.2 (k * 6 + r) else maF t.2.2 k r := rfl
    rw [e]
    by_cases c : maF t.2.2 k r < t.2.2 (k * 6 + r)
    · rw [if_pos c]
      simp (disch := omega) only [b51_5, b51_7, b51_10, b51_11, b51_12, b51_15, b51_16, b51_18, b51_19, b51_20, b51_21, b51_22, b51_25, b51_26, b51_29, ↓ge, List.getElem?_cons_zero, List.getElem?_cons_succ, List.length_cons, List.length_nil, List.set_cons_zero, List.set_cons_succ, true_and, and_true, Option.toList_some, Option.toList_none, List.cons_append, List.nil_append, ↓reduceIte, not_false_eq_true, not_true_eq_false, Nat.reduceAdd, xj0_01, xj1_01, xb_B, xb_True, xb_False, ↓xj_in, xj_nat, Int.toNat_natCast, xj_lt_t, xj_lt_f, xj_le_t, xj_le_f, xj_eq_t, xj_eq_f, xj_lt, xj_le, xj_eq, xj_add, xj_sub, xj_mul, show ¬ xj 1 = xj 0 from by decide, tn_add, tn_mul, tn_sub, Int.toNat_natCast, Int.reduceToNat, ↓al_I hor.2.2.1]
      rfl
    · rw [if_neg c]
      simp (disch := omega) only [b51_5, b51_7, b51_10, b51_11, b51_12, b51_15, b51_16, b51_18, b51_19, b51_20, b51_21, b51_22, b51_25, b51_26, b51_29, ↓ge, List.getElem?_cons_zero, List.getElem?_cons_succ, List.length_cons, List.length_nil, List.set_cons_zero, List.set_cons_succ, true_and, and_true, Option.toList_some, Option.toList_none, List.cons_append, List.nil_append, ↓reduceIte, not_false_eq_true, not_true_eq_false, Nat.reduceAdd, xj0_01, xj1_01, xb_B, xb_True, xb_False, ↓xj_in, xj_nat, Int.toNat_natCast, xj_lt_t, xj_lt_f, xj_le_t, xj_le_f, xj_eq_t, xj_eq_f, xj_lt, xj_le, xj_eq, xj_add, xj_sub, xj_mul, show ¬ xj 1 = xj 0 from by decide, tn_add, tn_mul, tn_sub, Int.toNat_natCast, Int.reduceToNat, ↓al_I hor.2.2.1]
      rfl
end XS58
