/-! rows of all papers -/
abbrev Ot : Type := Nat × (Nat → Int) × (Nat → Int)
def ordG (np : Nat) (W : (Nat → Int) → Ot → Ot) : Nat → Nat → Nat → (Nat → Int) → Ot → Ot
  | 0, _, _, row, t => W row t
  | n + 1, k, u, row, t => itF (fun t p => if u.testBit p = true then t else ordG np W n (k + 1) (u ||| 2 ^ p) (upI row k p) t) np t
def tlF (row : Nat → Int) (g : Nat → Int) : Nat → Nat → Int
  | 0 => g
  | k + 1 => upI (tlF row g k) (k * 6 + (row k).toNat) (tlF row g k (k * 6 + (row k).toNat) + 1)
def wOr (O : Of) (L : Lg) (row : Nat → Int) (t : Ot) : Ot := if allF O row L = true then (t.1 + 1, (if t.1 = 0 then row else t.2.1), tlF row t.2.2 (of_np O)) else t
theorem tlF_ext {r r' : Nat → Int} {g : Nat → Int} : ∀ n, (∀ i, i < n → r i = r' i) → tlF r g n = tlF r' g n := by
  intro n
  induction n with
  | zero => intro _; rfl
  | succ n ih => intro h; unfold tlF; rw [ih (fun i hi => h i (by omega)), h n (by omega)]
theorem lst_ext {P Q : Nat → Bool} : ∀ n, (∀ i, i < n → P i = Q i) → lstI P n = lstI Q n := by
  intro n
  induction n with
  | zero => intro _; rfl
  | succ n ih => intro h; unfold lstI; rw [ih (fun i hi => h i (by omega)), h n (by omega)]
theorem smF_ext {P Q : Nat → Bool} {g h : Nat → Int} : ∀ n, (∀ i, i < n → P i = Q i) → (∀ i, i < n → g i = h i) → smF P g n = smF Q h n := by
  intro n
  induction n with
  | zero => intro _ _; rfl
  | succ n ih => intro h1 h2; unfold smF; rw [ih (fun i hi => h1 i (by omega)) (fun i hi => h2 i (by omega)), h1 n (by omega), h2 n (by omega)]
theorem plF_ext {O : Of} {r r' : Nat → Int} {z : Int} (h : ∀ i, i < of_np O → r i = r' i) : plF O r z = plF O r' z := lst_ext _ (fun i hi => by rw [h i hi])
theorem ahF_ext {O : Of} {r r' : Nat → Int} {n : Nat} (hn : n ≤ of_np O) (h : ∀ i, i < of_np O → r i = r' i) : ahF O r n = ahF O r' n := smF_ext _ (fun i hi => by rw [h i (by omega)]) (fun i hi => by rw [h i (by omega)])
theorem soF_ext {O : Of} {r r' : Nat → Int} {L : Lg} {k : Nat} (h : ∀ i, i < of_np O → r i = r' i) : soF O r L k = soF O r' L k := by
  have e := fun z => plF_ext (z := z) h
  have hp := lst_rng (fun i => decide (r' i = L.2.2.1 k)) (of_np O)
  unfold soF
  rw [e, e, ahF_ext (n := (plF O r' (L.2.2.1 k)).toNat) (by unfold plF; omega) h]
theorem allF_ext {O : Of} {r r' : Nat → Int} {L : Lg} (h : ∀ i, i < of_np O → r i = r' i) : allF O r L = allF O r' L := by
  unfold allF
  rw [lst_ext (Q := fun k => !soF O r' L k) _ (fun i _ => by rw [soF_ext h])]
def otE (n : Nat) (t t' : Ot) : Prop := t.1 = t'.1 ∧ (0 < t'.1 → ∀ i, i < n → t.2.1 i = t'.2.1 i) ∧ t.2.2 = t'.2.2
theorem wOr_E {O : Of} {L : Lg} {r r' : Nat → Int} {t t' : Ot} (h : ∀ i, i < of_np O → r i = r' i) (e : otE (of_np O) t t') : otE (of_np O) (wOr O L r t) (wOr O L r' t') := by
  obtain ⟨e1, e2, e3⟩ := e
  unfold wOr
  rw [allF_ext h]
  split
  · refine ⟨by show t.1 + 1 = t'.1 + 1; omega, fun _ i hi => ?_, ?_⟩
    · show (if t.1 = 0 then r else t.2.1) i = (if t'.1 = 0 then r' else t'.2.1) i
      rw [e1]
      by_cases c : t'.1 = 0
      · rw [if_pos c, if_pos c]; exact h i hi
      · rw [if_neg c, if_neg c]; exact e2 (by omega) i hi
    · show tlF r t.2.2 (of_np O) = tlF r' t'.2.2 (of_np O)
      rw [e3, tlF_ext _ h]
  · exact ⟨e1, e2, e3⟩
theorem ord_E {O : Of} {L : Lg} : ∀ n k u (r r' : Nat → Int) (t t' : Ot), k + n = of_np O → (∀ i, i < k → r i = r' i) → otE (of_np O) t t' → otE (of_np O) (ordG (of_np O) (wOr O L) n k u r t) (ordG (of_np O) (wOr O L) n k u r' t') := by
  intro n
  induction n with
  | zero => intro k u r r' t t' hk hr e; exact wOr_E (fun i hi => hr i (by omega)) e
  | succ n ih =>
    intro k u r r' t t' hk hr e
    refine itF_rel _ (fun p hp a b e => ?_) _ _ e
    by_cases c : u.testBit p = true
    · rw [if_pos c, if_pos c]; exact e
    · rw [if_neg c, if_neg c]
      refine ih _ _ _ _ _ _ (by omega) (fun i hi => ?_) e
      by_cases c2 : i = k
      · subst c2; rw [up_e, up_e]
      · rw [up_n c2, up_n c2]; exact hr i (by omega)
/-- how many there can be -/
def facF : Nat → Nat
  | 0 => 1
  | n + 1 => 6 * facF n
def otOK (m : Nat) (t : Ot) : Prop := t.1 ≤ m ∧ ∀ i, 0 ≤ t.2.2 i ∧ t.2.2 i ≤ t.1
theorem tl_rng {row g : Nat → Int} {m : Int} : ∀ n, (∀ i, i < n → 0 ≤ row i ∧ row i < 6) → (∀ i, 0 ≤ g i ∧ g i ≤ m) → ∀ i, 0 ≤ tlF row g n i ∧ tlF row g n i ≤ m + (if i < 6 * n then 1 else 0) := by
  intro n
  induction n with
  | zero => intro _ h i; have := h i; unfold tlF; split <;> omega
  | succ n ih =>
    intro h1 h2 i
    have i1 := ih (fun i hi => h1 i (by omega)) h2 i
    have i2 := ih (fun i hi => h1 i (by omega)) h2 (n * 6 + (row n).toNat)
    have h3 := h1 n (by omega)
    unfold tlF upI
    by_cases c : i = n * 6 + (row n).toNat
    · rw [if_pos c, if_pos (by omega)]
      rw [if_neg (by omega)] at i2
      omega
    · rw [if_neg c]
      by_cases c2 : i < 6 * n
      · rw [if_pos c2] at i1; rw [if_pos (by omega)]; exact i1
      · rw [if_neg c2] at i1; split <;> omega
def xv_Or (f : Nat → xk_C) (a : Nat) (t : Ot) (row : Nat → Int) : Prop := f a = .inr (5, [.int (xj t.1), .ref (a + 1), .ref (a + 2), .ref (a + 3)]) ∧ f (a + 1) = xa_I 6 t.2.1 ∧ f (a + 2) = xa_I 36 t.2.2 ∧ f (a + 3) = xa_I 6 row
theorem xv_Or_fr {f f' : Nat → xk_C} {a : Nat} {t : Ot} {row : Nat → Int} (h : xv_Or f a t row) (hf : ∀ x, a ≤ x → x < a + 4 → f' x = f x) : xv_Or f' a t row :=
  ⟨(hf _ (by omega) (by omega)).trans h.1, (hf _ (by omega) (by omega)).trans h.2.1, (hf _ (by omega) (by omega)).trans h.2.2.1, (hf _ (by omega) (by omega)).trans h.2.2.2⟩
def xs_Or (f : Nat → xk_C) (a : Nat) (t : Ot) (row : Nat → Int) : Nat → xk_C := xs f a [.inr (5, [.int (xj t.1), .ref (a + 1), .ref (a + 2), .ref (a + 3)]), xa_I 6 t.2.1, xa_I 36 t.2.2, xa_I 6 row]
section XS57
variable {D a b o l k p q s n : Nat} {f g : Nat → xk_C} {w : Nat × Nat × Nat} {K : Option Value → xk_S → Prop} {O : Of} {L : Lg} {x z y : Int} {t t2 : Ot} {row r : Nat → Int} {V : Value → Prop} {F : Int32 → Prop} {G : (Nat → xk_C) → Prop} {h : Nat → Int}
theorem xv_Or_id (e : xv_Or f a t row) : xs_Or f a t row = f := xv_of (fun k hk => by
  match k, hk with
  | 0, _ => exact congrArg some e.1.symm
  | 1, _ => exact congrArg some e.2.1.symm
  | 2, _ => exact congrArg some e.2.2.1.symm
  | 3, _ => exact congrArg some e.2.2.2.symm)
theorem xs_Or_v : xv_Or (xs_Or f a t row) a t row := ⟨xs_at0 f a _, xs_at f a _ 1, xs_at f a _ 2, xs_at f a _ 3⟩
theorem xs_Or_ne {i : Nat} (e : i < a ∨ a + 4 ≤ i) : xs_Or f a t row i = f i := xs_ne (by show i < a ∨ a + 4 ≤ i; exact e)
theorem xs_Or_2 : xs_Or (xs_Or f a t row) a t2 r = xs_Or f a t2 r := xs_xs rfl
theorem gOr_0 : xk_GF (xs_Or f a t row) a 5 0 V ↔ V (.int (xj t.1)) := gf_R xs_Or_v.1 rfl
theorem gOr_1 : xk_GF (xs_Or f a t row) a 5 1 V ↔ V (.ref (a + 1)) := gf_R xs_Or_v.1 rfl
theorem gOr_2 : xk_GF (xs_Or f a t row) a 5 2 V ↔ V (.ref (a + 2)) := gf_R xs_Or_v.1 rfl
theorem gOr_3 : xk_GF (xs_Or f a t row) a 5 3 V ↔ V (.ref (a + 3)) := gf_R xs_Or_v.1 rfl
theorem pOr_0 : xk_PF (xs_Or f a t row) a 5 0 (.int (xj (n : Nat))) G ↔ G (xs_Or f a (n, t.2) row) := by
  rw [pf_R xs_Or_v.1 (by show 0 < 4; decide)]
  exact iff_of_eq (congrArg G xs_up0)
theorem uOr_1 : va_up (xs_Or f a t row) (a + 1) (xa_I 6 h) = xs_Or f a (t.1, h, t.2.2) row := xs_up (k := 1) (by show 1 < 4; decide)
theorem uOr_2 : va_up (xs_Or f a t row) (a + 2) (xa_I 36 h) = xs_Or f a (t.1, t.2.1, h) row := xs_up (k := 2) (by show 2 < 4; decide)
theorem uOr_3 : va_up (xs_Or f a t row) (a + 3) (xa_I 6 h) = xs_Or f a t h := xs_up (k := 3) (by show 3 < 4; decide)
theorem rc_Or : xk_RC (xs_Or f a t row) a 5 ↔ True := by unfold xk_RC; rw [xs_Or_v.1]; exact ⟨fun _ => trivial, fun _ => rfl⟩
theorem s_oweigh (hD : 5 ≤ D) (ho : xv_Off f o O) (hw : xw_Off O) (hl : xv_Lg f l L) (hwl : xw_Lg O L) (hrow : ∀ i, i < 6 → 0 ≤ row i ∧ row i < 6) (hz : ∀ i, 6 ≤ i → row i = 0) (hz1 : ∀ i, 6 ≤ i → t.2.1 i = 0) (hT : otOK 100000 t) (hoa : o + 9 < a ∨ a + 3 < o) (hla : l + 3 < a ∨ a + 3 < l) : xk_Cl D 49 [.ref a, .ref o, .ref l] (xs_Or f a t row, w) K ↔ K none (xs_Or f a (wOr O L row t) row, w) := by
  rw [e49 (by omega)]
  have hn := hw.2.2.2.1
  have fr : ∀ (t' : Ot) (r' : Nat → Int) (x : Nat), x < a ∨ a + 4 ≤ x → xs_Or f a t' r' x = f x := fun t' r' x hx => xs_Or_ne hx
  have hoq : ∀ (t' : Ot) (r' : Nat → Int), xv_Off (xs_Or f a t' r') o O := fun t' r' => xv_Off_fr ho (fun x h1 h2 => fr t' r' x (by omega))
  have hlq : ∀ (t' : Ot) (r' : Nat → Int), xv_Lg (xs_Or f a t' r') l L := fun t' r' => xv_Lg_fr hl (fun x h1 h2 => fr t' r' x (by omega))
  have rcl : ∀ (t' : Ot) (r' : Nat → Int), xk_RC (xs_Or f a t' r') l 3 ↔ True := fun t' r' => by unfold xk_RC; rw [(hlq t' r').1]; exact ⟨fun _ => trivial, fun _ => rfl⟩
  have all := fun K => s_allSo (D := D - 1) (w := w) (K := K) (by omega) (hoq t row) hw (hlq t row) hwl (xs_Or_v (f := f) (a := a) (t := t) (row := row)).2.2.2 (fun i hi => by have := hrow i hi; omega)
  obtain ⟨hT1, hT2⟩ := hT
  unfold wOr
  cases hA : allF O row L
  · rw [if_neg (by decide)]
    simp (disch := omega) only [b49_0, b49_1, b49_2, b49_3, b49_6, b49_9, b49_12, ↓gOr_3, List.getElem?_cons_zero, List.getElem?_cons_succ, List.length_cons, List.length_nil, List.set_cons_zero, List.set_cons_succ, true_and, and_true, Option.toList_some, Option.toList_none, List.cons_append, List.nil_append, ↓reduceIte, not_false_eq_true, not_true_eq_false, Nat.reduceAdd, xj0_01, xj1_01, xb_B, xb_True, xb_False, ↓xj_in, xj_nat, Int.toNat_natCast, xj_lt_t, xj_lt_f, xj_le_t, xj_le_f, xj_eq_t, xj_eq_f, xj_lt, xj_le, xj_eq, xj_add, xj_sub, xj_mul, show ¬ xj 1 = xj 0 from by decide, rcl, all, hA, Bool.false_eq_true, xb_F]
  · rw [if_pos rfl]
    have tail : ∀ t1 : Ot, t1.1 = t.1 → t1.2.2 = t.2.2 → (xk_B (D - 1) 49 31 [.ref a, .ref o, .ref l, xk_dd] [] (xs_Or f a t1 row, w) K ↔ K none (xs_Or f a (t.1 + 1, t1.2.1, tlF row t.2.2 (of_np O)) row, w)) := by
      intro t1 e1 e2
      have pr0 : ∀ (G : (Nat → xk_C) → Prop), xk_PF (xs_Or f a t1 row) a 5 0 (.int (xj ((t.1 : Int) + 1))) G ↔ G (xs_Or f a (t.1 + 1, t1.2) row) := fun G => pOr_0 (n := t.1 + 1)
      simp (disch := omega) only [b49_31, b49_32, b49_33, b49_36, b49_37, b49_38, b49_41, b49_42, ↓gOr_0, e1, List.getElem?_cons_zero, List.getElem?_cons_succ, List.length_cons, List.length_nil, List.set_cons_zero, List.set_cons_succ, true_and, and_true, Option.toList_some, Option.toList_none, List.cons_append, List.nil_append, ↓reduceIte, not_false_eq_true, not_true_eq_false, Nat.reduceAdd, xj0_01, xj1_01, xb_B, xb_True, xb_False, ↓xj_in, xj_nat, Int.toNat_natCast, xj_lt_t, xj_lt_f, xj_le_t, xj_le_f, xj_eq_t, xj_eq_f, xj_lt, xj_le, xj_eq, xj_add, xj_sub, xj_mul, show ¬ xj 1 = xj 0 from by decide, ↓pr0]
      have key := xk_down (J := Unit) (n := of_np O) (P := fun r _ => xk_B (D - 1) 49 43 [.ref a, .ref o, .ref l, .int (xj r)] [] (xs_Or f a (t.1 + 1, t1.2.1, tlF row t.2.2 r) row, w) K) (Q := K none (xs_Or f a (t.1 + 1, t1.2.1, tlF row t.2.2 (of_np O)) row, w)) (fun j => ?_) (fun r hr ih j => ?_) 0 (Nat.zero_le _) ()
      · have e0 : t1.2 = (t1.2.1, tlF row t.2.2 0) := by rw [← e2]; rfl
        rw [e0]
        exact key
      · simp (disch := omega) only [b49_43, b49_44, b49_45, b49_48, b49_77, ↓go_0 (hoq _ _), ↓go_1 (hoq _ _), ↓go_2 (hoq _ _), ↓go_3 (hoq _ _), ↓go_4 (hoq _ _), ↓go_5 (hoq _ _), ↓go_6 (hoq _ _), ↓go_7 (hoq _ _), ↓go_8 (hoq _ _), ↓go_9 (hoq _ _), ↓go_10 (hoq _ _), ↓go_11 (hoq _ _), ↓go_12 (hoq _ _), ↓go_13 (hoq _ _), ↓go_14 (hoq _ _), ↓go_15 (hoq _ _), ↓ao_1 (hoq _ _), ↓ao_2 (hoq _ _), ↓ao_3 (hoq _ _), ↓ao_4 (hoq _ _), ↓ao_5 (hoq _ _), ↓ao_6 (hoq _ _), ↓ao_7 (hoq _ _), ↓ao_8 (hoq _ _), ↓ao_9 (hoq _ _), List.getElem?_cons_zero, List.getElem?_cons_succ, List.length_cons, List.length_nil, List.set_cons_zero, List.set_cons_succ, true_and, and_true, Option.toList_some, Option.toList_none, List.cons_append, List.nil_append, ↓reduceIte, not_false_eq_true, not_true_eq_false, Nat.reduceAdd, xj0_01, xj1_01, xb_B, xb_True, xb_False, ↓xj_in, xj_nat, Int.toNat_natCast, xj_lt_t, xj_lt_f, xj_le_t, xj_le_f, xj_eq_t, xj_eq_f, xj_lt, xj_le, xj_eq, xj_add, xj_sub, xj_mul, show ¬ xj 1 = xj 0 from by decide]
      · have hx := hrow r (by omega)
        obtain ⟨p, hp⟩ : ∃ p : Nat, row r = p := ⟨(row r).toNat, by omega⟩
        rw [b49_43, ← ih ()]
        have e : tlF row t.2.2 (r + 1) = upI (tlF row t.2.2 r) (r * 6 + p) (tlF row t.2.2 r (r * 6 + p) + 1) := by
          show upI (tlF row t.2.2 r) (r * 6 + (row r).toNat) _ = _
          rw [hp, Int.toNat_natCast]
        rw [e]
        have c2 : ∀ t', xs_Or f a t' row (a + 2) = xa_I 36 t'.2.2 := fun t' => xs_Or_v.2.2.1
        have c3 : ∀ t', xs_Or f a t' row (a + 3) = xa_I 6 row := fun t' => xs_Or_v.2.2.2
        simp (disch := omega) only [b49_44, b49_45, b49_48, b49_51, b49_52, b49_55, b49_56, b49_58, b49_59, b49_60, b49_63, b49_64, b49_65, b49_66, b49_67, b49_68, b49_69, b49_70, b49_71, b49_74, ↓gOr_2, ↓gOr_3, ↓go_0 (hoq _ _), ↓go_1 (hoq _ _), ↓go_2 (hoq _ _), ↓go_3 (hoq _ _), ↓go_4 (hoq _ _), ↓go_5 (hoq _ _), ↓go_6 (hoq _ _), ↓go_7 (hoq _ _), ↓go_8 (hoq _ _), ↓go_9 (hoq _ _), ↓go_10 (hoq _ _), ↓go_11 (hoq _ _), ↓go_12 (hoq _ _), ↓go_13 (hoq _ _), ↓go_14 (hoq _ _), ↓go_15 (hoq _ _), ↓ao_1 (hoq _ _), ↓ao_2 (hoq _ _), ↓ao_3 (hoq _ _), ↓ao_4 (hoq _ _), ↓ao_5 (hoq _ _), ↓ao_6 (hoq _ _), ↓ao_7 (hoq _ _), ↓ao_8 (hoq _ _), ↓ao_9 (hoq _ _), List.getElem?_cons_zero, List.getElem?_cons_succ, List.length_cons, List.length_nil, List.set_cons_zero, List.set_cons_succ, true_and, and_true, Option.toList_some, Option.toList_none, List.cons_append, List.nil_append, ↓reduceIte, not_false_eq_true, not_true_eq_false, Nat.reduceAdd, xj0_01, xj1_01, xb_B, xb_True, xb_False, ↓xj_in, xj_nat, Int.toNat_natCast, xj_lt_t, xj_lt_f, xj_le_t, xj_le_f, xj_eq_t, xj_eq_f, xj_lt, xj_le, xj_eq, xj_add, xj_sub, xj_mul, show ¬ xj 1 = xj 0 from by decide, tn_add, tn_mul, tn_sub, Int.toNat_natCast, Int.reduceToNat, ↓al_I (c3 _), hp, ↓al_I (c2 _), ↓as_I (c2 _), uOr_2]
        rfl
    by_cases c : t.1 = 0
    · rw [if_pos c]
      have t3 := tail (t.1, row, t.2.2) rfl rfl
      rw [← t3]
      have m0 : mixI 6 row t.2.1 = row := mixI_z hz hz1
      have c1 : xs_Or f a t row (a + 1) = xa_I 6 t.2.1 := xs_Or_v.2.1
      have c3 : xs_Or f a t row (a + 3) = xa_I 6 row := xs_Or_v.2.2.2
      have c0 : (t.1 : Int) = 0 := by omega
      simp (disch := omega) only [b49_0, b49_1, b49_2, b49_3, b49_6, b49_9, b49_12, b49_13, b49_14, b49_17, b49_20, b49_21, b49_24, b49_25, ↓gOr_3, ↓gOr_1, ↓gOr_0, List.getElem?_cons_zero, List.getElem?_cons_succ, List.length_cons, List.length_nil, List.set_cons_zero, List.set_cons_succ, true_and, and_true, Option.toList_some, Option.toList_none, List.cons_append, List.nil_append, ↓reduceIte, not_false_eq_true, not_true_eq_false, Nat.reduceAdd, xj0_01, xj1_01, xb_B, xb_True, xb_False, ↓xj_in, xj_nat, Int.toNat_natCast, xj_lt_t, xj_lt_f, xj_le_t, xj_le_f, xj_eq_t, xj_eq_f, xj_lt, xj_le, xj_eq, xj_add, xj_sub, xj_mul, show ¬ xj 1 = xj 0 from by decide, rcl, all, hA, xb_T, c0]
      rw [b49_28, s_copyRow (by omega) c3 c1 (by omega) (by decide), m0, uOr_1]
      simp only [List.getElem?_cons_zero, List.getElem?_cons_succ, List.length_cons, List.length_nil, List.set_cons_zero, List.set_cons_succ, true_and, and_true, Option.toList_some, Option.toList_none, List.cons_append, List.nil_append, ↓reduceIte, not_false_eq_true, not_true_eq_false, Nat.reduceAdd, xj0_01, xj1_01, xb_B, xb_True, xb_False]
    · rw [if_neg c]
      have t3 := tail t rfl rfl
      rw [← t3]
      simp (disch := omega) only [b49_0, b49_1, b49_2, b49_3, b49_6, b49_9, b49_12, b49_13, b49_14, b49_17, ↓gOr_3, ↓gOr_0, List.getElem?_cons_zero, List.getElem?_cons_succ, List.length_cons, List.length_nil, List.set_cons_zero, List.set_cons_succ, true_and, and_true, Option.toList_some, Option.toList_none, List.cons_append, List.nil_append, ↓reduceIte, not_false_eq_true, not_true_eq_false, Nat.reduceAdd, xj0_01, xj1_01, xb_B, xb_True, xb_False, ↓xj_in, xj_nat, Int.toNat_natCast, xj_lt_t, xj_lt_f, xj_le_t, xj_le_f, xj_eq_t, xj_eq_f, xj_lt, xj_le, xj_eq, xj_add, xj_sub, xj_mul, show ¬ xj 1 = xj 0 from by decide, rcl, all, hA, xb_T]
end XS57
