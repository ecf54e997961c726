/-! rows copied and filled -/
theorem up_at (G : Nat → Int) (p : Nat) (z : Int) : va_up (fun i => xj (G i)) p (xj z) = fun i => xj (if i = p then z else G i) := by
  funext i
  unfold va_up
  by_cases h : i = p
  · rw [if_pos h, if_pos h]
  · rw [if_neg h, if_neg h]
theorem up_up (f : Nat → xk_C) (s : Nat) (c c' : xk_C) : va_up (va_up f s c) s c' = va_up f s c' := by
  funext x
  unfold va_up
  by_cases h : x = s
  · rw [if_pos h, if_pos h]
  · rw [if_neg h, if_neg h, if_neg h]
theorem up_s (f : Nat → xk_C) (s : Nat) (c : xk_C) : va_up f s c s = c := if_pos rfl
theorem up_ne {f : Nat → xk_C} {s x : Nat} {c : xk_C} (h : x ≠ s) : va_up f s c x = f x := if_neg h
theorem up_id {f : Nat → xk_C} {s : Nat} {c : xk_C} (h : f s = c) : va_up f s c = f := by
  funext x
  unfold va_up
  by_cases e : x = s
  · rw [if_pos e, e, h]
  · rw [if_neg e]
def upI (E : Nat → Int) (p : Nat) (z : Int) : Nat → Int := fun i => if i = p then z else E i
def mixI (n : Nat) (g h : Nat → Int) : Nat → Int := fun i => if i < n then g i else h i
theorem mixI_z {n : Nat} {g h : Nat → Int} (hg : ∀ i, n ≤ i → g i = 0) (hh : ∀ i, n ≤ i → h i = 0) : mixI n g h = g := by
  funext i
  unfold mixI
  by_cases e : i < n
  · rw [if_pos e]
  · rw [if_neg e, hg i (by omega), hh i (by omega)]
theorem mixI_0 (g h : Nat → Int) : mixI 0 g h = h := by
  funext i
  unfold mixI
  rw [if_neg (by omega)]
theorem mixI_up (g h : Nat → Int) (k : Nat) : (fun i => if i = k then g k else mixI k g h i) = mixI (k + 1) g h := by
  funext i
  unfold mixI
  by_cases e : i = k
  · subst e; rw [if_pos rfl, if_pos (by omega)]
  · rw [if_neg e]
    by_cases e2 : i < k
    · rw [if_pos e2, if_pos (by omega)]
    · rw [if_neg e2, if_neg (by omega)]
/-- loads and stores in rows -/
theorem al_I {f : Nat → xk_C} {r n : Nat} {g : Nat → Int} {z : Int} {F : Int32 → Prop} (h : f r = xa_I n g) (h1 : 0 ≤ z) (h2 : z < n) (hn : n ≤ 100000) : xk_AL f r 0 (xj z) F ↔ F (xj (g z.toNat)) := by
  unfold xk_AL
  rw [h]
  show (0 = 0 ∧ ¬ (xj z < 0 ∨ n ≤ (xj z).toNatClampNeg) ∧ F (xj (g (xj z).toNatClampNeg))) ↔ _
  rw [xj_nat h1 (by omega)]
  exact ⟨fun q => q.2.2, fun q => ⟨rfl, by rw [← xj_nat h1 (by omega)]; exact (xj_in (n := n) h1 h2 (by omega)).mpr trivial, q⟩⟩
theorem as_I {f : Nat → xk_C} {r n : Nat} {g : Nat → Int} {z v : Int} {F : (Nat → xk_C) → Prop} (h : f r = xa_I n g) (h1 : 0 ≤ z) (h2 : z < n) (hn : n ≤ 100000) : xk_AS f r (xj z) (xj v) F ↔ F (va_up f r (xa_I n (upI g z.toNat v))) := by
  unfold xk_AS
  rw [h]
  show (0 = 0 ∧ ¬ (xj z < 0 ∨ n ≤ (xj z).toNatClampNeg) ∧ F (va_up f r (.inl (0, n, .inl (va_up (fun i => xj (g i)) (xj z).toNatClampNeg (xj v)))))) ↔ _
  rw [xj_nat h1 (by omega), up_at]
  exact ⟨fun q => q.2.2, fun q => ⟨rfl, by rw [← xj_nat h1 (by omega)]; exact (xj_in (n := n) h1 h2 (by omega)).mpr trivial, q⟩⟩
theorem ln_I {f : Nat → xk_C} {r n : Nat} {g : Nat → Int} {F : Int32 → Prop} (h : f r = xa_I n g) : xk_LN f r F ↔ F (xj n) := by
  unfold xk_LN
  rw [h]
  show (0 < 7 ∧ F (Int32.ofNat n)) ↔ _
  rw [xj_ofNat]
  exact ⟨fun q => q.2, fun q => ⟨by decide, q⟩⟩
section XS26r
variable {D r s n : Nat} {f : Nat → xk_C} {w : Nat × Nat × Nat} {K : Option Value → xk_S → Prop} {g h : Nat → Int} {z : Int}
theorem s_copyRow (hD : 1 ≤ D) (hr : f r = xa_I n g) (hs : f s = xa_I n h) (hne : r ≠ s) (hn : n ≤ 1000) : xk_Cl D 138 [.ref r, .ref s] (f, w) K ↔ K none (va_up f s (xa_I n (mixI n g h)), w) := by
  rw [e138 (by omega)]
  simp only [b138_0, b138_1]
  have key := fun j => xk_down (J := Unit) (n := n) (P := fun k _ => xk_B (D - 1) 138 2 [.ref r, .ref s, .int (xj k)] [] (va_up f s (xa_I n (mixI k g h)), w) K) (Q := K none (va_up f s (xa_I n (mixI n g h)), w)) (fun j => ?_) (fun k hk ih j => ?_) 0 (Nat.zero_le _) j
  · have key := key ()
    rw [mixI_0, up_id hs] at key
    exact key
  · have h1 : va_up f s (xa_I n (mixI n g h)) r = xa_I n g := by rw [up_ne hne, hr]
    simp (disch := omega) only [b138_0, b138_1, b138_2, b138_3, b138_4, b138_5, b138_8, b138_9, b138_10, b138_11, b138_14, b138_15, b138_16, b138_17, b138_18, b138_19, b138_20, b138_23, b138_26, List.getElem?_cons_zero, List.getElem?_cons_succ, List.length_cons, List.length_nil, List.set_cons_zero, List.set_cons_succ, true_and, and_true, Option.toList_some, Option.toList_none, List.cons_append, List.nil_append, ↓reduceIte, Nat.reduceAdd, xj0_01, xj1_01, xb_B, xb_True, xb_False, ↓ln_I h1, ↓xj_in, xj_nat, Int.toNat_natCast, xj_lt_t, xj_lt_f, xj_le_t, xj_le_f, xj_eq_t, xj_eq_f, xj_lt, xj_le, xj_eq, xj_add, xj_sub, xj_mul, show ¬ xj 1 = xj 0 from by decide]
  · have h1 : va_up f s (xa_I n (mixI k g h)) r = xa_I n g := by rw [up_ne hne, hr]
    have h2 : va_up f s (xa_I n (mixI k g h)) s = xa_I n (mixI k g h) := up_s f s _
    have e : upI (mixI k g h) k (g k) = mixI (k + 1) g h := mixI_up g h k
    rw [b138_2]
    rw [← ih ()]
    simp (disch := omega) only [b138_0, b138_1, b138_3, b138_4, b138_5, b138_8, b138_9, b138_10, b138_11, b138_14, b138_15, b138_16, b138_17, b138_18, b138_19, b138_20, b138_23, b138_26, List.getElem?_cons_zero, List.getElem?_cons_succ, List.length_cons, List.length_nil, List.set_cons_zero, List.set_cons_succ, true_and, and_true, Option.toList_some, Option.toList_none, List.cons_append, List.nil_append, ↓reduceIte, Nat.reduceAdd, xj0_01, xj1_01, xb_B, xb_True, xb_False, ↓ln_I h1, ↓ln_I h2, ↓al_I h1, ↓as_I h2, ↓xj_in, xj_nat, Int.toNat_natCast, xj_lt_t, xj_lt_f, xj_le_t, xj_le_f, xj_eq_t, xj_eq_f, xj_lt, xj_le, xj_eq, xj_add, xj_sub, xj_mul, show ¬ xj 1 = xj 0 from by decide, up_up, e]
    rfl
theorem s_fillRow (hD : 1 ≤ D) (hs : f s = xa_I n h) (hn : n ≤ 1000) : xk_Cl D 139 [.ref s, .int (xj z)] (f, w) K ↔ K none (va_up f s (xa_I n (mixI n (fun _ => z) h)), w) := by
  rw [e139 (by omega)]
  simp only [b139_0, b139_1]
  have key := fun j => xk_down (J := Unit) (n := n) (P := fun k _ => xk_B (D - 1) 139 2 [.ref s, .int (xj z), .int (xj k)] [] (va_up f s (xa_I n (mixI k (fun _ => z) h)), w) K) (Q := K none (va_up f s (xa_I n (mixI n (fun _ => z) h)), w)) (fun j => ?_) (fun k hk ih j => ?_) 0 (Nat.zero_le _) j
  · have key := key ()
    rw [mixI_0, up_id hs] at key
    exact key
  · have h2 : va_up f s (xa_I n (mixI n (fun _ => z) h)) s = xa_I n (mixI n (fun _ => z) h) := up_s f s _
    simp (disch := omega) only [b139_0, b139_1, b139_2, b139_3, b139_4, b139_5, b139_8, b139_9, b139_10, b139_11, b139_12, b139_15, b139_18, List.getElem?_cons_zero, List.getElem?_cons_succ, List.length_cons, List.length_nil, List.set_cons_zero, List.set_cons_succ, true_and, and_true, Option.toList_some, Option.toList_none, List.cons_append, List.nil_append, ↓reduceIte, Nat.reduceAdd, xj0_01, xj1_01, xb_B, xb_True, xb_False, ↓ln_I h2, ↓xj_in, xj_nat, Int.toNat_natCast, xj_lt_t, xj_lt_f, xj_le_t, xj_le_f, xj_eq_t, xj_eq_f, xj_lt, xj_le, xj_eq, xj_add, xj_sub, xj_mul, show ¬ xj 1 = xj 0 from by decide]
  · have h2 : va_up f s (xa_I n (mixI k (fun _ => z) h)) s = xa_I n (mixI k (fun _ => z) h) := up_s f s _
    have e : upI (mixI k (fun _ => z) h) k z = mixI (k + 1) (fun _ => z) h := mixI_up (fun _ => z) h k
    rw [b139_2]
    rw [← ih ()]
    simp (disch := omega) only [b139_0, b139_1, b139_3, b139_4, b139_5, b139_8, b139_9, b139_10, b139_11, b139_12, b139_15, b139_18, List.getElem?_cons_zero, List.getElem?_cons_succ, List.length_cons, List.length_nil, List.set_cons_zero, List.set_cons_succ, true_and, and_true, Option.toList_some, Option.toList_none, List.cons_append, List.nil_append, ↓reduceIte, Nat.reduceAdd, xj0_01, xj1_01, xb_B, xb_True, xb_False, ↓ln_I h2, ↓as_I h2, ↓xj_in, xj_nat, Int.toNat_natCast, xj_lt_t, xj_lt_f, xj_le_t, xj_le_f, xj_eq_t, xj_eq_f, xj_lt, xj_le, xj_eq, xj_add, xj_sub, xj_mul, show ¬ xj 1 = xj 0 from by decide, up_up, e]
    rfl
end XS26r
