/-! the class reads a rule: its draft, values -/
/-- a rule at r: its steps -/
def xL (f : Nat → xk_C) (r : Nat) (cs : List St) : Prop := ∃ st op : Nat → Int, f r = .inr (7, [.ref (r + 1), .ref (r + 2), .int (xj (cs.length : Nat)), .ref (r + 3)]) ∧ f (r + 1) = xa_I 400 st ∧ f (r + 2) = xa_I 400 op ∧ cs.length ≤ 400 ∧ ∀ i c, cs[i]? = some c → st i = (c.1 : Nat) ∧ op i = (c.2 : Nat)
theorem xL_fr {f f' : Nat → xk_C} {r : Nat} {cs : List St} (h : xL f r cs) (hf : ∀ x, r ≤ x → x < r + 3 → f' x = f x) : xL f' r cs := by
  obtain ⟨st, op, h0, h1, h2, h3⟩ := h
  exact ⟨st, op, by rw [hf r (by omega) (by omega)]; exact h0, by rw [hf (r + 1) (by omega) (by omega)]; exact h1, by rw [hf (r + 2) (by omega) (by omega)]; exact h2, h3⟩
def addC (cs : List St) (c : St) : List St := if cs.length < 400 then cs ++ [c] else cs
theorem addC_y {cs : List St} {c : St} (h : cs.length < 400) : addC cs c = cs ++ [c] := if_pos h
/-- the reader at a (its draft at a+1) with the text at t -/
def xRd (f : Nat → xk_C) (a t : Nat) (T : Nat → Int) (n : Nat) (s : Ps) (fa : Nat) : Prop := xT f t T n s.1 fa ∧ f a = .inr (8, [.ref (a + 1), .int (xj (s.2.1 : Nat))]) ∧ s.2.1 ≤ 60 ∧ xL f (a + 1) s.2.2
def frRd (a t : Nat) (f f' : Nat → xk_C) : Prop := ∀ x, x ≠ t → (x < a ∨ a + 4 ≤ x) → f' x = f x
theorem frRd_t {a t : Nat} {f f' f'' : Nat → xk_C} (h : frRd a t f f') (h' : frRd a t f' f'') : frRd a t f f'' := fun x h1 h2 => (h' x h1 h2).trans (h x h1 h2)
theorem frRd_r (a t : Nat) (f : Nat → xk_C) : frRd a t f f := fun _ _ _ => rfl
/-- what a reading of G comes to: faults of before stay -/
def rdR (G : Ps → Pr) (s : Ps) (fa : Nat) (s' : Ps) (fa' : Nat) : Prop := (fa = 0 → (fa' = 0 ∧ G s = .inr s') ∨ (fa' ≠ 0 ∧ G s = .inl fa')) ∧ (fa ≠ 0 → fa' = fa)
def rdK (G : Ps → Pr) (T : Nat → Int) (n a t : Nat) (f : Nat → xk_C) (s : Ps) (fa : Nat) (w : Nat × Nat × Nat) (K : Option Value → xk_S → Prop) : Prop := ∀ f' s' fa', frRd a t f f' → xRd f' a t T n s' fa' → rdR G s fa s' fa' → K none (f', w)
theorem up_ap {cs : List St} {st : Nat → Int} {v : Int} {c : St} {F : St → Int} (h : ∀ i c, cs[i]? = some c → st i = F c) (hv : v = F c) : ∀ i c', (cs ++ [c])[i]? = some c' → upI st cs.length v i = F c' := by
  intro i c' hi
  rcases Nat.lt_trichotomy i cs.length with hl | hl | hl
  · rw [List.getElem?_append_left hl] at hi
    rw [up_n (by omega)]
    exact h i c' hi
  · subst hl
    rw [List.getElem?_append_right (Nat.le_refl _), Nat.sub_self] at hi
    cases hi
    rw [up_e, hv]
  · rw [List.getElem?_append_right (by omega)] at hi
    obtain ⟨j, hj⟩ : ∃ j, i - cs.length = j + 1 := ⟨i - cs.length - 1, by omega⟩
    rw [hj] at hi
    cases hi
section XS98
variable {D a b k p q n r t c v fa : Nat} {f g : Nat → xk_C} {w : Nat × Nat × Nat} {K : Option Value → xk_S → Prop} {x y z : Int} {T : Nat → Int} {V : Value → Prop} {F : Int32 → Prop} {G : (Nat → xk_C) → Prop} {s : Ps} {cs : List St} {st op : Nat → Int}
theorem rc_L (h : xL f r cs) : xk_RC f r 7 ↔ True := by obtain ⟨st, op, h0, _⟩ := h; exact rc_R h0
theorem u_add (hD : 1 ≤ D) (h : xL f r cs) (hpost : ∀ f', (∀ x, (x < r ∨ r + 3 ≤ x) → f' x = f x) → xL f' r (addC cs (c, v)) → K none (f', w)) : xk_Cl D 62 [.ref r, .int (xj (c : Nat)), .int (xj (v : Nat))] (f, w) K := by
  rw [e62 (by omega)]
  have hx := h
  obtain ⟨st, op, h0, h1, h2, h3, h4⟩ := h
  have g0 : ∀ V, xk_GF f r 7 0 V ↔ V (.ref (r + 1)) := fun V => gf_R h0 rfl
  have g1 : ∀ V, xk_GF f r 7 1 V ↔ V (.ref (r + 2)) := fun V => gf_R h0 rfl
  have g2 : ∀ V, xk_GF f r 7 2 V ↔ V (.int (xj (cs.length : Nat))) := fun V => gf_R h0 rfl
  by_cases hl : cs.length < 400
  · have ex : xs f r [.inr (7, [.ref (r + 1), .ref (r + 2), .int (xj (cs.length : Nat)), .ref (r + 3)]), xa_I 400 st, xa_I 400 op] = f := xv_of (fun k hk => by
      match k, hk with
      | 0, _ => exact congrArg some h0.symm
      | 1, _ => exact congrArg some h1.symm
      | 2, _ => exact congrArg some h2.symm)
    have e1 : ((cs.length : Nat) : Int) + 1 = ((cs.length + 1 : Nat) : Int) := by omega
    -- the three cells, whatever they hold
    have k0 : ∀ (m : Nat) (A B : Nat → Int), xs f r [.inr (7, [.ref (r + 1), .ref (r + 2), .int (xj (m : Nat)), .ref (r + 3)]), xa_I 400 A, xa_I 400 B] r = .inr (7, [.ref (r + 1), .ref (r + 2), .int (xj (m : Nat)), .ref (r + 3)]) := fun m A B => xs_at0 f r _
    have k1 : ∀ (m : Nat) (A B : Nat → Int), xs f r [.inr (7, [.ref (r + 1), .ref (r + 2), .int (xj (m : Nat)), .ref (r + 3)]), xa_I 400 A, xa_I 400 B] (r + 1) = xa_I 400 A := fun m A B => xs_at f r _ 1
    have k2 : ∀ (m : Nat) (A B : Nat → Int), xs f r [.inr (7, [.ref (r + 1), .ref (r + 2), .int (xj (m : Nat)), .ref (r + 3)]), xa_I 400 A, xa_I 400 B] (r + 2) = xa_I 400 B := fun m A B => xs_at f r _ 2
    have q0 : ∀ (m : Nat) (A B : Nat → Int) V, xk_GF (xs f r [.inr (7, [.ref (r + 1), .ref (r + 2), .int (xj (m : Nat)), .ref (r + 3)]), xa_I 400 A, xa_I 400 B]) r 7 0 V ↔ V (.ref (r + 1)) := fun m A B V => gf_R (k0 m A B) rfl
    have q1 : ∀ (m : Nat) (A B : Nat → Int) V, xk_GF (xs f r [.inr (7, [.ref (r + 1), .ref (r + 2), .int (xj (m : Nat)), .ref (r + 3)]), xa_I 400 A, xa_I 400 B]) r 7 1 V ↔ V (.ref (r + 2)) := fun m A B V => gf_R (k0 m A B) rfl
    have q2 : ∀ (m : Nat) (A B : Nat → Int) V, xk_GF (xs f r [.inr (7, [.ref (r + 1), .ref (r + 2), .int (xj (m : Nat)), .ref (r + 3)]), xa_I 400 A, xa_I 400 B]) r 7 2 V ↔ V (.int (xj (m : Nat))) := fun m A B V => gf_R (k0 m A B) rfl
    have l1 : ∀ (m : Nat) (A B : Nat → Int) F, xk_LN (xs f r [.inr (7, [.ref (r + 1), .ref (r + 2), .int (xj (m : Nat)), .ref (r + 3)]), xa_I 400 A, xa_I 400 B]) (r + 1) F ↔ F (xj (400 : Nat)) := fun m A B F => ln_I (k1 m A B)
    have l2 : ∀ (m : Nat) (A B : Nat → Int) F, xk_LN (xs f r [.inr (7, [.ref (r + 1), .ref (r + 2), .int (xj (m : Nat)), .ref (r + 3)]), xa_I 400 A, xa_I 400 B]) (r + 2) F ↔ F (xj (400 : Nat)) := fun m A B F => ln_I (k2 m A B)
    have s1 : ∀ (A B : Nat → Int) (u : Int) G, xk_AS (xs f r [.inr (7, [.ref (r + 1), .ref (r + 2), .int (xj (cs.length : Nat)), .ref (r + 3)]), xa_I 400 A, xa_I 400 B]) (r + 1) (xj (cs.length : Nat)) (xj u) G ↔ G (xs f r [.inr (7, [.ref (r + 1), .ref (r + 2), .int (xj (cs.length : Nat)), .ref (r + 3)]), xa_I 400 (upI A cs.length u), xa_I 400 B]) := fun A B u G => (as_I (k1 _ A B) (by omega) (by omega) (by decide)).trans (iff_of_eq (congrArg G (xs_up (k := 1) (by show 1 < 3; decide))))
    have s2 : ∀ (A B : Nat → Int) (u : Int) G, xk_AS (xs f r [.inr (7, [.ref (r + 1), .ref (r + 2), .int (xj (cs.length : Nat)), .ref (r + 3)]), xa_I 400 A, xa_I 400 B]) (r + 2) (xj (cs.length : Nat)) (xj u) G ↔ G (xs f r [.inr (7, [.ref (r + 1), .ref (r + 2), .int (xj (cs.length : Nat)), .ref (r + 3)]), xa_I 400 A, xa_I 400 (upI B cs.length u)]) := fun A B u G => (as_I (k2 _ A B) (by omega) (by omega) (by decide)).trans (iff_of_eq (congrArg G (xs_up (k := 2) (by show 2 < 3; decide))))
    have p2 : ∀ (A B : Nat → Int) (m m' : Nat) G, xk_PF (xs f r [.inr (7, [.ref (r + 1), .ref (r + 2), .int (xj (m : Nat)), .ref (r + 3)]), xa_I 400 A, xa_I 400 B]) r 7 2 (.int (xj (m' : Nat))) G ↔ G (xs f r [.inr (7, [.ref (r + 1), .ref (r + 2), .int (xj (m' : Nat)), .ref (r + 3)]), xa_I 400 A, xa_I 400 B]) := fun A B m m' G => (pf_R (k0 m A B) (by show 2 < 4; decide)).trans (iff_of_eq (congrArg G xs_up0))
    have po := hpost (xs f r [.inr (7, [.ref (r + 1), .ref (r + 2), .int (xj (cs.length + 1 : Nat)), .ref (r + 3)]), xa_I 400 (upI st cs.length (c : Nat)), xa_I 400 (upI op cs.length (v : Nat))]) (fun x hx => xs_ne (by show x < r ∨ r + 3 ≤ x; exact hx)) (by
      rw [addC_y hl]
      refine ⟨upI st cs.length (c : Nat), upI op cs.length (v : Nat), ?_, k1 _ _ _, k2 _ _ _, ?_, fun i c' hi => ?_⟩
      · rw [List.length_append]; exact k0 _ _ _
      · rw [List.length_append]; show cs.length + 1 ≤ 400; omega
      · exact ⟨up_ap (F := fun c => (c.1 : Int)) (fun i c hi => (h4 i c hi).1) rfl i c' hi, up_ap (F := fun c => (c.2 : Int)) (fun i c hi => (h4 i c hi).2) rfl i c' hi⟩)
    rw [← ex]
    simp (disch := omega) only [b62_0, b62_1, b62_4, b62_7, b62_8, b62_11, b62_12, b62_15, b62_16, b62_19, b62_20, b62_23, b62_24, b62_27, b62_28, b62_31, b62_32, b62_35, b62_36, b62_39, b62_40, b62_41, b62_42, b62_45, b62_46, b62_49, b62_50, b62_51, b62_52, b62_53, b62_56, b62_57, b62_58, b62_61, List.getElem?_cons_zero, List.getElem?_cons_succ, List.length_cons, List.length_nil, List.set_cons_zero, List.set_cons_succ, true_and, and_true, Option.toList_some, Option.toList_none, List.cons_append, List.nil_append, ↓reduceIte, not_false_eq_true, not_true_eq_false, Nat.reduceAdd, xj0_01, xj1_01, xb_B, xb_True, xb_False, ↓q0, ↓q1, ↓q2, ↓l1, ↓l2, ↓s1, ↓s2, ↓p2, ↓xj_in, xj_nat, Int.toNat_natCast, xj_lt_t, xj_lt_f, xj_le_t, xj_le_f, xj_eq_t, xj_eq_f, xj_lt, xj_le, xj_eq, xj_add, xj_sub, xj_mul, show ¬ xj 1 = xj 0 from by decide, e1]
    exact po
  · have po := hpost f (fun _ _ => rfl) (by unfold addC; rw [if_neg hl]; exact hx)
    have e4 : cs.length = 400 := by omega
    simp (disch := omega) only [b62_0, b62_1, b62_4, b62_7, b62_8, b62_11, b62_12, b62_15, b62_16, b62_61, List.getElem?_cons_zero, List.getElem?_cons_succ, List.length_cons, List.length_nil, List.set_cons_zero, List.set_cons_succ, true_and, and_true, Option.toList_some, Option.toList_none, List.cons_append, List.nil_append, ↓reduceIte, not_false_eq_true, not_true_eq_false, Nat.reduceAdd, xj0_01, xj1_01, xb_B, xb_True, xb_False, ↓g0, ↓g2, ↓ln_I h1, ↓xj_in, xj_nat, Int.toNat_natCast, xj_lt_t, xj_lt_f, xj_le_t, xj_le_f, xj_eq_t, xj_eq_f, xj_lt, xj_le, xj_eq, xj_add, xj_sub, xj_mul, show ¬ xj 1 = xj 0 from by decide]
    exact po
theorem u_Rclear (hD : 1 ≤ D) (h : xL f r cs) (hpost : ∀ f', (∀ x, (x < r ∨ r + 3 ≤ x) → f' x = f x) → xL f' r [] → K none (f', w)) : xk_Cl D 61 [.ref r] (f, w) K := by
  rw [e61 (by omega)]
  obtain ⟨st, op, h0, h1, h2, h3, h4⟩ := h
  have po := hpost (va_up f r (.inr (7, [.ref (r + 1), .ref (r + 2), .int (xj 0), .ref (r + 3)]))) (fun x hx => up_ne (by omega)) ⟨st, op, up_s _ _ _, by rw [up_ne (by omega)]; exact h1, by rw [up_ne (by omega)]; exact h2, Nat.zero_le _, fun i c hi => by cases hi⟩
  have p2 : ∀ v G, xk_PF f r 7 2 v G ↔ G (va_up f r (.inr (7, [.ref (r + 1), .ref (r + 2), v, .ref (r + 3)]))) := fun v G => pf_R h0 (by show 2 < 4; decide)
  simp (disch := omega) only [b61_0, b61_1, b61_2, b61_5, List.getElem?_cons_zero, List.getElem?_cons_succ, List.length_cons, List.length_nil, List.set_cons_zero, List.set_cons_succ, true_and, and_true, Option.toList_some, Option.toList_none, List.cons_append, List.nil_append, ↓reduceIte, not_false_eq_true, not_true_eq_false, Nat.reduceAdd, xj0_01, xj1_01, xb_B, xb_True, xb_False, ↓p2, ↓xj_in, xj_nat, Int.toNat_natCast, xj_lt_t, xj_lt_f, xj_le_t, xj_le_f, xj_eq_t, xj_eq_f, xj_lt, xj_le, xj_eq, xj_add, xj_sub, xj_mul, show ¬ xj 1 = xj 0 from by decide]
  exact po
theorem grd_0 (h : xRd f a t T n s fa) : xk_GF f a 8 0 V ↔ V (.ref (a + 1)) := gf_R h.2.1 rfl
theorem grd_1 (h : xRd f a t T n s fa) : xk_GF f a 8 1 V ↔ V (.int (xj (s.2.1 : Nat))) := gf_R h.2.1 rfl
theorem rc_Rd (h : xRd f a t T n s fa) : xk_RC f a 8 ↔ True := rc_R h.2.1
/-- the text moved, or a fault in it -/
theorem xRd_T {f' : Nat → xk_C} {p' fa' : Nat} (hta : t + 4 ≤ a) (h : xRd f a t T n s fa) (hf : ∀ x, x ≠ t → f' x = f x) (hT : xT f' t T n p' fa') : xRd f' a t T n (p', s.2) fa' ∧ frRd a t f f' := ⟨⟨hT, by rw [hf a (by omega)]; exact h.2.1, h.2.2.1, xL_fr h.2.2.2 (fun x h1 h2 => hf x (by omega))⟩, fun x h1 _ => hf x h1⟩
/-- the draft's steps -/
theorem xRd_L {f' : Nat → xk_C} {cs' : List St} (hta : t + 4 ≤ a) (h : xRd f a t T n s fa) (hf : ∀ x, (x < a + 1 ∨ a + 1 + 3 ≤ x) → f' x = f x) (hL : xL f' (a + 1) cs') : xRd f' a t T n (s.1, s.2.1, cs') fa ∧ frRd a t f f' := ⟨⟨xT_fr h.1 (fun x h1 h2 => hf x (by omega)), by rw [hf a (by omega)]; exact h.2.1, h.2.2.1, hL⟩, fun x _ h2 => hf x (by omega)⟩
/-- one part more -/
theorem xRd_1 (hta : t + 4 ≤ a) (h : xRd f a t T n s fa) (hp : s.2.1 < 60) : xRd (va_up f a (.inr (8, [.ref (a + 1), .int (xj (s.2.1 + 1 : Nat))]))) a t T n (s.1, s.2.1 + 1, s.2.2) fa ∧ frRd a t f (va_up f a (.inr (8, [.ref (a + 1), .int (xj (s.2.1 + 1 : Nat))]))) := ⟨⟨xT_fr h.1 (fun x h1 h2 => up_ne (by omega)), up_s _ _ _, by show s.2.1 + 1 ≤ 60; omega, xL_fr h.2.2.2 (fun x h1 h2 => up_ne (by omega))⟩, fun x _ h2 => up_ne (by omega)⟩
theorem prd_1 (h : xRd f a t T n s fa) : xk_PF f a 8 1 (.int (xj (k : Nat))) G ↔ G (va_up f a (.inr (8, [.ref (a + 1), .int (xj (k : Nat))]))) := pf_R h.2.1 (by show 1 < 2; decide)
theorem rd_rng (h : xRd f a t T n s fa) : atP T n s.1 ∧ tOK T n ∧ fa ≤ 4000 := xT_at h.1
/-- a fault noted: 1 + 8 * its place and k -/
theorem rdR_no {G : Ps → Pr} {s s' : Ps} {fa k : Nat} (h : G s = .inl (1 + 8 * s.1 + k)) : rdR G s fa s' (if fa = 0 then 1 + 8 * s.1 + k else fa) := by
  constructor
  · intro h0
    rw [if_pos h0]
    exact Or.inr ⟨by omega, h⟩
  · intro h0
    rw [if_neg h0]
theorem u_failR (hD : 1 ≤ D) (hta : t + 4 ≤ a) (h : xRd f a t T n s fa) (hk : k ≤ 4) (hpost : ∀ f', frRd a t f f' → xRd f' a t T n s (if fa = 0 then 1 + 8 * s.1 + k else fa) → K none (f', w)) : xk_Cl D 95 [.ref t, .int (xj (k : Nat))] (f, w) K :=
  u_fail hD h.1 hk (fun f' h1 h2 => hpost f' (xRd_T hta h h1 h2).2 (xRd_T hta h h1 h2).1)
theorem u_stepR (hD : 1 ≤ D) (hta : t + 4 ≤ a) (h : xRd f a t T n s fa) (hp : s.1 < n) (hpost : ∀ f', frRd a t f f' → xRd f' a t T n (nxT T n s.1, s.2) fa → K none (f', w)) : xk_Cl D 94 [.ref t] (f, w) K :=
  u_step hD h.1 hp (fun f' h1 h2 => hpost f' (xRd_T hta h h1 h2).2 (xRd_T hta h h1 h2).1)
theorem u_addR (hD : 1 ≤ D) (hta : t + 4 ≤ a) (h : xRd f a t T n s fa) (hpost : ∀ f', frRd a t f f' → xRd f' a t T n (s.1, s.2.1, addC s.2.2 (c, v)) fa → K none (f', w)) : xk_Cl D 62 [.ref (a + 1), .int (xj (c : Nat)), .int (xj (v : Nat))] (f, w) K :=
  u_add hD h.2.2.2 (fun f' h1 h2 => hpost f' (xRd_L hta h h1 h2).2 (xRd_L hta h h1 h2).1)
theorem u_markR (hD : 3 ≤ D) (hta : t + 4 ≤ a) (h : xRd f a t T n s fa) (hm : z = 59 ∨ z = 91 ∨ z = 93) (hyes : seeF T n s.1 = z → ∀ f', frRd a t f f' → xRd f' a t T n (nxT T n s.1, s.2) fa → K none (f', w)) (hno : seeF T n s.1 ≠ z → ∀ f', frRd a t f f' → xRd f' a t T n s (if fa = 0 then 1 + 8 * s.1 else fa) → K none (f', w)) : xk_Cl D 96 [.ref t, .int (xj z)] (f, w) K :=
  u_takeMark hD h.1 hm (fun e f' h1 h2 => hyes e f' (xRd_T hta h h1 h2).2 (xRd_T hta h h1 h2).1) (fun e f' h1 h2 => hno e f' (xRd_T hta h h1 h2).2 (xRd_T hta h h1 h2).1)
theorem c_value (hD : 2 ≤ D) (hta : t + 4 ≤ a) (h : xRd f a t T n s fa) (hr : fa = 0 → s.2.2.length < s.1) (hpost : rdK (gVal T n) T n a t f s fa w K) : xk_Cl D 77 [.ref a, .ref t] (f, w) K := by
  rw [e77 (by omega)]
  obtain ⟨ha, hT, hfa⟩ := rd_rng h
  have hn := hT.1
  have hkr := kd_rng T n s.1
  have hv := va_rng (p := s.1) hT
  have hm := h.2.2.1
  -- the end: a value laid
  have lay : ∀ (c : Nat) (l2 l4 : Int), (c = 0 ∧ l2 = 1 ∨ c = 1 ∧ l2 = 0) → s.1 < n → 0 ≤ vaT T n s.1 → s.2.1 < 60 → (∀ s' : Ps, s'.1 = nxT T n s.1 → s'.2.1 = s.2.1 + 1 → s'.2.2 = s.2.2 ++ [(c, (vaT T n s.1).toNat)] → gVal T n s = .inr s') → xk_B (D - 1) 77 95 [.ref a, .ref t, .int (xj l2), .int (xj (vaT T n s.1)), .int (xj l4)] [] (f, w) K := by
    intro c l2 l4 hc hsn hv0 hp hg
    obtain ⟨m, hm0⟩ : ∃ m : Nat, vaT T n s.1 = m := ⟨(vaT T n s.1).toNat, by omega⟩
    rw [hm0, Int.toNat_natCast] at hg
    rw [hm0]
    have e1 : ((s.2.1 : Nat) : Int) + 1 = ((s.2.1 + 1 : Nat) : Int) := by omega
    obtain ⟨h1, f1⟩ := xRd_1 hta h hp
    have fin : xk_Cl (D - 1) 62 [.ref (a + 1), .int (xj (c : Nat)), .int (xj (m : Nat))] (va_up f a (.inr (8, [.ref (a + 1), .int (xj (s.2.1 + 1 : Nat))])), w) (fun v σ => xk_B (D - 1) 77 122 [.ref a, .ref t, .int (xj l2), .int (xj (m : Nat)), .int (xj l4)] (v.toList ++ []) σ K) := by
      refine u_addR (by omega) hta h1 (fun f2 g2 h2 => ?_)
      simp (disch := omega) only [b77_122, List.getElem?_cons_zero, List.getElem?_cons_succ, List.length_cons, List.length_nil, List.set_cons_zero, List.set_cons_succ, true_and, and_true, Option.toList_some, Option.toList_none, List.cons_append, List.nil_append, ↓reduceIte, not_false_eq_true, not_true_eq_false, Nat.reduceAdd, xj0_01, xj1_01, xb_B, xb_True, xb_False]
      rw [b77_123, rc_T h2.1, true_and]
      refine u_stepR (by omega) hta h2 hsn (fun f3 g3 h3 => ?_)
      have po := hpost f3 _ fa (frRd_t f1 (frRd_t g2 g3)) h3 ⟨fun h0 => Or.inl ⟨h0, hg _ rfl rfl (by show addC s.2.2 (c, m) = _; have hl := hr h0; exact addC_y (by have := ha.1; omega))⟩, fun _ => rfl⟩
      simp (disch := omega) only [b77_126, List.getElem?_cons_zero, List.getElem?_cons_succ, List.length_cons, List.length_nil, List.set_cons_zero, List.set_cons_succ, true_and, and_true, Option.toList_some, Option.toList_none, List.cons_append, List.nil_append, ↓reduceIte, not_false_eq_true, not_true_eq_false, Nat.reduceAdd, xj0_01, xj1_01, xb_B, xb_True, xb_False]
      exact po
    rcases hc with ⟨rfl, rfl⟩ | ⟨rfl, rfl⟩
    · simp (disch := omega) only [b77_95, b77_96, b77_97, b77_100, b77_101, b77_102, b77_105, b77_106, b77_109, b77_110, b77_113, b77_114, b77_117, b77_118, List.getElem?_cons_zero, List.getElem?_cons_succ, List.length_cons, List.length_nil, List.set_cons_zero, List.set_cons_succ, true_and, and_true, Option.toList_some, Option.toList_none, List.cons_append, List.nil_append, ↓reduceIte, not_false_eq_true, not_true_eq_false, Nat.reduceAdd, xj0_01, xj1_01, xb_B, xb_True, xb_False, ↓grd_1 h, ↓prd_1 h, ↓xj_in, xj_nat, Int.toNat_natCast, xj_lt_t, xj_lt_f, xj_le_t, xj_le_f, xj_eq_t, xj_eq_f, xj_lt, xj_le, xj_eq, xj_add, xj_sub, xj_mul, show ¬ xj 1 = xj 0 from by decide, e1, ↓grd_0 h1]
      rw [b77_119, rc_L h1.2.2.2, true_and]
      exact fin
    · simp (disch := omega) only [b77_95, b77_96, b77_97, b77_100, b77_101, b77_102, b77_105, b77_106, b77_109, b77_110, b77_113, b77_114, b77_117, b77_118, List.getElem?_cons_zero, List.getElem?_cons_succ, List.length_cons, List.length_nil, List.set_cons_zero, List.set_cons_succ, true_and, and_true, Option.toList_some, Option.toList_none, List.cons_append, List.nil_append, ↓reduceIte, not_false_eq_true, not_true_eq_false, Nat.reduceAdd, xj0_01, xj1_01, xb_B, xb_True, xb_False, ↓grd_1 h, ↓prd_1 h, ↓xj_in, xj_nat, Int.toNat_natCast, xj_lt_t, xj_lt_f, xj_le_t, xj_le_f, xj_eq_t, xj_eq_f, xj_lt, xj_le, xj_eq, xj_add, xj_sub, xj_mul, show ¬ xj 1 = xj 0 from by decide, e1, ↓grd_0 h1]
      rw [b77_119, rc_L h1.2.2.2, true_and]
      exact fin
  have no3 : ∀ (l2 l4 : Int), 60 ≤ s.2.1 → gVal T n s = .inl (1 + 8 * s.1 + 3) → xk_B (D - 1) 77 78 [.ref a, .ref t, .int (xj l2), .int (xj (vaT T n s.1)), .int (xj l4)] [] (f, w) K := by
    intro l2 l4 h60 hg
    simp (disch := omega) only [b77_78, b77_79, b77_82, b77_84, b77_87, b77_88, List.getElem?_cons_zero, List.getElem?_cons_succ, List.length_cons, List.length_nil, List.set_cons_zero, List.set_cons_succ, true_and, and_true, Option.toList_some, Option.toList_none, List.cons_append, List.nil_append, ↓reduceIte, not_false_eq_true, not_true_eq_false, Nat.reduceAdd, xj0_01, xj1_01, xb_B, xb_True, xb_False, ↓grd_1 h, ↓xj_in, xj_nat, Int.toNat_natCast, xj_lt_t, xj_lt_f, xj_le_t, xj_le_f, xj_eq_t, xj_eq_f, xj_lt, xj_le, xj_eq, xj_add, xj_sub, xj_mul, show ¬ xj 1 = xj 0 from by decide]
    rw [b77_89, rc_T h.1, true_and]
    refine u_failR (k := 3) (by omega) hta h (by omega) (fun f' g1 h1 => ?_)
    have po := hpost f' s _ g1 h1 (rdR_no hg)
    simp (disch := omega) only [b77_92, b77_95, b77_96, b77_97, b77_100, b77_101, b77_102, b77_105, b77_106, b77_109, b77_110, b77_113, b77_114, b77_117, b77_118, b77_119, b77_122, b77_123, b77_126, List.getElem?_cons_zero, List.getElem?_cons_succ, List.length_cons, List.length_nil, List.set_cons_zero, List.set_cons_succ, true_and, and_true, Option.toList_some, Option.toList_none, List.cons_append, List.nil_append, ↓reduceIte, not_false_eq_true, not_true_eq_false, Nat.reduceAdd, xj0_01, xj1_01, xb_B, xb_True, xb_False]
    exact po
  have no0 : ∀ (l2 l4 : Int), gVal T n s = .inl (1 + 8 * s.1) → xk_B (D - 1) 77 53 [.ref a, .ref t, .int (xj l2), .int (xj (vaT T n s.1)), .int (xj l4)] [] (f, w) K := by
    intro l2 l4 hg
    simp (disch := omega) only [b77_53, b77_54, List.getElem?_cons_zero, List.getElem?_cons_succ, List.length_cons, List.length_nil, List.set_cons_zero, List.set_cons_succ, true_and, and_true, Option.toList_some, Option.toList_none, List.cons_append, List.nil_append, ↓reduceIte, not_false_eq_true, not_true_eq_false, Nat.reduceAdd, xj0_01, xj1_01, xb_B, xb_True, xb_False]
    rw [b77_55, rc_T h.1, true_and]
    refine u_failR (k := 0) (by omega) hta h (by omega) (fun f' g1 h1 => ?_)
    have po := hpost f' s _ g1 h1 (rdR_no (k := 0) hg)
    simp (disch := omega) only [b77_58, b77_126, List.getElem?_cons_zero, List.getElem?_cons_succ, List.length_cons, List.length_nil, List.set_cons_zero, List.set_cons_succ, true_and, and_true, Option.toList_some, Option.toList_none, List.cons_append, List.nil_append, ↓reduceIte, not_false_eq_true, not_true_eq_false, Nat.reduceAdd, xj0_01, xj1_01, xb_B, xb_True, xb_False]
    exact po
  by_cases c1 : kdT T n s.1 = 1
  · have hsn := kd_lt (T := T) (n := n) (p := s.1) (by omega)
    by_cases c2 : vaT T n s.1 = -1
    · have hg : gVal T n s = .inl (1 + 8 * s.1 + 1) := by unfold gVal; rw [if_pos c1, if_pos c2]
      simp (disch := omega) only [b77_0, b77_1, b77_4, b77_5, b77_8, b77_9, b77_12, b77_13, b77_14, b77_15, b77_18, b77_19, b77_20, b77_23, b77_24, b77_27, b77_28, b77_31, b77_32, b77_34, b77_37, b77_38, b77_41, b77_42, b77_44, b77_45, b77_48, b77_50, b77_53, b77_54, b77_55, b77_58, b77_61, b77_62, b77_65, b77_66, b77_67, b77_70, b77_71, List.getElem?_cons_zero, List.getElem?_cons_succ, List.length_cons, List.length_nil, List.set_cons_zero, List.set_cons_succ, true_and, and_true, Option.toList_some, Option.toList_none, List.cons_append, List.nil_append, ↓reduceIte, not_false_eq_true, not_true_eq_false, Nat.reduceAdd, xj0_01, xj1_01, xb_B, xb_True, xb_False, rc_T h.1, s_kind _ h.1, s_value _ h.1, c1, c2, ↓xj_in, xj_nat, Int.toNat_natCast, xj_lt_t, xj_lt_f, xj_le_t, xj_le_f, xj_eq_t, xj_eq_f, xj_lt, xj_le, xj_eq, xj_add, xj_sub, xj_mul, show ¬ xj 1 = xj 0 from by decide]
      rw [b77_72, rc_T h.1, true_and]
      refine u_failR (k := 1) (by omega) hta h (by omega) (fun f' g1 h1 => ?_)
      have po := hpost f' s _ g1 h1 (rdR_no hg)
      simp (disch := omega) only [b77_75, b77_78, b77_79, b77_82, b77_84, b77_87, b77_88, b77_89, b77_92, b77_95, b77_96, b77_97, b77_100, b77_101, b77_102, b77_105, b77_106, b77_109, b77_110, b77_113, b77_114, b77_117, b77_118, b77_119, b77_122, b77_123, b77_126, List.getElem?_cons_zero, List.getElem?_cons_succ, List.length_cons, List.length_nil, List.set_cons_zero, List.set_cons_succ, true_and, and_true, Option.toList_some, Option.toList_none, List.cons_append, List.nil_append, ↓reduceIte, not_false_eq_true, not_true_eq_false, Nat.reduceAdd, xj0_01, xj1_01, xb_B, xb_True, xb_False]
      exact po
    · by_cases c3 : 60 ≤ s.2.1
      · have hg : gVal T n s = .inl (1 + 8 * s.1 + 3) := by unfold gVal; rw [if_pos c1, if_neg c2, if_pos c3]
        simp (disch := omega) only [b77_0, b77_1, b77_4, b77_5, b77_8, b77_9, b77_12, b77_13, b77_14, b77_15, b77_18, b77_19, b77_20, b77_23, b77_24, b77_27, b77_28, b77_31, b77_32, b77_34, b77_37, b77_38, b77_41, b77_42, b77_44, b77_45, b77_48, b77_50, b77_53, b77_54, b77_55, b77_58, b77_61, b77_62, b77_65, b77_66, b77_67, List.getElem?_cons_zero, List.getElem?_cons_succ, List.length_cons, List.length_nil, List.set_cons_zero, List.set_cons_succ, true_and, and_true, Option.toList_some, Option.toList_none, List.cons_append, List.nil_append, ↓reduceIte, not_false_eq_true, not_true_eq_false, Nat.reduceAdd, xj0_01, xj1_01, xb_B, xb_True, xb_False, rc_T h.1, s_kind _ h.1, s_value _ h.1, c1, ↓xj_in, xj_nat, Int.toNat_natCast, xj_lt_t, xj_lt_f, xj_le_t, xj_le_f, xj_eq_t, xj_eq_f, xj_lt, xj_le, xj_eq, xj_add, xj_sub, xj_mul, show ¬ xj 1 = xj 0 from by decide]
        exact no3 1 0 c3 hg
      · have hg : ∀ s' : Ps, s'.1 = nxT T n s.1 → s'.2.1 = s.2.1 + 1 → s'.2.2 = s.2.2 ++ [(0, (vaT T n s.1).toNat)] → gVal T n s = .inr s' := fun s' q1 q2 q3 => by
          unfold gVal
          rw [if_pos c1, if_neg c2, if_neg c3, ← q1, ← q2, ← q3]
        have fin := lay 0 1 0 (Or.inl ⟨rfl, rfl⟩) hsn (by omega) (by omega) hg
        simp (disch := omega) only [b77_0, b77_1, b77_4, b77_5, b77_8, b77_9, b77_12, b77_13, b77_14, b77_15, b77_18, b77_19, b77_20, b77_23, b77_24, b77_27, b77_28, b77_31, b77_32, b77_34, b77_37, b77_38, b77_41, b77_42, b77_44, b77_45, b77_48, b77_50, b77_53, b77_54, b77_55, b77_58, b77_61, b77_62, b77_65, b77_66, b77_67, b77_70, b77_71, b77_72, b77_75, b77_78, b77_79, b77_82, b77_84, List.getElem?_cons_zero, List.getElem?_cons_succ, List.length_cons, List.length_nil, List.set_cons_zero, List.set_cons_succ, true_and, and_true, Option.toList_some, Option.toList_none, List.cons_append, List.nil_append, ↓reduceIte, not_false_eq_true, not_true_eq_false, Nat.reduceAdd, xj0_01, xj1_01, xb_B, xb_True, xb_False, rc_T h.1, s_kind _ h.1, s_value _ h.1, c1, ↓grd_1 h, ↓xj_in, xj_nat, Int.toNat_natCast, xj_lt_t, xj_lt_f, xj_le_t, xj_le_f, xj_eq_t, xj_eq_f, xj_lt, xj_le, xj_eq, xj_add, xj_sub, xj_mul, show ¬ xj 1 = xj 0 from by decide]
        exact fin
  · by_cases c2 : kdT T n s.1 = 2 ∧ 0 ≤ vaT T n s.1 ∧ vaT T n s.1 < 13
    · have hsn := kd_lt (T := T) (n := n) (p := s.1) (by omega)
      by_cases c3 : 60 ≤ s.2.1
      · have hg : gVal T n s = .inl (1 + 8 * s.1 + 3) := by unfold gVal; rw [if_neg c1, if_pos c2, if_pos c3]
        simp (disch := omega) only [b77_0, b77_1, b77_4, b77_5, b77_8, b77_9, b77_12, b77_13, b77_14, b77_15, b77_18, b77_19, b77_20, b77_23, b77_24, b77_27, b77_28, b77_31, b77_32, b77_34, b77_37, b77_38, b77_41, b77_42, b77_44, b77_45, b77_48, b77_50, b77_53, b77_54, b77_55, b77_58, b77_61, b77_62, b77_65, b77_66, b77_67, List.getElem?_cons_zero, List.getElem?_cons_succ, List.length_cons, List.length_nil, List.set_cons_zero, List.set_cons_succ, true_and, and_true, Option.toList_some, Option.toList_none, List.cons_append, List.nil_append, ↓reduceIte, not_false_eq_true, not_true_eq_false, Nat.reduceAdd, xj0_01, xj1_01, xb_B, xb_True, xb_False, rc_T h.1, s_kind _ h.1, s_value _ h.1, c2.1, ↓xj_in, xj_nat, Int.toNat_natCast, xj_lt_t, xj_lt_f, xj_le_t, xj_le_f, xj_eq_t, xj_eq_f, xj_lt, xj_le, xj_eq, xj_add, xj_sub, xj_mul, show ¬ xj 1 = xj 0 from by decide]
        exact no3 0 1 c3 hg
      · have hg : ∀ s' : Ps, s'.1 = nxT T n s.1 → s'.2.1 = s.2.1 + 1 → s'.2.2 = s.2.2 ++ [(1, (vaT T n s.1).toNat)] → gVal T n s = .inr s' := fun s' q1 q2 q3 => by
          unfold gVal
          rw [if_neg c1, if_pos c2, if_neg c3, ← q1, ← q2, ← q3]
        have fin := lay 1 0 1 (Or.inr ⟨rfl, rfl⟩) hsn (by omega) (by omega) hg
        simp (disch := omega) only [b77_0, b77_1, b77_4, b77_5, b77_8, b77_9, b77_12, b77_13, b77_14, b77_15, b77_18, b77_19, b77_20, b77_23, b77_24, b77_27, b77_28, b77_31, b77_32, b77_34, b77_37, b77_38, b77_41, b77_42, b77_44, b77_45, b77_48, b77_50, b77_53, b77_54, b77_55, b77_58, b77_61, b77_62, b77_65, b77_66, b77_67, b77_70, b77_71, b77_72, b77_75, b77_78, b77_79, b77_82, b77_84, List.getElem?_cons_zero, List.getElem?_cons_succ, List.length_cons, List.length_nil, List.set_cons_zero, List.set_cons_succ, true_and, and_true, Option.toList_some, Option.toList_none, List.cons_append, List.nil_append, ↓reduceIte, not_false_eq_true, not_true_eq_false, Nat.reduceAdd, xj0_01, xj1_01, xb_B, xb_True, xb_False, rc_T h.1, s_kind _ h.1, s_value _ h.1, c2.1, ↓grd_1 h, ↓xj_in, xj_nat, Int.toNat_natCast, xj_lt_t, xj_lt_f, xj_le_t, xj_le_f, xj_eq_t, xj_eq_f, xj_lt, xj_le, xj_eq, xj_add, xj_sub, xj_mul, show ¬ xj 1 = xj 0 from by decide]
        exact fin
    · have hg : gVal T n s = .inl (1 + 8 * s.1) := by unfold gVal; rw [if_neg c1, if_neg c2]
      by_cases c3 : kdT T n s.1 = 2
      · by_cases c4 : 0 ≤ vaT T n s.1
        · have c5 : 13 ≤ vaT T n s.1 := by omega
          simp (disch := omega) only [b77_0, b77_1, b77_4, b77_5, b77_8, b77_9, b77_12, b77_13, b77_14, b77_15, b77_18, b77_19, b77_20, b77_23, b77_24, b77_27, b77_28, b77_31, b77_32, b77_34, b77_37, b77_38, b77_41, b77_42, b77_44, b77_45, b77_48, b77_50, List.getElem?_cons_zero, List.getElem?_cons_succ, List.length_cons, List.length_nil, List.set_cons_zero, List.set_cons_succ, true_and, and_true, Option.toList_some, Option.toList_none, List.cons_append, List.nil_append, ↓reduceIte, not_false_eq_true, not_true_eq_false, Nat.reduceAdd, xj0_01, xj1_01, xb_B, xb_True, xb_False, rc_T h.1, s_kind _ h.1, s_value _ h.1, c3, ↓xj_in, xj_nat, Int.toNat_natCast, xj_lt_t, xj_lt_f, xj_le_t, xj_le_f, xj_eq_t, xj_eq_f, xj_lt, xj_le, xj_eq, xj_add, xj_sub, xj_mul, show ¬ xj 1 = xj 0 from by decide]
          exact no0 0 0 hg
        · simp (disch := omega) only [b77_0, b77_1, b77_4, b77_5, b77_8, b77_9, b77_12, b77_13, b77_14, b77_15, b77_18, b77_19, b77_20, b77_23, b77_24, b77_27, b77_28, b77_31, b77_32, b77_34, b77_37, b77_38, b77_41, b77_42, b77_44, b77_45, b77_48, b77_50, List.getElem?_cons_zero, List.getElem?_cons_succ, List.length_cons, List.length_nil, List.set_cons_zero, List.set_cons_succ, true_and, and_true, Option.toList_some, Option.toList_none, List.cons_append, List.nil_append, ↓reduceIte, not_false_eq_true, not_true_eq_false, Nat.reduceAdd, xj0_01, xj1_01, xb_B, xb_True, xb_False, rc_T h.1, s_kind _ h.1, s_value _ h.1, c3, ↓xj_in, xj_nat, Int.toNat_natCast, xj_lt_t, xj_lt_f, xj_le_t, xj_le_f, xj_eq_t, xj_eq_f, xj_lt, xj_le, xj_eq, xj_add, xj_sub, xj_mul, show ¬ xj 1 = xj 0 from by decide]
          exact no0 0 0 hg
      · simp (disch := omega) only [b77_0, b77_1, b77_4, b77_5, b77_8, b77_9, b77_12, b77_13, b77_14, b77_15, b77_18, b77_19, b77_20, b77_23, b77_24, b77_27, b77_28, b77_31, b77_32, b77_34, b77_37, b77_38, b77_41, b77_42, b77_44, b77_45, b77_48, b77_50, List.getElem?_cons_zero, List.getElem?_cons_succ, List.length_cons, List.length_nil, List.set_cons_zero, List.set_cons_succ, true_and, and_true, Option.toList_some, Option.toList_none, List.cons_append, List.nil_append, ↓reduceIte, not_false_eq_true, not_true_eq_false, Nat.reduceAdd, xj0_01, xj1_01, xb_B, xb_True, xb_False, rc_T h.1, s_kind _ h.1, s_value _ h.1, ↓xj_in, xj_nat, Int.toNat_natCast, xj_lt_t, xj_lt_f, xj_le_t, xj_le_f, xj_eq_t, xj_eq_f, xj_lt, xj_le, xj_eq, xj_add, xj_sub, xj_mul, show ¬ xj 1 = xj 0 from by decide]
        exact no0 0 0 hg
theorem s_opNext (hD : 2 ≤ D) (h : xT f t T n p fa) : xk_Cl D 76 [.ref a, .ref t] (f, w) K ↔ K (some (.int (xj (if opM T n p = 0 then (if opS T n p = 0 then -1 else (opS T n p : Nat)) else (opM T n p : Nat))))) (f, w) := by
  rw [e76 (by omega)]
  have hv := va_rng (p := p) (xT_at h).2.1
  have hkr := kd_rng T n p
  by_cases c : kdT T n p = 3
  · have mM : ∀ v : Int, vaT T n p = v → opM T n p = (if v = 42 then 4 else if v = 47 then 5 else if v = 37 then 6 else 0) := fun v hv => by unfold opM; rw [if_pos c, hv]
    have mS : ∀ v : Int, vaT T n p = v → opS T n p = (if v = 43 then 2 else if v = 45 then 3 else 0) := fun v hv => by unfold opS; rw [if_pos c, hv]
    by_cases d1 : vaT T n p = 43
    · rw [show opM T n p = 0 from mM _ d1, show opS T n p = 2 from mS _ d1, if_pos rfl, if_neg (by decide)]
      (simp (disch := omega) only [b76_0, b76_1, b76_4, b76_5, b76_8, b76_9, b76_10, b76_11, b76_14, b76_72, b76_73, b76_74, b76_75, b76_76, b76_77, b76_78, b76_79, b76_80, b76_82, b76_83, b76_84, List.getElem?_cons_zero, List.getElem?_cons_succ, List.length_cons, List.length_nil, List.set_cons_zero, List.set_cons_succ, true_and, and_true, Option.toList_some, Option.toList_none, List.cons_append, List.nil_append, ↓reduceIte, not_false_eq_true, not_true_eq_false, Nat.reduceAdd, xj0_01, xj1_01, xb_B, xb_True, xb_False, rc_T h, s_kind _ h, s_value _ h, c, d1, ↓xj_in, xj_nat, Int.toNat_natCast, xj_lt_t, xj_lt_f, xj_le_t, xj_le_f, xj_eq_t, xj_eq_f, xj_lt, xj_le, xj_eq, xj_add, xj_sub, xj_mul, show ¬ xj 1 = xj 0 from by decide]) <;> rfl
    · by_cases d2 : vaT T n p = 45
      · rw [show opM T n p = 0 from mM _ d2, show opS T n p = 3 from mS _ d2, if_pos rfl, if_neg (by decide)]
        (simp (disch := omega) only [b76_0, b76_1, b76_4, b76_5, b76_8, b76_9, b76_10, b76_11, b76_14, b76_72, b76_73, b76_74, b76_75, b76_76, b76_77, b76_78, b76_79, b76_80, b76_82, b76_83, b76_84, List.getElem?_cons_zero, List.getElem?_cons_succ, List.length_cons, List.length_nil, List.set_cons_zero, List.set_cons_succ, true_and, and_true, Option.toList_some, Option.toList_none, List.cons_append, List.nil_append, ↓reduceIte, not_false_eq_true, not_true_eq_false, Nat.reduceAdd, xj0_01, xj1_01, xb_B, xb_True, xb_False, rc_T h, s_kind _ h, s_value _ h, c, d2, ↓xj_in, xj_nat, Int.toNat_natCast, xj_lt_t, xj_lt_f, xj_le_t, xj_le_f, xj_eq_t, xj_eq_f, xj_lt, xj_le, xj_eq, xj_add, xj_sub, xj_mul, show ¬ xj 1 = xj 0 from by decide]) <;> rfl
      · by_cases d3 : vaT T n p = 42
        · rw [show opM T n p = 4 from mM _ d3, if_neg (by decide)]
          (simp (disch := omega) only [b76_0, b76_1, b76_4, b76_5, b76_8, b76_9, b76_10, b76_11, b76_14, b76_72, b76_73, b76_74, b76_75, b76_76, b76_77, b76_78, b76_79, b76_80, b76_82, b76_83, b76_84, List.getElem?_cons_zero, List.getElem?_cons_succ, List.length_cons, List.length_nil, List.set_cons_zero, List.set_cons_succ, true_and, and_true, Option.toList_some, Option.toList_none, List.cons_append, List.nil_append, ↓reduceIte, not_false_eq_true, not_true_eq_false, Nat.reduceAdd, xj0_01, xj1_01, xb_B, xb_True, xb_False, rc_T h, s_kind _ h, s_value _ h, c, d3, ↓xj_in, xj_nat, Int.toNat_natCast, xj_lt_t, xj_lt_f, xj_le_t, xj_le_f, xj_eq_t, xj_eq_f, xj_lt, xj_le, xj_eq, xj_add, xj_sub, xj_mul, show ¬ xj 1 = xj 0 from by decide]) <;> rfl
        · by_cases d4 : vaT T n p = 47
          · rw [show opM T n p = 5 from mM _ d4, if_neg (by decide)]
            (simp (disch := omega) only [b76_0, b76_1, b76_4, b76_5, b76_8, b76_9, b76_10, b76_11, b76_14, b76_72, b76_73, b76_74, b76_75, b76_76, b76_77, b76_78, b76_79, b76_80, b76_82, b76_83, b76_84, List.getElem?_cons_zero, List.getElem?_cons_succ, List.length_cons, List.length_nil, List.set_cons_zero, List.set_cons_succ, true_and, and_true, Option.toList_some, Option.toList_none, List.cons_append, List.nil_append, ↓reduceIte, not_false_eq_true, not_true_eq_false, Nat.reduceAdd, xj0_01, xj1_01, xb_B, xb_True, xb_False, rc_T h, s_kind _ h, s_value _ h, c, d4, ↓xj_in, xj_nat, Int.toNat_natCast, xj_lt_t, xj_lt_f, xj_le_t, xj_le_f, xj_eq_t, xj_eq_f, xj_lt, xj_le, xj_eq, xj_add, xj_sub, xj_mul, show ¬ xj 1 = xj 0 from by decide]) <;> rfl
          · by_cases d5 : vaT T n p = 37
            · rw [show opM T n p = 6 from mM _ d5, if_neg (by decide)]
              (simp (disch := omega) only [b76_0, b76_1, b76_4, b76_5, b76_8, b76_9, b76_10, b76_11, b76_14, b76_72, b76_73, b76_74, b76_75, b76_76, b76_77, b76_78, b76_79, b76_80, b76_82, b76_83, b76_84, List.getElem?_cons_zero, List.getElem?_cons_succ, List.length_cons, List.length_nil, List.set_cons_zero, List.set_cons_succ, true_and, and_true, Option.toList_some, Option.toList_none, List.cons_append, List.nil_append, ↓reduceIte, not_false_eq_true, not_true_eq_false, Nat.reduceAdd, xj0_01, xj1_01, xb_B, xb_True, xb_False, rc_T h, s_kind _ h, s_value _ h, c, d5, ↓xj_in, xj_nat, Int.toNat_natCast, xj_lt_t, xj_lt_f, xj_le_t, xj_le_f, xj_eq_t, xj_eq_f, xj_lt, xj_le, xj_eq, xj_add, xj_sub, xj_mul, show ¬ xj 1 = xj 0 from by decide]) <;> rfl
            · have m0 : opM T n p = 0 := by rw [mM _ rfl, if_neg d3, if_neg d4, if_neg d5]
              have o0 : opS T n p = 0 := by rw [mS _ rfl, if_neg d1, if_neg d2]
              rw [m0, o0, if_pos rfl, if_pos rfl]
              (simp (disch := omega) only [b76_0, b76_1, b76_4, b76_5, b76_8, b76_9, b76_10, b76_11, b76_14, b76_72, b76_73, b76_74, b76_75, b76_76, b76_77, b76_78, b76_79, b76_80, b76_82, b76_83, b76_84, List.getElem?_cons_zero, List.getElem?_cons_succ, List.length_cons, List.length_nil, List.set_cons_zero, List.set_cons_succ, true_and, and_true, Option.toList_some, Option.toList_none, List.cons_append, List.nil_append, ↓reduceIte, not_false_eq_true, not_true_eq_false, Nat.reduceAdd, xj0_01, xj1_01, xb_B, xb_True, xb_False, rc_T h, s_kind _ h, s_value _ h, c, ↓xj_in, xj_nat, Int.toNat_natCast, xj_lt_t, xj_lt_f, xj_le_t, xj_le_f, xj_eq_t, xj_eq_f, xj_lt, xj_le, xj_eq, xj_add, xj_sub, xj_mul, show ¬ xj 1 = xj 0 from by decide, ite_self]) <;> rfl
  · have m0 : opM T n p = 0 := by unfold opM; rw [if_neg c]
    have o0 : opS T n p = 0 := by unfold opS; rw [if_neg c]
    rw [m0, o0, if_pos rfl, if_pos rfl]
    simp (disch := omega) only [b76_0, b76_1, b76_4, b76_5, b76_8, b76_9, List.getElem?_cons_zero, List.getElem?_cons_succ, List.length_cons, List.length_nil, List.set_cons_zero, List.set_cons_succ, true_and, and_true, Option.toList_some, Option.toList_none, List.cons_append, List.nil_append, ↓reduceIte, not_false_eq_true, not_true_eq_false, Nat.reduceAdd, xj0_01, xj1_01, xb_B, xb_True, xb_False, rc_T h, s_kind _ h, ↓xj_in, xj_nat, Int.toNat_natCast, xj_lt_t, xj_lt_f, xj_le_t, xj_le_f, xj_eq_t, xj_eq_f, xj_lt, xj_le, xj_eq, xj_add, xj_sub, xj_mul, show ¬ xj 1 = xj 0 from by decide]
end XS98
