/-! what is made: days, logs, offices, orders, rules, runs, texts -/
theorem ini_z {z : Int} (h0 : 0 ≤ z) (h1 : z ≤ 60000000) : (¬ xj z < 0 ∧ (xj z).toNatClampNeg ≤ 60000000) ↔ True := by
  have e : (0 : Int32) = xj 0 := by decide
  rw [e, xj_lt (by omega) (by omega) (by omega) (by omega), xj_nat (by omega) (by omega)]
  exact ⟨fun _ => trivial, fun _ => ⟨by omega, by omega⟩⟩
theorem xs_push {f : Nat → xk_C} {o k : Nat} {cs : List xk_C} {c : Nat × vp_A} (h : cs.length = k) : va_up (xs f o cs) (o + k) (.inl c) = xs f o (cs ++ [.inl c]) := by
  subst h
  funext x
  unfold va_up xs
  by_cases e : x = o + cs.length
  · subst e
    rw [if_pos rfl, if_pos (by omega), show o + cs.length - o = cs.length by omega, List.getElem?_append_right (Nat.le_refl _), Nat.sub_self]
    rfl
  · rw [if_neg e]
    by_cases e2 : o ≤ x
    · rw [if_pos e2, if_pos e2]
      by_cases e3 : x - o < cs.length
      · rw [List.getElem?_append_left e3]
      · rw [List.getElem?_eq_none (by omega), List.getElem?_eq_none (by rw [List.length_append, List.length_singleton]; omega)]
    · rw [if_neg e2, if_neg e2]
theorem xs_one {f : Nat → xk_C} {o : Nat} {c : xk_C} (h : f o = c) : xs f o [c] = f := xv_of (fun k hk => by
  have hk : k < 1 := hk
  have : k = 0 := by omega
  subst this
  exact congrArg some h.symm)
theorem xs_pf {f : Nat → xk_C} {o c k : Nat} {fs : List Value} {cs : List xk_C} {v : Value} {G : (Nat → xk_C) → Prop} (hk : k < fs.length) : xk_PF (xs f o (.inr (c, fs) :: cs)) o c k v G ↔ G (xs f o (.inr (c, fs.set k v) :: cs)) := by
  have e : xs f o (.inr (c, fs) :: cs) o = .inr (c, fs) := xs_at0 _ _ _
  rw [pf_R e hk, xs_up0]
theorem z_0 (n : Nat) : xk_z 0 n = (n, .inl (fun _ => xj 0)) := rfl
theorem z_1 (n : Nat) : xk_z 1 n = (n, .inl (fun _ => xj 0)) := rfl
theorem z_2 (n : Nat) : xk_z 2 n = (n, .inl (fun _ => xj 0)) := rfl
theorem z_3 (n : Nat) : xk_z 3 n = (n, .inr (.inl (fun _ => 0))) := rfl
theorem dv_0 : xk_dv 0 = [.int (xj 0), .int (xj 0), .int (xj 0), .int (xj 0), .int (xj 0), .int (xj 0), .int (xj 0), .null] := rfl
theorem dv_3 : xk_dv 3 = [.int (xj 0), .null, .null, .null] := rfl
theorem dv_4 : xk_dv 4 = [.int (xj 0), .int (xj 0), .int (xj 0), .int (xj 0), .int (xj 0), .int (xj 0), .int (xj 0), .null, .null, .null, .null, .null, .null, .null, .null, .null] := rfl
theorem dv_5 : xk_dv 5 = [.int (xj 0), .null, .null, .null] := rfl
theorem dv_7 : xk_dv 7 = [.null, .null, .int (xj 0), .null] := rfl
theorem dv_10 : xk_dv 10 = [.null, .null, .null, .int (xj 0), .int (xj 0), .int (xj 0)] := rfl
def d00 : Dy := (0, -1, 0, 0, 0, 0, 0, fun _ => 0)
section XS9e01
variable {D o s t : Nat} {f : Nat → xk_C} {K : Option Value → xk_S → Prop}
theorem i_Day (hD : 1 ≤ D) (h0 : f o = .inr (0, xk_dv 0)) (hpost : ∀ g, (∀ x, x < o → g x = f x) → xv_Day g o d00 → K none (g, (o + 2, s + 6, t))) : xk_Cl D 0 [.ref o] (f, (o + 1, s, t)) K := by
  rw [e0 (by omega)]
  have po := hpost (xs f o [xc_Day o d00, xa_I 6 (fun _ => 0)]) (fun x hx => xs_ne (Or.inl hx)) ⟨xs_at0 _ _ _, xs_at f o _ 1⟩
  rw [dv_0] at h0
  rw [← xs_one h0]
  simp (disch := first | omega | (simp only [List.length_cons, List.length_nil] <;> omega)) only [b0_0, b0_1, b0_4, b0_5, b0_6, b0_9, b0_10, b0_12, b0_14, b0_17, List.getElem?_cons_zero, List.getElem?_cons_succ, List.length_cons, List.length_nil, List.set_cons_zero, List.set_cons_succ, true_and, and_true, Option.toList_some, Option.toList_none, List.cons_append, List.nil_append, ↓reduceIte, not_false_eq_true, not_true_eq_false, Nat.reduceAdd, xj0_01, xj1_01, xb_B, xb_True, xb_False, ↓xs_pf, xs_push, ↓ini_z, z_0, xj_nat, Int.toNat_natCast, Int.reduceToNat, Nat.add_assoc]
  exact po
theorem i_Logs (hD : 1 ≤ D) (h0 : f o = .inr (3, xk_dv 3)) (hpost : ∀ g, (∀ x, x < o → g x = f x) → xv_Lg g o (0, (fun _ => 0), (fun _ => 0), fun _ => 0) → K none (g, (o + 4, s + 30, t))) : xk_Cl D 18 [.ref o] (f, (o + 1, s, t)) K := by
  rw [e18 (by omega)]
  have po := hpost (xs f o [.inr (3, [.int (xj 0), .ref (o + 1), .ref (o + 2), .ref (o + 3)]), xa_I 10 (fun _ => 0), xa_I 10 (fun _ => 0), xa_I 10 (fun _ => 0)]) (fun x hx => xs_ne (Or.inl hx)) ⟨xs_at0 _ _ _, xs_at f o _ 1, xs_at f o _ 2, xs_at f o _ 3⟩
  rw [dv_3] at h0
  rw [← xs_one h0]
  simp (disch := first | omega | (simp only [List.length_cons, List.length_nil] <;> omega)) only [b18_0, b18_1, b18_4, b18_5, b18_7, b18_9, b18_12, b18_13, b18_15, b18_17, b18_20, b18_21, b18_23, b18_25, b18_28, List.getElem?_cons_zero, List.getElem?_cons_succ, List.length_cons, List.length_nil, List.set_cons_zero, List.set_cons_succ, true_and, and_true, Option.toList_some, Option.toList_none, List.cons_append, List.nil_append, ↓reduceIte, not_false_eq_true, not_true_eq_false, Nat.reduceAdd, xj0_01, xj1_01, xb_B, xb_True, xb_False, ↓xs_pf, xs_push, ↓ini_z, z_0, xj_nat, Int.toNat_natCast, Int.reduceToNat, Nat.add_assoc]
  exact po
theorem i_Orders (hD : 1 ≤ D) (h0 : f o = .inr (5, xk_dv 5)) (hpost : ∀ g, (∀ x, x < o → g x = f x) → xv_Or g o ot0 (fun _ => 0) → K none (g, (o + 4, s + 48, t))) : xk_Cl D 46 [.ref o] (f, (o + 1, s, t)) K := by
  rw [e46 (by omega)]
  have po := hpost (xs f o [.inr (5, [.int (xj 0), .ref (o + 1), .ref (o + 2), .ref (o + 3)]), xa_I 6 (fun _ => 0), xa_I 36 (fun _ => 0), xa_I 6 (fun _ => 0)]) (fun x hx => xs_ne (Or.inl hx)) ⟨xs_at0 _ _ _, xs_at f o _ 1, xs_at f o _ 2, xs_at f o _ 3⟩
  rw [dv_5] at h0
  rw [← xs_one h0]
  simp (disch := first | omega | (simp only [List.length_cons, List.length_nil] <;> omega)) only [b46_0, b46_1, b46_4, b46_5, b46_7, b46_9, b46_12, b46_13, b46_15, b46_17, b46_20, b46_21, b46_23, b46_25, b46_28, List.getElem?_cons_zero, List.getElem?_cons_succ, List.length_cons, List.length_nil, List.set_cons_zero, List.set_cons_succ, true_and, and_true, Option.toList_some, Option.toList_none, List.cons_append, List.nil_append, ↓reduceIte, not_false_eq_true, not_true_eq_false, Nat.reduceAdd, xj0_01, xj1_01, xb_B, xb_True, xb_False, ↓xs_pf, xs_push, ↓ini_z, z_0, xj_nat, Int.toNat_natCast, Int.reduceToNat, Nat.add_assoc]
  exact po
theorem i_Rule (hD : 1 ≤ D) (h0 : f o = .inr (7, xk_dv 7)) (hpost : ∀ g, (∀ x, x < o → g x = f x) → xL g o [] → g (o + 3) = .inl (3, 64, .inr (.inl (fun _ => 0))) → K none (g, (o + 4, s + 864, t))) : xk_Cl D 59 [.ref o] (f, (o + 1, s, t)) K := by
  rw [e59 (by omega)]
  have po := hpost (xs f o [.inr (7, [.ref (o + 1), .ref (o + 2), .int (xj 0), .ref (o + 3)]), xa_I 400 (fun _ => 0), xa_I 400 (fun _ => 0), .inl (3, 64, .inr (.inl (fun _ => 0)))]) (fun x hx => xs_ne (Or.inl hx)) ⟨fun _ => 0, fun _ => 0, xs_at0 _ _ _, xs_at f o _ 1, xs_at f o _ 2, Nat.zero_le _, fun i c h => by simp at h⟩ (xs_at f o _ 3)
  rw [dv_7] at h0
  rw [← xs_one h0]
  simp (disch := first | omega | (simp only [List.length_cons, List.length_nil] <;> omega)) only [b59_0, b59_1, b59_4, b59_5, b59_8, b59_10, b59_13, b59_14, b59_17, b59_19, b59_22, b59_23, b59_25, b59_27, b59_30, List.getElem?_cons_zero, List.getElem?_cons_succ, List.length_cons, List.length_nil, List.set_cons_zero, List.set_cons_succ, true_and, and_true, Option.toList_some, Option.toList_none, List.cons_append, List.nil_append, ↓reduceIte, not_false_eq_true, not_true_eq_false, Nat.reduceAdd, xj0_01, xj1_01, xb_B, xb_True, xb_False, ↓xs_pf, xs_push, ↓ini_z, z_0, z_3, xj_nat, Int.toNat_natCast, Int.reduceToNat, Nat.add_assoc]
  exact po
theorem i_Text (hD : 1 ≤ D) (h0 : f o = .inr (10, xk_dv 10)) (hpost : ∀ g, (∀ x, x < o → g x = f x) → g o = xc_Tx o 0 0 0 → g (o + 1) = xa_I 401 (fun _ => 0) → g (o + 2) = xa_I 401 (fun _ => 0) → g (o + 3) = xa_I 401 (fun _ => 0) → K none (g, (o + 4, s + 1203, t))) : xk_Cl D 83 [.ref o] (f, (o + 1, s, t)) K := by
  rw [e83 (by omega)]
  have po := hpost (xs f o [xc_Tx o 0 0 0, xa_I 401 (fun _ => 0), xa_I 401 (fun _ => 0), xa_I 401 (fun _ => 0)]) (fun x hx => xs_ne (Or.inl hx)) (xs_at0 _ _ _) (xs_at f o _ 1) (xs_at f o _ 2) (xs_at f o _ 3)
  rw [dv_10] at h0
  rw [← xs_one h0]
  simp (disch := first | omega | (simp only [List.length_cons, List.length_nil] <;> omega)) only [b83_0, b83_1, b83_4, b83_5, b83_8, b83_10, b83_13, b83_14, b83_17, b83_19, b83_22, b83_23, b83_26, b83_28, b83_31, List.getElem?_cons_zero, List.getElem?_cons_succ, List.length_cons, List.length_nil, List.set_cons_zero, List.set_cons_succ, true_and, and_true, Option.toList_some, Option.toList_none, List.cons_append, List.nil_append, ↓reduceIte, not_false_eq_true, not_true_eq_false, Nat.reduceAdd, xj0_01, xj1_01, xb_B, xb_True, xb_False, ↓xs_pf, xs_push, ↓ini_z, z_0, xj_nat, Int.toNat_natCast, Int.reduceToNat, Nat.add_assoc]
  exact po
def of0 : Of := ((0, 0, 0, 0), (0, 0, 0), (fun _ => 0), (fun _ => 0), (fun _ => 0), (fun _ => 0), (fun _ => 0), (fun _ => 0), (fun _ => 0), (fun _ => 0), fun _ => 0)
theorem i_Off (hD : 1 ≤ D) (h0 : f o = .inr (4, xk_dv 4)) (hpost : ∀ g, (∀ x, x < o → g x = f x) → xv_Off g o of0 → K none (g, (o + 10, s + 52, t))) : xk_Cl D 27 [.ref o] (f, (o + 1, s, t)) K := by
  rw [e27 (by omega)]
  have po := hpost (xs f o (xl_Off o of0)) (fun x hx => xs_ne (Or.inl hx)) xv_Off_xs
  rw [dv_4] at h0
  rw [← xs_one h0]
  simp (disch := first | omega | (simp only [List.length_cons, List.length_nil] <;> omega)) only [b27_0, b27_1, b27_4, b27_5, b27_6, b27_8, b27_11, b27_12, b27_14, b27_16, b27_19, b27_20, b27_22, b27_24, b27_27, b27_28, b27_30, b27_32, b27_35, b27_36, b27_38, b27_40, b27_43, b27_44, b27_46, b27_48, b27_51, b27_52, b27_54, b27_56, b27_59, b27_60, b27_62, b27_64, b27_67, b27_68, b27_70, b27_72, b27_75, List.getElem?_cons_zero, List.getElem?_cons_succ, List.length_cons, List.length_nil, List.set_cons_zero, List.set_cons_succ, true_and, and_true, Option.toList_some, Option.toList_none, List.cons_append, List.nil_append, ↓reduceIte, not_false_eq_true, not_true_eq_false, Nat.reduceAdd, xj0_01, xj1_01, xb_B, xb_True, xb_False, ↓xs_pf, xs_push, ↓ini_z, z_0, xj_nat, Int.toNat_natCast, Int.reduceToNat, Nat.add_assoc]
  exact po
theorem i_Reader (hD : 2 ≤ D) (h0 : f o = .inr (8, xk_dv 8)) (hpost : ∀ g, (∀ x, x < o → g x = f x) → g o = .inr (8, [.ref (o + 1), .int (xj 0)]) → xL g (o + 1) [] → K none (g, (o + 5, s + 868, t))) : xk_Cl D 69 [.ref o] (f, (o + 1, s, t)) K := by
  rw [e69 (by omega)]
  simp (disch := omega) only [b69_0, b69_1, b69_4, b69_5, b69_8, List.getElem?_cons_zero, List.getElem?_cons_succ, List.length_cons, List.length_nil, List.set_cons_zero, List.set_cons_succ, true_and, and_true, Option.toList_some, Option.toList_none, List.cons_append, List.nil_append, ↓reduceIte, not_false_eq_true, not_true_eq_false, Nat.reduceAdd, xj0_01, xj1_01, xb_B, xb_True, xb_False]
  have nf : xk_nf 7 = 4 := rfl
  rw [b69_9, nf]
  refine i_Rule (by omega) (up_s _ _ _) (fun g e l st => ?_)
  have e0 : g o = .inr (8, [.null, .int (xj 0)]) := by rw [e o (by omega), up_ne (by omega)]; exact h0
  have pf : ∀ G, xk_PF g o 8 0 (.ref (o + 1)) G ↔ G (va_up g o (.inr (8, [.ref (o + 1), .int (xj 0)]))) := fun G => pf_R e0 (by show 0 < 2; decide)
  have po := hpost (va_up g o (.inr (8, [.ref (o + 1), .int (xj 0)]))) (fun x hx => by rw [up_ne (by omega), e x (by omega), up_ne (by omega)]) (up_s _ _ _) (xL_fr l (fun x h1 h2 => up_ne (by omega)))
  simp (disch := omega) only [b69_12, b69_15, List.getElem?_cons_zero, List.getElem?_cons_succ, List.length_cons, List.length_nil, List.set_cons_zero, List.set_cons_succ, true_and, and_true, Option.toList_some, Option.toList_none, List.cons_append, List.nil_append, ↓reduceIte, not_false_eq_true, not_true_eq_false, Nat.reduceAdd, xj0_01, xj1_01, xb_B, xb_True, xb_False, ↓pf]
  exact po
def dk0 : Dk := (of0, d00, (0, (fun _ => 0), (fun _ => 0), fun _ => 0), 0)
theorem i_Desk (hD : 2 ≤ D) (h0 : f o = .inr (1, xk_dv 1)) (hpost : ∀ g, (∀ x, x < o → g x = f x) → xv_Dk g o dk0 → K none (g, (o + 17, s + 116, t))) : xk_Cl D 12 [.ref o] (f, (o + 1, s, t)) K := by
  rw [e12 (by omega)]
  simp (disch := omega) only [b12_0, b12_1, b12_4, b12_5, b12_8, List.getElem?_cons_zero, List.getElem?_cons_succ, List.length_cons, List.length_nil, List.set_cons_zero, List.set_cons_succ, true_and, and_true, Option.toList_some, Option.toList_none, List.cons_append, List.nil_append, ↓reduceIte, not_false_eq_true, not_true_eq_false, Nat.reduceAdd, xj0_01, xj1_01, xb_B, xb_True, xb_False]
  have nf4 : xk_nf 4 = 16 := rfl
  have nf0 : xk_nf 0 = 8 := rfl
  have nf3 : xk_nf 3 = 4 := rfl
  rw [b12_9, nf4]
  refine i_Off (by omega) (up_s _ _ _) (fun g e v => ?_)
  have e0 : g o = .inr (1, [.null, .null, .null, .int (xj 0)]) := by rw [e o (by omega), up_ne (by omega)]; exact h0
  have pf : ∀ G, xk_PF g o 1 0 (.ref (o + 1)) G ↔ G (va_up g o (.inr (1, [.ref (o + 1), .null, .null, .int (xj 0)]))) := fun G => pf_R e0 (by show 0 < 4; decide)
  simp (disch := omega) only [b12_12, b12_15, b12_16, b12_19, List.getElem?_cons_zero, List.getElem?_cons_succ, List.length_cons, List.length_nil, List.set_cons_zero, List.set_cons_succ, true_and, and_true, Option.toList_some, Option.toList_none, List.cons_append, List.nil_append, ↓reduceIte, not_false_eq_true, not_true_eq_false, Nat.reduceAdd, xj0_01, xj1_01, xb_B, xb_True, xb_False, ↓pf]
  rw [b12_20, nf0]
  refine i_Day (by omega) (up_s _ _ _) (fun g2 e2 v2 => ?_)
  have a0 : g2 o = .inr (1, [.ref (o + 1), .null, .null, .int (xj 0)]) := by rw [e2 o (by omega), up_ne (by omega), up_s]
  have pf2 : ∀ G, xk_PF g2 o 1 1 (.ref (o + 11)) G ↔ G (va_up g2 o (.inr (1, [.ref (o + 1), .ref (o + 11), .null, .int (xj 0)]))) := fun G => pf_R a0 (by show 1 < 4; decide)
  have v1 : xv_Off g2 (o + 1) of0 := xv_Off_fr v (fun x h1 h2 => by rw [e2 x (by omega), up_ne (by omega), up_ne (by omega)])
  simp (disch := omega) only [Nat.add_assoc, Nat.reduceAdd] at e2 v2 ⊢
  simp (disch := omega) only [b12_23, b12_26, b12_27, b12_30, List.getElem?_cons_zero, List.getElem?_cons_succ, List.length_cons, List.length_nil, List.set_cons_zero, List.set_cons_succ, true_and, and_true, Option.toList_some, Option.toList_none, List.cons_append, List.nil_append, ↓reduceIte, not_false_eq_true, not_true_eq_false, Nat.reduceAdd, xj0_01, xj1_01, xb_B, xb_True, xb_False, ↓pf2]
  rw [b12_31, nf3]
  refine i_Logs (by omega) (up_s _ _ _) (fun g3 e3 v3 => ?_)
  have c0 : g3 o = .inr (1, [.ref (o + 1), .ref (o + 11), .null, .int (xj 0)]) := by rw [e3 o (by omega), up_ne (by omega), up_s]
  have pf3 : ∀ G, xk_PF g3 o 1 2 (.ref (o + 13)) G ↔ G (va_up g3 o (xd_c o 0)) := fun G => pf_R c0 (by show 2 < 4; decide)
  have u1 : xv_Off g3 (o + 1) of0 := xv_Off_fr v1 (fun x h1 h2 => by rw [e3 x (by omega), up_ne (by omega), up_ne (by omega)])
  have u2 : xv_Day g3 (o + 11) d00 := xv_Day_fr v2 (fun x h1 h2 => by rw [e3 x (by omega), up_ne (by omega), up_ne (by omega)])
  have po := hpost (va_up g3 o (xd_c o 0)) (fun x hx => by rw [up_ne (by omega), e3 x (by omega), up_ne (by omega), up_ne (by omega), e2 x (by omega), up_ne (by omega), up_ne (by omega), e x (by omega), up_ne (by omega)]) ⟨up_s _ _ _, xv_Off_fr u1 (fun x h1 h2 => up_ne (by omega)), xv_Day_fr u2 (fun x h1 h2 => up_ne (by omega)), xv_Lg_fr v3 (fun x h1 h2 => up_ne (by omega))⟩
  simp (disch := omega) only [Nat.add_assoc, Nat.reduceAdd]
  simp (disch := omega) only [b12_34, b12_37, List.getElem?_cons_zero, List.getElem?_cons_succ, List.length_cons, List.length_nil, List.set_cons_zero, List.set_cons_succ, true_and, and_true, Option.toList_some, Option.toList_none, List.cons_append, List.nil_append, ↓reduceIte, not_false_eq_true, not_true_eq_false, Nat.reduceAdd, xj0_01, xj1_01, xb_B, xb_True, xb_False, ↓pf3]
  exact po
theorem i_Run (hD : 2 ≤ D) (h0 : f o = .inr (9, xk_dv 9)) (hpost : ∀ g, (∀ x, x < o → g x = f x) → xv_Rn g o d00 (fun _ => 0) 0 (fun _ => 0) → K none (g, (o + 5, s + 33, t))) : xk_Cl D 78 [.ref o] (f, (o + 1, s, t)) K := by
  rw [e78 (by omega)]
  simp (disch := omega) only [b78_0, b78_1, b78_4, b78_5, b78_8, List.getElem?_cons_zero, List.getElem?_cons_succ, List.length_cons, List.length_nil, List.set_cons_zero, List.set_cons_succ, true_and, and_true, Option.toList_some, Option.toList_none, List.cons_append, List.nil_append, ↓reduceIte, not_false_eq_true, not_true_eq_false, Nat.reduceAdd, xj0_01, xj1_01, xb_B, xb_True, xb_False]
  have nf0 : xk_nf 0 = 8 := rfl
  rw [b78_9, nf0]
  refine i_Day (by omega) (up_s _ _ _) (fun g e v => ?_)
  have e0 : g o = .inr (9, [.null, .null, .int (xj 0), .null]) := by rw [e o (by omega), up_ne (by omega)]; exact h0
  have pf : ∀ G, xk_PF g o 9 0 (.ref (o + 1)) G ↔ G (va_up g o (.inr (9, [.ref (o + 1), .null, .int (xj 0), .null]))) := fun G => pf_R e0 (by show 0 < 4; decide)
  simp (disch := omega) only [Nat.add_assoc, Nat.reduceAdd]
  simp (disch := omega) only [b78_12, b78_15, b78_16, List.getElem?_cons_zero, List.getElem?_cons_succ, List.length_cons, List.length_nil, List.set_cons_zero, List.set_cons_succ, true_and, and_true, Option.toList_some, Option.toList_none, List.cons_append, List.nil_append, ↓reduceIte, not_false_eq_true, not_true_eq_false, Nat.reduceAdd, xj0_01, xj1_01, xb_B, xb_True, xb_False, ↓pf]
  rw [b78_18, ini_z (by decide) (by decide), true_and, z_0, show (xj 6).toNatClampNeg = 6 from by decide]
  have a0 : va_up (va_up g o (.inr (9, [.ref (o + 1), .null, .int (xj 0), .null]))) (o + 3) (.inl (0, 6, .inl (fun _ => xj 0))) o = .inr (9, [.ref (o + 1), .null, .int (xj 0), .null]) := by rw [up_ne (by omega), up_s]
  have pf2 : ∀ G, xk_PF (va_up (va_up g o (.inr (9, [.ref (o + 1), .null, .int (xj 0), .null]))) (o + 3) (.inl (0, 6, .inl (fun _ => xj 0)))) o 9 1 (.ref (o + 3)) G ↔ G (va_up (va_up (va_up g o (.inr (9, [.ref (o + 1), .null, .int (xj 0), .null]))) (o + 3) (.inl (0, 6, .inl (fun _ => xj 0)))) o (.inr (9, [.ref (o + 1), .ref (o + 3), .int (xj 0), .null]))) := fun G => pf_R a0 (by show 1 < 4; decide)
  simp (disch := omega) only [Nat.add_assoc, Nat.reduceAdd]
  simp (disch := omega) only [b78_20, b78_23, b78_24, List.getElem?_cons_zero, List.getElem?_cons_succ, List.length_cons, List.length_nil, List.set_cons_zero, List.set_cons_succ, true_and, and_true, Option.toList_some, Option.toList_none, List.cons_append, List.nil_append, ↓reduceIte, not_false_eq_true, not_true_eq_false, Nat.reduceAdd, xj0_01, xj1_01, xb_B, xb_True, xb_False, ↓pf2]
  generalize hg2 : va_up (va_up (va_up g o (.inr (9, [.ref (o + 1), .null, .int (xj 0), .null]))) (o + 3) (.inl (0, 6, .inl (fun _ => xj 0)))) o (.inr (9, [.ref (o + 1), .ref (o + 3), .int (xj 0), .null])) = g2
  have b0 : g2 o = .inr (9, [.ref (o + 1), .ref (o + 3), .int (xj 0), .null]) := by rw [← hg2, up_s]
  have b3 : g2 (o + 3) = xa_I 6 (fun _ => 0) := by rw [← hg2, up_ne (by omega), up_s]
  have bx : ∀ x, x ≠ o → x ≠ o + 3 → g2 x = g x := fun x h1 h2 => by rw [← hg2, up_ne h1, up_ne h2, up_ne h1]
  rw [b78_26, ini_z (by decide) (by decide), true_and, z_3, show (xj 13).toNatClampNeg = 13 from by decide]
  have c0 : va_up g2 (o + 4) (.inl (3, 13, .inr (.inl (fun _ => 0)))) o = .inr (9, [.ref (o + 1), .ref (o + 3), .int (xj 0), .null]) := by rw [up_ne (by omega), b0]
  have pf3 : ∀ G, xk_PF (va_up g2 (o + 4) (.inl (3, 13, .inr (.inl (fun _ => 0))))) o 9 3 (.ref (o + 4)) G ↔ G (va_up (va_up g2 (o + 4) (.inl (3, 13, .inr (.inl (fun _ => 0))))) o (.inr (9, [.ref (o + 1), .ref (o + 3), .int (xj 0), .ref (o + 4)]))) := fun G => pf_R c0 (by show 3 < 4; decide)
  have po := hpost (va_up (va_up g2 (o + 4) (.inl (3, 13, .inr (.inl (fun _ => 0))))) o (.inr (9, [.ref (o + 1), .ref (o + 3), .int (xj 0), .ref (o + 4)]))) (fun x hx => by rw [up_ne (by omega), up_ne (by omega), bx x (by omega) (by omega), e x (by omega), up_ne (by omega)]) ⟨up_s _ _ _, xv_Day_fr v (fun x h1 h2 => by rw [up_ne (by omega), up_ne (by omega), bx x (by omega) (by omega)]), by rw [up_ne (by omega), up_ne (by omega)]; exact b3, by rw [up_ne (by omega), up_s]⟩
  simp (disch := omega) only [b78_28, b78_31, List.getElem?_cons_zero, List.getElem?_cons_succ, List.length_cons, List.length_nil, List.set_cons_zero, List.set_cons_succ, true_and, and_true, Option.toList_some, Option.toList_none, List.cons_append, List.nil_append, ↓reduceIte, not_false_eq_true, not_true_eq_false, Nat.reduceAdd, xj0_01, xj1_01, xb_B, xb_True, xb_False, ↓pf3]
  exact po
end XS9e01
