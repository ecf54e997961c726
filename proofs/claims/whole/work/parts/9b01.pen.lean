/-! the pen: its parts and what they hold -/
def xp4 (a : Nat) : Nat → Option Nat := fun k => if k < 6 then some (a + 112 + 4 * k) else none
def xp6 (a : Nat) : Nat → Option Nat := fun k => if k < 4 then some (a + 136 + 17 * k) else none
def penF (a n nr : Nat) : List Value := [.ref (a + 1), .int (xj (n : Nat)), .ref (a + 2), .ref (a + 6), .ref (a + 16), .ref (a + 21), .int (xj (nr : Nat)), .ref (a + 22), .ref (a + 39), .ref (a + 40), .ref (a + 41), .ref (a + 83), .ref (a + 85), .ref (a + 90), .ref (a + 108)]
def P0 (f : Nat → xk_C) (a n nr : Nat) (T : Nat → Int) : Prop := f a = .inr (11, penF a n nr) ∧ f (a + 1) = xa_I 400 T
def P1 (f : Nat → xk_C) (a : Nat) : Prop := ∃ (sz nx fa : Nat) (ks vs ps : Nat → Int), f (a + 2) = xc_Tx (a + 2) sz nx fa ∧ f (a + 2 + 1) = xa_I 401 ks ∧ f (a + 2 + 2) = xa_I 401 vs ∧ f (a + 2 + 3) = xa_I 401 ps
def P2 (f : Nat → xk_C) (a : Nat) : Prop := ∃ O, xv_Off f (a + 6) O ∧ xz_Off O
def P3 (f : Nat → xk_C) (a : Nat) : Prop := ∃ (c0 : Nat) (cs : List St), f (a + 16) = .inr (8, [.ref (a + 16 + 1), .int (xj (c0 : Nat))]) ∧ xL f (a + 16 + 1) cs
def P4 (f : Nat → xk_C) (a nr : Nat) (ru : Nat → Ru) : Prop := f (a + 21) = .inl (4, 6, .inr (.inr (.inr (.inr (xp4 a))))) ∧ ∀ k, k < 6 → ∃ (cs : List St) (g : Nat → Int64), xL f (a + 112 + 4 * k) cs ∧ f (a + 112 + 4 * k + 3) = .inl (3, 64, .inr (.inl g)) ∧ (k < nr → cs = flC (ru k))
def P5 (f : Nat → xk_C) (a : Nat) (S : Dk) : Prop := xv_Dk f (a + 22) S
def P6 (f : Nat → xk_C) (a : Nat) (im : Nat → Int) (I : Nat → Dk) : Prop := f (a + 39) = .inl (5, 4, .inr (.inr (.inr (.inr (xp6 a))))) ∧ f (a + 40) = .inl (2, 4, .inl (fun i => xj (im i))) ∧ ∀ k, k < 4 → xv_Dk f (a + 136 + 17 * k) (I k)
def P7 (f : Nat → xk_C) (a : Nat) (H : Hi) : Prop := xv_Hi f (a + 41) H
def P8 (f : Nat → xk_C) (a : Nat) : Prop := ∃ d, xv_Day f (a + 83) d ∧ xz_Day d
def P9 (f : Nat → xk_C) (a : Nat) : Prop := ∃ d row sz wv, xv_Rn f (a + 85) d row sz wv ∧ xz_Day d
def P10 (f : Nat → xk_C) (a : Nat) : Prop := ∃ B s q mo row ds, xv_Pl f (a + 90) B s q mo row ds ∧ bOK B
def P11 (f : Nat → xk_C) (a : Nat) : Prop := ∃ t row, xv_Or f (a + 108) t row ∧ (∀ i, i < 6 → 0 ≤ row i ∧ row i < 6) ∧ (∀ i, 6 ≤ i → row i = 0) ∧ (∀ i, 6 ≤ i → t.2.1 i = 0) ∧ ∀ i, 36 ≤ i → t.2.2 i = 0
/-- the pen at a: bytes taped, rules, the tape, the rules, the desk, the history, images made, the images -/
def xv_Pen (f : Nat → xk_C) (a n nr : Nat) (T : Nat → Int) (ru : Nat → Ru) (S : Dk) (H : Hi) (im : Nat → Int) (I : Nat → Dk) : Prop := P0 f a n nr T ∧ P1 f a ∧ P2 f a ∧ P3 f a ∧ P4 f a nr ru ∧ P5 f a S ∧ P6 f a im I ∧ P7 f a H ∧ P8 f a ∧ P9 f a ∧ P10 f a ∧ P11 f a
def PW (S : Dk) : Prop := xw_Dk S ∧ vsD S.2.1 ∧ vL S.1 S.2.2.1
/-- what is known of all of it -/
def pw_Pen (n nr : Nat) (T : Nat → Int) (ru : Nat → Ru) (S : Dk) (H : Hi) (im : Nat → Int) (I : Nat → Dk) : Prop := tOK T n ∧ nr ≤ 6 ∧ (∀ k, k < nr → ruOK (ru k)) ∧ PW S ∧ xw_Hi H ∧ (∀ k, k < 4 → im k = 0 ∨ im k = 1) ∧ ∀ k, k < 4 → PW (I k)
theorem xv_Hi_fr {f f' : Nat → xk_C} {h : Nat} {H : Hi} (v : xv_Hi f h H) (hf : ∀ x, h ≤ x → x < h + 42 → f' x = f x) : xv_Hi f' h H := ⟨(hf _ (by omega) (by omega)).trans v.1, (hf _ (by omega) (by omega)).trans v.2.1, fun k hk => xv_Day_fr (v.2.2 k hk) (fun x h1 h2 => hf x (by omega) (by omega))⟩
section XS9b01
variable {D a b o k p q n nr r t c v fa s : Nat} {f f' : Nat → xk_C} {w : Nat × Nat × Nat} {K : Option Value → xk_S → Prop} {x y z : Int} {T : Nat → Int} {ru : Nat → Ru} {S : Dk} {H : Hi} {im : Nat → Int} {I : Nat → Dk} {V : Value → Prop} {F : Int32 → Prop} {d : Dy} {G : (Nat → xk_C) → Prop}
theorem P0_fr (h : P0 f a n nr T) (hf : ∀ x, (a ≤ x ∧ x < a + 2) → f' x = f x) : P0 f' a n nr T := ⟨(hf _ (by omega)).trans h.1, (hf _ (by omega)).trans h.2⟩
theorem P1_fr (h : P1 f a) (hf : ∀ x, (a + 2 ≤ x ∧ x < a + 6) → f' x = f x) : P1 f' a := by
  obtain ⟨sz, nx, fa, ks, vs, ps, h0, h1, h2, h3⟩ := h
  exact ⟨sz, nx, fa, ks, vs, ps, (hf _ (by omega)).trans h0, (hf _ (by omega)).trans h1, (hf _ (by omega)).trans h2, (hf _ (by omega)).trans h3⟩
theorem P2_fr (h : P2 f a) (hf : ∀ x, (a + 6 ≤ x ∧ x < a + 16) → f' x = f x) : P2 f' a := by
  obtain ⟨O, h0, h1⟩ := h
  exact ⟨O, xv_Off_fr h0 (fun x q1 q2 => hf x (by omega)), h1⟩
theorem P3_fr (h : P3 f a) (hf : ∀ x, (a + 16 ≤ x ∧ x < a + 20) → f' x = f x) : P3 f' a := by
  obtain ⟨c0, cs, h0, h1⟩ := h
  exact ⟨c0, cs, (hf _ (by omega)).trans h0, xL_fr h1 (fun x q1 q2 => hf x (by omega))⟩
theorem P4_fr (h : P4 f a nr ru) (hf : ∀ x, (x = a + 21 ∨ (a + 112 ≤ x ∧ x < a + 136)) → f' x = f x) : P4 f' a nr ru := by
  refine ⟨(hf _ (by omega)).trans h.1, fun k hk => ?_⟩
  obtain ⟨cs, g, h0, h1, h2⟩ := h.2 k hk
  exact ⟨cs, g, xL_fr h0 (fun x q1 q2 => hf x (by omega)), (hf _ (by omega)).trans h1, h2⟩
theorem P5_fr (h : P5 f a S) (hf : ∀ x, (a + 22 ≤ x ∧ x < a + 39) → f' x = f x) : P5 f' a S := xv_Dk_fr h (fun x q1 q2 => hf x (by omega))
theorem P6_fr (h : P6 f a im I) (hf : ∀ x, ((a + 39 ≤ x ∧ x < a + 41) ∨ (a + 136 ≤ x ∧ x < a + 204)) → f' x = f x) : P6 f' a im I := ⟨(hf _ (by omega)).trans h.1, (hf _ (by omega)).trans h.2.1, fun k hk => xv_Dk_fr (h.2.2 k hk) (fun x q1 q2 => hf x (by omega))⟩
theorem P7_fr (h : P7 f a H) (hf : ∀ x, (a + 41 ≤ x ∧ x < a + 83) → f' x = f x) : P7 f' a H := xv_Hi_fr h (fun x q1 q2 => hf x (by omega))
theorem P8_fr (h : P8 f a) (hf : ∀ x, (a + 83 ≤ x ∧ x < a + 85) → f' x = f x) : P8 f' a := by
  obtain ⟨d, h0, h1⟩ := h
  exact ⟨d, xv_Day_fr h0 (fun x q1 q2 => hf x (by omega)), h1⟩
theorem P9_fr (h : P9 f a) (hf : ∀ x, (a + 85 ≤ x ∧ x < a + 90) → f' x = f x) : P9 f' a := by
  obtain ⟨d, row, sz, wv, h0, h1⟩ := h
  exact ⟨d, row, sz, wv, xv_Rn_fr h0 (fun x q1 q2 => hf x (by omega)), h1⟩
theorem P10_fr (h : P10 f a) (hf : ∀ x, (a + 90 ≤ x ∧ x < a + 108) → f' x = f x) : P10 f' a := by
  obtain ⟨B, s, q, mo, row, ds, h0, h1⟩ := h
  exact ⟨B, s, q, mo, row, ds, xv_Pl_fr h0 (fun x q1 q2 => hf x (by omega)), h1⟩
theorem P11_fr (h : P11 f a) (hf : ∀ x, (a + 108 ≤ x ∧ x < a + 112) → f' x = f x) : P11 f' a := by
  obtain ⟨t, row, h0, h1⟩ := h
  exact ⟨t, row, xv_Or_fr h0 (fun x q1 q2 => hf x (by omega)), h1⟩
theorem pen_fr (h : xv_Pen f a n nr T ru S H im I) (e : ∀ x, (a ≤ x ∧ x < a + 204) → f' x = f x) : xv_Pen f' a n nr T ru S H im I := by
  obtain ⟨p0, p1, p2, p3, p4, p5, p6, p7, p8, p9, p10, p11⟩ := h
  exact ⟨P0_fr p0 (fun x q => e x (by omega)), P1_fr p1 (fun x q => e x (by omega)), P2_fr p2 (fun x q => e x (by omega)), P3_fr p3 (fun x q => e x (by omega)), P4_fr p4 (fun x q => e x (by omega)), P5_fr p5 (fun x q => e x (by omega)), P6_fr p6 (fun x q => e x (by omega)), P7_fr p7 (fun x q => e x (by omega)), P8_fr p8 (fun x q => e x (by omega)), P9_fr p9 (fun x q => e x (by omega)), P10_fr p10 (fun x q => e x (by omega)), P11_fr p11 (fun x q => e x (by omega))⟩
/-- the object's fields -/
theorem gpn_0 (h : P0 f a n nr T) : xk_GF f a 11 0 V ↔ V (.ref (a + 1)) := gf_R h.1 rfl
theorem gpn_1 (h : P0 f a n nr T) : xk_GF f a 11 1 V ↔ V (.int (xj (n : Nat))) := gf_R h.1 rfl
theorem gpn_2 (h : P0 f a n nr T) : xk_GF f a 11 2 V ↔ V (.ref (a + 2)) := gf_R h.1 rfl
theorem gpn_3 (h : P0 f a n nr T) : xk_GF f a 11 3 V ↔ V (.ref (a + 6)) := gf_R h.1 rfl
theorem gpn_4 (h : P0 f a n nr T) : xk_GF f a 11 4 V ↔ V (.ref (a + 16)) := gf_R h.1 rfl
theorem gpn_5 (h : P0 f a n nr T) : xk_GF f a 11 5 V ↔ V (.ref (a + 21)) := gf_R h.1 rfl
theorem gpn_6 (h : P0 f a n nr T) : xk_GF f a 11 6 V ↔ V (.int (xj (nr : Nat))) := gf_R h.1 rfl
theorem gpn_7 (h : P0 f a n nr T) : xk_GF f a 11 7 V ↔ V (.ref (a + 22)) := gf_R h.1 rfl
theorem gpn_8 (h : P0 f a n nr T) : xk_GF f a 11 8 V ↔ V (.ref (a + 39)) := gf_R h.1 rfl
theorem gpn_9 (h : P0 f a n nr T) : xk_GF f a 11 9 V ↔ V (.ref (a + 40)) := gf_R h.1 rfl
theorem gpn_10 (h : P0 f a n nr T) : xk_GF f a 11 10 V ↔ V (.ref (a + 41)) := gf_R h.1 rfl
theorem gpn_11 (h : P0 f a n nr T) : xk_GF f a 11 11 V ↔ V (.ref (a + 83)) := gf_R h.1 rfl
theorem gpn_12 (h : P0 f a n nr T) : xk_GF f a 11 12 V ↔ V (.ref (a + 85)) := gf_R h.1 rfl
theorem gpn_13 (h : P0 f a n nr T) : xk_GF f a 11 13 V ↔ V (.ref (a + 90)) := gf_R h.1 rfl
theorem gpn_14 (h : P0 f a n nr T) : xk_GF f a 11 14 V ↔ V (.ref (a + 108)) := gf_R h.1 rfl
theorem rc_Pen (h : P0 f a n nr T) : xk_RC f a 11 ↔ True := rc_R h.1
/-- the pen's object written -/
def xu_Pen (f : Nat → xk_C) (a n nr : Nat) : Nat → xk_C := va_up f a (.inr (11, penF a n nr))
theorem ppn_1 (h : P0 f a n nr T) : xk_PF f a 11 1 (.int (xj (k : Nat))) G ↔ G (xu_Pen f a k nr) := pf_R h.1 (by show 1 < 15; decide)
theorem ppn_6 (h : P0 f a n nr T) : xk_PF f a 11 6 (.int (xj (k : Nat))) G ↔ G (xu_Pen f a n k) := pf_R h.1 (by show 6 < 15; decide)
theorem xu_P0 (h : P0 f a n nr T) : P0 (xu_Pen f a p q) a p q T := ⟨up_s _ _ _, (up_ne (by omega)).trans h.2⟩
theorem xu_ne {i : Nat} (e : i ≠ a) : xu_Pen f a p q i = f i := up_ne e
/-- history: back -/
def popH (H : Hi) : Nat := (H.1 + 19) % 20
theorem s_pop_no (hD : 3 ≤ D) (hh : xv_Hi f r H) (hw : xw_Hi H) (h0 : H.2.1 = 0) : xk_Cl D 17 [.ref r, .ref b] (f, w) K ↔ K (some (.int (xj 0))) (f, w) := by
  rw [e17 (by omega)]
  obtain ⟨w1, w2, w3⟩ := hw
  simp (disch := omega) only [b17_0, b17_1, b17_4, b17_6, b17_7, b17_8, b17_9, b17_11 (show ¬ xj 20 = 0 by decide), b17_12, b17_13, b17_14, b17_17, b17_18, b17_34, b17_35, b17_35o, b17_35z, b17_35c, List.getElem?_cons_zero, List.getElem?_cons_succ, List.length_cons, List.length_nil, List.set_cons_zero, List.set_cons_succ, true_and, and_true, Option.toList_some, Option.toList_none, List.cons_append, List.nil_append, ↓reduceIte, not_false_eq_true, not_true_eq_false, Nat.reduceAdd, xj0_01, xj1_01, xb_B, xb_True, xb_False, ↓gh_1 hh.1, ↓gh_2 hh.1, h0, ↓xj_in, xj_nat, Int.toNat_natCast, xj_lt_t, xj_lt_f, xj_le_t, xj_le_f, xj_eq_t, xj_eq_f, xj_lt, xj_le, xj_eq, xj_add, xj_sub, xj_mul, show ¬ xj 1 = xj 0 from by decide]
theorem u_pop (hD : 3 ≤ D) (hh : xv_Hi f r H) (hw : xw_Hi H) (h0 : 0 < H.2.1) (hd : xv_Day f b d) (hz : xz_Day d) (hdis : b + 1 < r ∨ r + 42 ≤ b) (hpost : ∀ f', (∀ x, x ≠ r → (x < b ∨ b + 2 ≤ x) → f' x = f x) → f' r = xh_c r (popH H : Nat) (H.2.1 - 1 : Nat) → xv_Day f' b (H.2.2 (popH H)) → K (some (.int (xj 1))) (f', w)) : xk_Cl D 17 [.ref r, .ref b] (f, w) K := by
  rw [e17 (by omega)]
  obtain ⟨w1, w2, w3⟩ := hw
  have hlt : popH H < 20 := Nat.mod_lt _ (by decide)
  have hb := hh.2.2 (popH H) hlt
  have e1 : ((H.1 : Int) + 20 - 1 - ((H.1 : Int) + 20 - 1) / 20 * 20) = (popH H : Nat) := by unfold popH; omega
  have dc := fun K' => s_day_copy (D := D - 1) (w := w) (K := K') (by omega) hd hb hz (w3 _ hlt) (by omega)
  simp (disch := omega) only [b17_0, b17_1, b17_4, b17_6, b17_7, b17_8, b17_9, b17_11 (show ¬ xj 20 = 0 by decide), b17_12, b17_13, b17_14, b17_17, b17_18, b17_21, b17_22, b17_25, b17_26, b17_27, b17_30, b17_31, b17_34, b17_35, b17_36, b17_37, b17_38, b17_41, b17_42, b17_43, b17_35o, b17_35z, b17_35c, List.getElem?_cons_zero, List.getElem?_cons_succ, List.length_cons, List.length_nil, List.set_cons_zero, List.set_cons_succ, true_and, and_true, Option.toList_some, Option.toList_none, List.cons_append, List.nil_append, ↓reduceIte, not_false_eq_true, not_true_eq_false, Nat.reduceAdd, xj0_01, xj1_01, xb_B, xb_True, xb_False, ↓gh_0 hh.1, ↓gh_1 hh.1, ↓gh_2 hh.1, ↓lh_ hh.2.1, ↓ah_ hh.2.1, Int.toNat_natCast, ↓xj_in, xj_nat, Int.toNat_natCast, xj_lt_t, xj_lt_f, xj_le_t, xj_le_f, xj_eq_t, xj_eq_f, xj_lt, xj_le, xj_eq, xj_add, xj_sub, xj_mul, show ¬ xj 1 = xj 0 from by decide, xj_div, e1, rc_Day hd, dc]
  generalize hf1 : xs_Day f b (H.2.2 (popH H)) = f1 at *
  have n1 : ∀ x, (x < b ∨ b + 2 ≤ x) → f1 x = f x := fun x hx => by rw [← hf1]; exact xs_Day_ne (by omega) (by omega)
  have v1 : xv_Day f1 b (H.2.2 (popH H)) := by rw [← hf1]; exact xs_Day_v _ _ _
  have o1 : f1 r = xh_c r H.1 H.2.1 := (n1 r (by omega)).trans hh.1
  have pf1 : ∀ v G, xk_PF f1 r 2 1 v G ↔ G (va_up f1 r (.inr (2, [.ref (r + 1), v, .int (xj H.2.1)]))) := fun v G => pf_R o1 (by show 1 < 3; decide)
  have g2 : ∀ u V, xk_GF (va_up f1 r (.inr (2, [.ref (r + 1), u, .int (xj H.2.1)]))) r 2 2 V ↔ V (.int (xj H.2.1)) := fun u V => gf_R (up_s _ _ _) rfl
  have pf2 : ∀ u v G, xk_PF (va_up f1 r (.inr (2, [.ref (r + 1), u, .int (xj H.2.1)]))) r 2 2 v G ↔ G (va_up f1 r (.inr (2, [.ref (r + 1), u, v]))) := fun u v G => (pf_R (up_s _ _ _) (by show 2 < 3; decide)).trans (iff_of_eq (congrArg G (up_up _ _ _ _)))
  have e2 : ((H.2.1 : Nat) : Int) - 1 = ((H.2.1 - 1 : Nat) : Int) := by omega
  have po := hpost (va_up f1 r (xh_c r (popH H : Nat) (H.2.1 - 1 : Nat))) (fun x q1 q2 => by rw [up_ne q1]; exact n1 x q2) (up_s _ _ _) (xv_Day_fr v1 (fun x q1 q2 => up_ne (by omega)))
  simp (disch := omega) only [b17_46, b17_47, b17_48, b17_51, b17_52, b17_53, b17_56, b17_57, b17_58, b17_61, b17_62, b17_62o, b17_62z, b17_62c, List.getElem?_cons_zero, List.getElem?_cons_succ, List.length_cons, List.length_nil, List.set_cons_zero, List.set_cons_succ, true_and, and_true, Option.toList_some, Option.toList_none, List.cons_append, List.nil_append, ↓reduceIte, not_false_eq_true, not_true_eq_false, Nat.reduceAdd, xj0_01, xj1_01, xb_B, xb_True, xb_False, ↓pf1, ↓g2, ↓pf2, ↓xj_in, xj_nat, Int.toNat_natCast, xj_lt_t, xj_lt_f, xj_le_t, xj_le_f, xj_eq_t, xj_eq_f, xj_lt, xj_le, xj_eq, xj_add, xj_sub, xj_mul, show ¬ xj 1 = xj 0 from by decide, e2]
  exact po
theorem s_Hclear (hD : 1 ≤ D) (hh : xv_Hi f r H) : xk_Cl D 15 [.ref r] (f, w) K ↔ K none (va_up f r (xh_c r H.1 0), w) := by
  rw [e15 (by omega)]
  have pf2 : ∀ v G, xk_PF f r 2 2 v G ↔ G (va_up f r (.inr (2, [.ref (r + 1), .int (xj H.1), v]))) := fun v G => pf_R hh.1 (by show 2 < 3; decide)
  simp (disch := omega) only [b15_0, b15_1, b15_2, b15_5, List.getElem?_cons_zero, List.getElem?_cons_succ, List.length_cons, List.length_nil, List.set_cons_zero, List.set_cons_succ, true_and, and_true, Option.toList_some, Option.toList_none, List.cons_append, List.nil_append, ↓reduceIte, not_false_eq_true, not_true_eq_false, Nat.reduceAdd, xj0_01, xj1_01, xb_B, xb_True, xb_False, ↓pf2]
  exact Iff.rfl
end XS9b01
