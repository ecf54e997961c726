/-! the days before the last acts -/
abbrev Hi : Type := Nat × Nat × (Nat → Dy)
def xh_r (h : Nat) : Nat → Option Nat := fun k => if k < 20 then some (h + 2 + 2 * k) else none
def xh_c (h : Nat) (t s : Int) : xk_C := .inr (2, [.ref (h + 1), .int (xj t), .int (xj s)])
def xv_Hi (f : Nat → xk_C) (h : Nat) (H : Hi) : Prop := f h = xh_c h H.1 H.2.1 ∧ f (h + 1) = .inl (6, 20, .inr (.inr (.inr (.inr (xh_r h))))) ∧ ∀ k, k < 20 → xv_Day f (h + 2 + 2 * k) (H.2.2 k)
def xw_Hi (H : Hi) : Prop := H.1 < 20 ∧ H.2.1 ≤ 20 ∧ ∀ k, k < 20 → xz_Day (H.2.2 k)
section XS34
variable {D a b h o r k p q : Nat} {f g : Nat → xk_C} {w : Nat × Nat × Nat} {K : Option Value → xk_S → Prop} {O : Of} {H : Hi} {d : Dy} {z y : Int} {V : Value → Prop} {F : Int32 → Prop}
theorem xv_Day_fr {f' : Nat → xk_C} (hd : xv_Day f a d) (hf : ∀ x, a ≤ x → x < a + 2 → f' x = f x) : xv_Day f' a d := ⟨(hf _ (by omega) (by omega)).trans hd.1, (hf _ (by omega) (by omega)).trans hd.2⟩
theorem gh_0 (hh : f h = xh_c h z y) : xk_GF f h 2 0 V ↔ V (.ref (h + 1)) := gf_R hh rfl
theorem gh_1 (hh : f h = xh_c h z y) : xk_GF f h 2 1 V ↔ V (.int (xj z)) := gf_R hh rfl
theorem gh_2 (hh : f h = xh_c h z y) : xk_GF f h 2 2 V ↔ V (.int (xj y)) := gf_R hh rfl
theorem lh_ (hh : f a = .inl (6, 20, .inr (.inr (.inr (.inr (xh_r h)))))) : xk_LN f a F ↔ F (xj (20 : Nat)) := by
  unfold xk_LN
  rw [hh]
  show (6 < 7 ∧ F (Int32.ofNat 20)) ↔ _
  rw [xj_ofNat]
  exact ⟨fun q => q.2, fun q => ⟨by decide, q⟩⟩
theorem ah_ (hh : f a = .inl (6, 20, .inr (.inr (.inr (.inr (xh_r h)))))) (h1 : 0 ≤ z) (h2 : z < 20) : xk_ALQ f a (xj z) V ↔ V (.ref (h + 2 + 2 * z.toNat)) := by
  unfold xk_ALQ
  rw [hh]
  show ((6 = 4 ∨ 6 = 5 ∨ 6 = 6) ∧ ¬ (xj z < 0 ∨ 20 ≤ (xj z).toNatClampNeg) ∧ V (va_rf (xh_r h (xj z).toNatClampNeg))) ↔ _
  rw [xj_nat h1 (by omega)]
  have e : xh_r h z.toNat = some (h + 2 + 2 * z.toNat) := by unfold xh_r; rw [if_pos (by omega)]
  rw [e]
  exact ⟨fun q => q.2.2, fun q => ⟨Or.inr (Or.inr rfl), by rw [← xj_nat h1 (by omega)]; exact (xj_in (n := 20) h1 h2 (by omega)).mpr trivial, q⟩⟩
theorem s_push (hD : 3 ≤ D) (hh : xv_Hi f h H) (hw : xw_Hi H) (hd : xv_Day f a d) (hz : xz_Day d) (hdis : a + 1 < h ∨ h + 42 ≤ a) : xk_Cl D 16 [.ref h, .ref a] (f, w) K ↔ K none (va_up (xs_Day f (h + 2 + 2 * H.1) d) h (xh_c h ((H.1 + 1) % 20 : Nat) (min (H.2.1 + 1) 20 : Nat)), w) := by
  rw [e16 (by omega)]
  obtain ⟨w1, w2, w3⟩ := hw
  have hb := hh.2.2 H.1 w1
  have hh2 : ∀ d', xs_Day f (h + 2 + 2 * H.1) d' h = xh_c h H.1 H.2.1 := fun d' => (xs_Day_ne (by omega) (by omega)).trans hh.1
  have hup : ∀ (g : Nat → xk_C) (c : xk_C), va_up g h c h = c := fun g c => if_pos rfl
  have hrc : xk_RC f (h + 2 + 2 * H.1) 0 ↔ True := by unfold xk_RC; rw [hb.1]; exact ⟨fun _ => trivial, fun _ => rfl⟩
  have pf1 : ∀ (d' : Dy) (v : Value) (G : (Nat → xk_C) → Prop), xk_PF (xs_Day f (h + 2 + 2 * H.1) d') h 2 1 v G ↔ G (va_up (xs_Day f (h + 2 + 2 * H.1) d') h (.inr (2, [.ref (h + 1), v, .int (xj H.2.1)]))) := fun d' v G => pf_R (hh2 d') (by decide : 1 < 3)
  have pf2 : ∀ (g : Nat → xk_C) (u v : Value) (y : Value) (G : (Nat → xk_C) → Prop), xk_PF (va_up g h (.inr (2, [.ref (h + 1), u, y]))) h 2 2 v G ↔ G (va_up g h (.inr (2, [.ref (h + 1), u, v]))) := fun g u v y G => (pf_R (hup g _) (by decide : 2 < 3)).trans (iff_of_eq (congrArg G (up_up g h _ _)))
  have gf2 : ∀ (g : Nat → xk_C) (u y : Value) (V : Value → Prop), xk_GF (va_up g h (.inr (2, [.ref (h + 1), u, y]))) h 2 2 V ↔ V y := fun g u y V => gf_R (hup g _) rfl
  have e1 : ((H.1 : Int) + 1 - ((H.1 : Int) + 1) / 20 * 20) = (((H.1 + 1) % 20 : Nat) : Int) := by omega
  simp (disch := omega) only [b16_0, b16_1, b16_4, b16_7, b16_8, b16_11, b16_12, b16_15, b16_16, b16_20, b16_21, b16_24, b16_25, b16_28, b16_29, b16_30, List.getElem?_cons_zero, List.getElem?_cons_succ, List.length_cons, List.length_nil, List.set_cons_zero, List.set_cons_succ, true_and, and_true, Option.toList_some, Option.toList_none, List.cons_append, List.nil_append, ↓reduceIte, not_false_eq_true, not_true_eq_false, Nat.reduceAdd, xj0_01, xj1_01, xb_B, xb_True, xb_False, ↓gh_0 hh.1, ↓gh_1 hh.1, ↓lh_ hh.2.1, ↓ah_ hh.2.1, Int.toNat_natCast, hrc, ↓xj_in, xj_nat, Int.toNat_natCast, xj_lt_t, xj_lt_f, xj_le_t, xj_le_f, xj_eq_t, xj_eq_f, xj_lt, xj_le, xj_eq, xj_add, xj_sub, xj_mul, show ¬ xj 1 = xj 0 from by decide, s_day_copy (D := D - 1) (by omega) hb hd (w3 _ w1) hz (by omega)]
  simp (disch := omega) only [b16_33, b16_34, b16_35, b16_38, b16_39, b16_40, b16_43, b16_46, b16_47, b16_48, b16_51, b16_52, b16_53, b16_42 (show ¬ xj 20 = 0 by decide), List.getElem?_cons_zero, List.getElem?_cons_succ, List.length_cons, List.length_nil, List.set_cons_zero, List.set_cons_succ, true_and, and_true, Option.toList_some, Option.toList_none, List.cons_append, List.nil_append, ↓reduceIte, not_false_eq_true, not_true_eq_false, Nat.reduceAdd, xj0_01, xj1_01, xb_B, xb_True, xb_False, ↓gh_0 (hh2 _), ↓gh_1 (hh2 _), ↓xj_in, xj_nat, Int.toNat_natCast, xj_lt_t, xj_lt_f, xj_le_t, xj_le_f, xj_eq_t, xj_eq_f, xj_lt, xj_le, xj_eq, xj_add, xj_sub, xj_mul, show ¬ xj 1 = xj 0 from by decide, ↓pf1, ↓pf2, ↓gf2, xj_div, e1]
  unfold xh_c
  by_cases c : 20 < (H.2.1 : Int) + 1
  · rw [show min (H.2.1 + 1) 20 = 20 by omega]
    simp (disch := omega) only [b16_55, b16_58, b16_61, List.getElem?_cons_zero, List.getElem?_cons_succ, List.length_cons, List.length_nil, List.set_cons_zero, List.set_cons_succ, true_and, and_true, Option.toList_some, Option.toList_none, List.cons_append, List.nil_append, ↓reduceIte, not_false_eq_true, not_true_eq_false, Nat.reduceAdd, xj0_01, xj1_01, xb_B, xb_True, xb_False, ↓xj_in, xj_nat, Int.toNat_natCast, xj_lt_t, xj_lt_f, xj_le_t, xj_le_f, xj_eq_t, xj_eq_f, xj_lt, xj_le, xj_eq, xj_add, xj_sub, xj_mul, show ¬ xj 1 = xj 0 from by decide, ↓pf2]
    rfl
  · rw [show ((min (H.2.1 + 1) 20 : Nat) : Int) = (H.2.1 : Int) + 1 by omega]
    simp (disch := omega) only [b16_55, b16_58, b16_61, List.getElem?_cons_zero, List.getElem?_cons_succ, List.length_cons, List.length_nil, List.set_cons_zero, List.set_cons_succ, true_and, and_true, Option.toList_some, Option.toList_none, List.cons_append, List.nil_append, ↓reduceIte, not_false_eq_true, not_true_eq_false, Nat.reduceAdd, xj0_01, xj1_01, xb_B, xb_True, xb_False, ↓xj_in, xj_nat, Int.toNat_natCast, xj_lt_t, xj_lt_f, xj_le_t, xj_le_f, xj_eq_t, xj_eq_f, xj_lt, xj_le, xj_eq, xj_add, xj_sub, xj_mul, show ¬ xj 1 = xj 0 from by decide, ↓pf2]
end XS34
