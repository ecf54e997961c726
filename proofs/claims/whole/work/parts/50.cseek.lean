/-! the class looks through rows -/
def xp_r (a : Nat) : Nat → Option Nat := fun k => if k < 7 then some (a + 4 + 2 * k) else none
def xp_c (a : Nat) (B : Bst) (s q : Nat) (mo : Int) : List Value := [.int (xj B.1), .int (xj B.2.1), .int (xj B.2.2.1), .ref (a + 1), .int (xj s), .int (xj q), .ref (a + 2), .ref (a + 3), .int (xj mo)]
def xv_Pl (f : Nat → xk_C) (a : Nat) (B : Bst) (s q : Nat) (mo : Int) (row : Nat → Int) (ds : Nat → Dy) : Prop :=
  f a = .inr (6, xp_c a B s q mo) ∧ f (a + 1) = xa_I 6 B.2.2.2 ∧ f (a + 2) = xa_I 6 row ∧ f (a + 3) = .inl (6, 7, .inr (.inr (.inr (.inr (xp_r a))))) ∧ (∀ k, k < 7 → xv_Day f (a + 4 + 2 * k) (ds k)) ∧ (∀ k, k < 7 → xz_Day (ds k)) ∧ (∀ i, 6 ≤ i → row i = 0) ∧ ∀ i, 6 ≤ i → B.2.2.2 i = 0
theorem xv_Pl_fr {f f' : Nat → xk_C} {a : Nat} {B : Bst} {s q : Nat} {mo : Int} {row : Nat → Int} {ds : Nat → Dy} (h : xv_Pl f a B s q mo row ds) (hf : ∀ x, a ≤ x → x < a + 18 → f' x = f x) : xv_Pl f' a B s q mo row ds := by
  obtain ⟨h1, h2, h3, h4, h5, h6⟩ := h
  exact ⟨by rw [hf _ (by omega) (by omega)]; exact h1, by rw [hf _ (by omega) (by omega)]; exact h2, by rw [hf _ (by omega) (by omega)]; exact h3, by rw [hf _ (by omega) (by omega)]; exact h4, fun k hk => xv_Day_fr (h5 k hk) (fun x q1 q2 => hf x (by omega) (by omega)), h6⟩
theorem xv_Pl_day {f : Nat → xk_C} {a k : Nat} {B : Bst} {s q : Nat} {mo : Int} {row : Nat → Int} {ds : Nat → Dy} {d' : Dy} (h : xv_Pl f a B s q mo row ds) (hk : k < 7) (hz : xz_Day d') : xv_Pl (xs_Day f (a + 4 + 2 * k) d') a B s q mo row (fun i => if i = k then d' else ds i) := by
  obtain ⟨h1, h2, h3, h4, h5, h6, h7⟩ := h
  refine ⟨by rw [xs_Day_ne (by omega) (by omega)]; exact h1, by rw [xs_Day_ne (by omega) (by omega)]; exact h2, by rw [xs_Day_ne (by omega) (by omega)]; exact h3, by rw [xs_Day_ne (by omega) (by omega)]; exact h4, fun i hi => ?_, fun i hi => ?_, h7⟩
  · by_cases e : i = k
    · subst e; simp only [if_true]; exact xs_Day_v _ _ _
    · simp only [e, if_false]
      exact xv_Day_fr (h5 i hi) (fun x q1 q2 => xs_Day_ne (by omega) (by omega))
  · by_cases e : i = k
    · simp only [e, if_true]; exact hz
    · simp only [e, if_false]; exact h6 i hi
theorem xv_Pl_row {f : Nat → xk_C} {a : Nat} {B : Bst} {s q : Nat} {mo : Int} {row r : Nat → Int} {ds : Nat → Dy} (h : xv_Pl f a B s q mo row ds) (hr : ∀ i, 6 ≤ i → r i = 0) : xv_Pl (va_up f (a + 2) (xa_I 6 r)) a B s q mo r ds := by
  obtain ⟨h1, h2, h3, h4, h5, h6, h7, h8⟩ := h
  exact ⟨by rw [up_ne (by omega)]; exact h1, by rw [up_ne (by omega)]; exact h2, up_s _ _ _, by rw [up_ne (by omega)]; exact h4, fun k hk => xv_Day_fr (h5 k hk) (fun x q1 q2 => up_ne (by omega)), h6, hr, h8⟩
theorem xv_Pl_obj {f : Nat → xk_C} {a : Nat} {B B' : Bst} {s q s' q' : Nat} {mo mo' : Int} {row : Nat → Int} {ds : Nat → Dy} (h : xv_Pl f a B s q mo row ds) (hb : B'.2.2.2 = B.2.2.2) : xv_Pl (va_up f a (.inr (6, xp_c a B' s' q' mo'))) a B' s' q' mo' row ds := by
  obtain ⟨h1, h2, h3, h4, h5, h6, h7, h8⟩ := h
  exact ⟨up_s _ _ _, by rw [up_ne (by omega), hb]; exact h2, by rw [up_ne (by omega)]; exact h3, by rw [up_ne (by omega)]; exact h4, fun k hk => xv_Day_fr (h5 k hk) (fun x q1 q2 => up_ne (by omega)), h6, h7, by rw [hb]; exact h8⟩
theorem xv_Pl_brow {f : Nat → xk_C} {a : Nat} {B : Bst} {s q : Nat} {mo : Int} {row r : Nat → Int} {ds : Nat → Dy} (h : xv_Pl f a B s q mo row ds) (hr : ∀ i, 6 ≤ i → r i = 0) : xv_Pl (va_up f (a + 1) (xa_I 6 r)) a (B.1, B.2.1, B.2.2.1, r) s q mo row ds := by
  obtain ⟨h1, h2, h3, h4, h5, h6, h7, h8⟩ := h
  exact ⟨by rw [up_ne (by omega)]; exact h1, up_s _ _ _, by rw [up_ne (by omega)]; exact h3, by rw [up_ne (by omega)]; exact h4, fun k hk => xv_Day_fr (h5 k hk) (fun x q1 q2 => up_ne (by omega)), h6, h7, hr⟩
section XS50
variable {D a b o k p q s : Nat} {f g : Nat → xk_C} {w : Nat × Nat × Nat} {K : Option Value → xk_S → Prop} {O : Of} {d d2 : Dy} {mo z y : Int} {B : Bst} {row r : Nat → Int} {ds : Nat → Dy} {V : Value → Prop} {F : Int32 → Prop}
theorem gp_0 (h : xv_Pl f a B s q mo row ds) : xk_GF f a 6 0 V ↔ V (.int (xj B.1)) := gf_R h.1 rfl
theorem gp_1 (h : xv_Pl f a B s q mo row ds) : xk_GF f a 6 1 V ↔ V (.int (xj B.2.1)) := gf_R h.1 rfl
theorem gp_2 (h : xv_Pl f a B s q mo row ds) : xk_GF f a 6 2 V ↔ V (.int (xj B.2.2.1)) := gf_R h.1 rfl
theorem gp_3 (h : xv_Pl f a B s q mo row ds) : xk_GF f a 6 3 V ↔ V (.ref (a + 1)) := gf_R h.1 rfl
theorem gp_4 (h : xv_Pl f a B s q mo row ds) : xk_GF f a 6 4 V ↔ V (.int (xj s)) := gf_R h.1 rfl
theorem gp_5 (h : xv_Pl f a B s q mo row ds) : xk_GF f a 6 5 V ↔ V (.int (xj q)) := gf_R h.1 rfl
theorem gp_6 (h : xv_Pl f a B s q mo row ds) : xk_GF f a 6 6 V ↔ V (.ref (a + 2)) := gf_R h.1 rfl
theorem gp_7 (h : xv_Pl f a B s q mo row ds) : xk_GF f a 6 7 V ↔ V (.ref (a + 3)) := gf_R h.1 rfl
theorem gp_8 (h : xv_Pl f a B s q mo row ds) : xk_GF f a 6 8 V ↔ V (.int (xj mo)) := gf_R h.1 rfl
theorem ap_ (h : xv_Pl f a B s q mo row ds) (h1 : 0 ≤ z) (h2 : z < 7) : xk_ALQ f (a + 3) (xj z) V ↔ V (.ref (a + 4 + 2 * z.toNat)) := by
  unfold xk_ALQ
  rw [h.2.2.2.1]
  show ((6 = 4 ∨ 6 = 5 ∨ 6 = 6) ∧ ¬ (xj z < 0 ∨ 7 ≤ (xj z).toNatClampNeg) ∧ V (va_rf (xp_r a (xj z).toNatClampNeg))) ↔ _
  rw [xj_nat h1 (by omega)]
  have e : xp_r a z.toNat = some (a + 4 + 2 * z.toNat) := by unfold xp_r; rw [if_pos (by omega)]
  rw [e]
  exact ⟨fun q => q.2.2, fun q => ⟨Or.inr (Or.inr rfl), by rw [← xj_nat h1 (by omega)]; exact (xj_in (n := 7) h1 h2 (by omega)).mpr trivial, q⟩⟩
theorem pfu {ci : Nat} {v : Value} {fs : List Value} {G : (Nat → xk_C) → Prop} (h : k < fs.length) : xk_PF (va_up f a (.inr (ci, fs))) a ci k v G ↔ G (va_up f a (.inr (ci, fs.set k v))) := by
  rw [pf_R (up_s _ _ _) h, up_up]
theorem gfu {ci : Nat} {fs : List Value} : xk_GF (va_up f a (.inr (ci, fs))) a ci k V ↔ (fs[k]?).elim False V := by
  unfold xk_GF
  rw [up_s]
  show (ci = ci ∧ _) ↔ _
  cases fs[k]? with
  | none => exact ⟨fun q => q.2, fun q => ⟨rfl, q⟩⟩
  | some v => exact ⟨fun q => q.2, fun q => ⟨rfl, q⟩⟩
theorem u_weigh (hD : 4 ≤ D) (ho : xv_Off f o O) (hw : xw_Off O) (hp : xv_Pl f a B s q mo row ds) (hd : xv_Day f b d) (hwd : xw_Day O d) (hk : k ≤ 6) (hB1 : -1 ≤ B.1) (hB2 : B.1 ≤ 1000) (hB3 : 0 ≤ B.2.1) (hB4 : B.2.1 ≤ 100000) (hdis : b + 1 < a ∨ a + 3 < b)
    (hpost : ∀ f' B', xv_Pl f' a B' s q mo row ds → (∀ x, x < a ∨ a + 2 ≤ x → f' x = f x) → B' = vPl (fun d => smF (inTF O d) (of_wo O) (of_np O)) k d row B → K none (f', w)) : xk_Cl D 55 [.ref a, .ref o, .ref b, .int (xj k)] (f, w) K := by
  rw [e55 (by omega)]
  have hW := smF_wo hw (inTF O d) (of_np O) (Nat.le_refl _)
  have hn := hw.2.2.2.1
  have d1 := hwd.1
  have d2 := hwd.2.1
  have rcd : xk_RC f b 0 ↔ True := by unfold xk_RC; rw [hd.1]; exact ⟨fun _ => trivial, fun _ => rfl⟩
  have gd0 : ∀ V : Value → Prop, xk_GF f b 0 0 V ↔ V (.int (xj d.1)) := fun V => gf_R hd.1 rfl
  have yes : B.1 < smF (inTF O d) (of_wo O) (of_np O) ∨ (smF (inTF O d) (of_wo O) (of_np O) = B.1 ∧ d.1 < B.2.1) → xk_B (D - 1) 55 36 [.ref a, .ref o, .ref b, .int (xj k), .int (xj (smF (inTF O d) (of_wo O) (of_np O)))] [] (f, w) K := by
    intro hc
    have m0 : mixI 6 row B.2.2.2 = row := mixI_z hp.2.2.2.2.2.2.1 hp.2.2.2.2.2.2.2
    have v1 := xv_Pl_obj (B' := (smF (inTF O d) (of_wo O) (of_np O), d.1, k, B.2.2.2)) (s' := s) (q' := q) (mo' := mo) hp rfl
    have v2 := xv_Pl_brow v1 (r := row) hp.2.2.2.2.2.2.1
    have hK := hpost _ _ v2 (fun x hx => by rw [up_ne (by omega), up_ne (by omega)]) (by unfold vPl; rw [if_pos hc])
    rw [← up_id hp.1]
    have gd1 : ∀ (X : xk_C) (V : Value → Prop), xk_GF (va_up f a X) b 0 0 V ↔ V (.int (xj d.1)) := fun X V => gf_R ((up_ne (by omega)).trans hd.1) rfl
    have c1 : ∀ X : xk_C, va_up f a X (a + 2) = xa_I 6 row := fun X => (up_ne (by omega)).trans hp.2.2.1
    have c2 : ∀ X : xk_C, va_up f a X (a + 1) = xa_I 6 B.2.2.2 := fun X => (up_ne (by omega)).trans hp.2.1
    unfold xp_c at hK ⊢
    simp (disch := first | omega | (simp only [List.length_cons, List.length_nil] <;> omega)) only [b55_36, b55_37, b55_39, b55_42, b55_43, b55_44, b55_47, b55_50, b55_51, b55_52, b55_55, b55_56, b55_59, b55_60, ↓pfu, ↓gfu, ↓gd1, List.getElem?_cons_zero, List.getElem?_cons_succ, List.length_cons, List.length_nil, List.set_cons_zero, List.set_cons_succ, true_and, and_true, Option.toList_some, Option.toList_none, List.cons_append, List.nil_append, ↓reduceIte, not_false_eq_true, not_true_eq_false, Nat.reduceAdd, xj0_01, xj1_01, xb_B, xb_True, xb_False, Option.elim_some]
    rw [b55_63, s_copyRow (by omega) (c1 _) (c2 _) (by omega) (by decide), m0]
    simp (disch := omega) only [b55_66, List.getElem?_cons_zero, List.getElem?_cons_succ, List.length_cons, List.length_nil, List.set_cons_zero, List.set_cons_succ, true_and, and_true, Option.toList_some, Option.toList_none, List.cons_append, List.nil_append, ↓reduceIte, not_false_eq_true, not_true_eq_false, Nat.reduceAdd, xj0_01, xj1_01, xb_B, xb_True, xb_False]
    exact hK
  have no : ¬ (B.1 < smF (inTF O d) (of_wo O) (of_np O) ∨ (smF (inTF O d) (of_wo O) (of_np O) = B.1 ∧ d.1 < B.2.1)) → xk_B (D - 1) 55 66 [.ref a, .ref o, .ref b, .int (xj k), .int (xj (smF (inTF O d) (of_wo O) (of_np O)))] [] (f, w) K := by
    intro hc
    have hK := hpost f B hp (fun _ _ => rfl) (by unfold vPl; rw [if_neg hc])
    simp (disch := omega) only [b55_66, List.getElem?_cons_zero, List.getElem?_cons_succ, List.length_cons, List.length_nil, List.set_cons_zero, List.set_cons_succ, true_and, and_true, Option.toList_some, Option.toList_none, List.cons_append, List.nil_append, ↓reduceIte, not_false_eq_true, not_true_eq_false, Nat.reduceAdd, xj0_01, xj1_01, xb_B, xb_True, xb_False]
    exact hK
  by_cases c1 : B.1 < smF (inTF O d) (of_wo O) (of_np O)
  · have y := yes (Or.inl c1)
    simp (disch := omega) only [b55_0, b55_1, b55_2, b55_5, b55_7, b55_9, b55_10, b55_13, List.getElem?_cons_zero, List.getElem?_cons_succ, List.length_cons, List.length_nil, List.set_cons_zero, List.set_cons_succ, true_and, and_true, Option.toList_some, Option.toList_none, List.cons_append, List.nil_append, ↓reduceIte, not_false_eq_true, not_true_eq_false, Nat.reduceAdd, xj0_01, xj1_01, xb_B, xb_True, xb_False, ↓xj_in, xj_nat, Int.toNat_natCast, xj_lt_t, xj_lt_f, xj_le_t, xj_le_f, xj_eq_t, xj_eq_f, xj_lt, xj_le, xj_eq, xj_add, xj_sub, xj_mul, show ¬ xj 1 = xj 0 from by decide, rcd, s_worthInTime _ ho hw hd hwd, ↓gp_0 hp]
    exact y
  · by_cases c2 : smF (inTF O d) (of_wo O) (of_np O) = B.1
    · by_cases c3 : d.1 < B.2.1
      · have y := yes (Or.inr ⟨c2, c3⟩)
        simp (disch := omega) only [b55_0, b55_1, b55_2, b55_5, b55_7, b55_9, b55_10, b55_13, b55_16, b55_18, b55_19, b55_22, b55_25, b55_26, b55_29, b55_30, b55_33, List.getElem?_cons_zero, List.getElem?_cons_succ, List.length_cons, List.length_nil, List.set_cons_zero, List.set_cons_succ, true_and, and_true, Option.toList_some, Option.toList_none, List.cons_append, List.nil_append, ↓reduceIte, not_false_eq_true, not_true_eq_false, Nat.reduceAdd, xj0_01, xj1_01, xb_B, xb_True, xb_False, ↓xj_in, xj_nat, Int.toNat_natCast, xj_lt_t, xj_lt_f, xj_le_t, xj_le_f, xj_eq_t, xj_eq_f, xj_lt, xj_le, xj_eq, xj_add, xj_sub, xj_mul, show ¬ xj 1 = xj 0 from by decide, rcd, s_worthInTime _ ho hw hd hwd, ↓gp_0 hp, ↓gp_1 hp, ↓gd0]
        exact y
      · have y := no (fun q => q.elim c1 (fun r => c3 r.2))
        simp (disch := omega) only [b55_0, b55_1, b55_2, b55_5, b55_7, b55_9, b55_10, b55_13, b55_16, b55_18, b55_19, b55_22, b55_25, b55_26, b55_29, b55_30, b55_33, List.getElem?_cons_zero, List.getElem?_cons_succ, List.length_cons, List.length_nil, List.set_cons_zero, List.set_cons_succ, true_and, and_true, Option.toList_some, Option.toList_none, List.cons_append, List.nil_append, ↓reduceIte, not_false_eq_true, not_true_eq_false, Nat.reduceAdd, xj0_01, xj1_01, xb_B, xb_True, xb_False, ↓xj_in, xj_nat, Int.toNat_natCast, xj_lt_t, xj_lt_f, xj_le_t, xj_le_f, xj_eq_t, xj_eq_f, xj_lt, xj_le, xj_eq, xj_add, xj_sub, xj_mul, show ¬ xj 1 = xj 0 from by decide, rcd, s_worthInTime _ ho hw hd hwd, ↓gp_0 hp, ↓gp_1 hp, ↓gd0]
        exact y
    · have y := no (fun q => q.elim c1 (fun r => c2 r.1))
      simp (disch := omega) only [b55_0, b55_1, b55_2, b55_5, b55_7, b55_9, b55_10, b55_13, b55_16, b55_18, b55_19, b55_22, b55_25, b55_26, b55_29, b55_30, b55_33, List.getElem?_cons_zero, List.getElem?_cons_succ, List.length_cons, List.length_nil, List.set_cons_zero, List.set_cons_succ, true_and, and_true, Option.toList_some, Option.toList_none, List.cons_append, List.nil_append, ↓reduceIte, not_false_eq_true, not_true_eq_false, Nat.reduceAdd, xj0_01, xj1_01, xb_B, xb_True, xb_False, ↓xj_in, xj_nat, Int.toNat_natCast, xj_lt_t, xj_lt_f, xj_le_t, xj_le_f, xj_eq_t, xj_eq_f, xj_lt, xj_le, xj_eq, xj_add, xj_sub, xj_mul, show ¬ xj 1 = xj 0 from by decide, rcd, s_worthInTime _ ho hw hd hwd, ↓gp_0 hp]
      exact y
end XS50
