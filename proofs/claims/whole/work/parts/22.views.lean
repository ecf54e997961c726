/-! VIEWS: what objects hold, by whole numbers; setters; what is known of an office and a day -/
/-- an office: told, INK, NIB, FILL; clerks, aways, papers; seat, away who, first, last, owner, strokes, due, worth; rests -/
abbrev Of : Type := (Int × Int × Int × Int) × (Nat × Nat × Nat) × (Nat → Int) × (Nat → Int) × (Nat → Int) × (Nat → Int) × (Nat → Int) × (Nat → Int) × (Nat → Int) × (Nat → Int) × (Nat → Nat)
def of_told (O : Of) : Int := O.1.1
def of_ink (O : Of) : Int := O.1.2.1
def of_nib (O : Of) : Int := O.1.2.2.1
def of_fill (O : Of) : Int := O.1.2.2.2
def of_nc (O : Of) : Nat := O.2.1.1
def of_na (O : Of) : Nat := O.2.1.2.1
def of_np (O : Of) : Nat := O.2.1.2.2
def of_seat (O : Of) : Nat → Int := O.2.2.1
def of_aw (O : Of) : Nat → Int := O.2.2.2.1
def of_af (O : Of) : Nat → Int := O.2.2.2.2.1
def of_al (O : Of) : Nat → Int := O.2.2.2.2.2.1
def of_ow (O : Of) : Nat → Int := O.2.2.2.2.2.2.1
def of_sk (O : Of) : Nat → Int := O.2.2.2.2.2.2.2.1
def of_du (O : Of) : Nat → Int := O.2.2.2.2.2.2.2.2.1
def of_wo (O : Of) : Nat → Int := O.2.2.2.2.2.2.2.2.2.1
def of_re (O : Of) : Nat → Nat := O.2.2.2.2.2.2.2.2.2.2
/-- a row of ints at an address -/
abbrev xa_I (n : Nat) (g : Nat → Int) : xk_C := .inl (0, n, .inl (fun i => xj (g i)))
abbrev xa_N (n : Nat) (g : Nat → Nat) : xk_C := .inl (0, n, .inl (fun i => xj (g i)))
/-- an office's cells at o: the object, nine rows behind it -/
def xc_Off (o : Nat) (O : Of) (k : Nat) : xk_C :=
  if k = 0 then .inr (4, [.int (xj (of_told O)), .int (xj (of_ink O)), .int (xj (of_nib O)), .int (xj (of_fill O)), .int (xj (of_nc O)), .int (xj (of_na O)), .int (xj (of_np O)), .ref (o + 1), .ref (o + 2), .ref (o + 3), .ref (o + 4), .ref (o + 5), .ref (o + 6), .ref (o + 7), .ref (o + 8), .ref (o + 9)])
  else if k = 1 then xa_I 4 (of_seat O)
  else if k = 2 then xa_I 6 (of_aw O)
  else if k = 3 then xa_I 6 (of_af O)
  else if k = 4 then xa_I 6 (of_al O)
  else if k = 5 then xa_I 6 (of_ow O)
  else if k = 6 then xa_I 6 (of_sk O)
  else if k = 7 then xa_I 6 (of_du O)
  else if k = 8 then xa_I 6 (of_wo O)
  else xa_N 6 (of_re O)
def xv_Off (f : Nat → xk_C) (o : Nat) (O : Of) : Prop := ∀ k, k < 10 → f (o + k) = xc_Off o O k
/-- what is known of an office that was told, or of none -/
def xw_Off (O : Of) : Prop := ((of_told O = 1 ∧ 1 ≤ of_ink O ∧ of_ink O ≤ 99 ∧ 1 ≤ of_nib O ∧ of_nib O ≤ 200 ∧ 0 ≤ of_fill O ∧ of_fill O ≤ 20) ∨ (of_told O = 0 ∧ of_ink O = 0 ∧ of_nib O = 0 ∧ of_fill O = 0 ∧ of_nc O = 0 ∧ of_na O = 0 ∧ of_np O = 0)) ∧ of_nc O ≤ 4 ∧ of_na O ≤ 6 ∧ of_np O ≤ 6 ∧
  (∀ i, i < of_nc O → 0 ≤ of_seat O i ∧ of_seat O i ≤ 20) ∧ (∀ i, i < of_na O → 0 ≤ of_aw O i ∧ of_aw O i < of_nc O ∧ 0 ≤ of_af O i ∧ of_af O i ≤ of_al O i ∧ of_al O i ≤ 299) ∧
  (∀ p, p < of_np O → 0 ≤ of_ow O p ∧ of_ow O p < of_nc O ∧ 1 ≤ of_sk O p ∧ of_sk O p ≤ 20 ∧ 0 ≤ of_du O p ∧ of_du O p ≤ 299 ∧ 1 ≤ of_wo O p ∧ of_wo O p ≤ 30 ∧ of_re O p < 2 ^ of_np O)
/-- a day: minute, place, ink, nib; signed, voided, blanked; ends -/
abbrev Dy : Type := Int × Int × Int × Int × Nat × Nat × Nat × (Nat → Int)
def xc_Day (a : Nat) (d : Dy) : xk_C := .inr (0, [.int (xj d.1), .int (xj d.2.1), .int (xj d.2.2.1), .int (xj d.2.2.2.1), .int (xj d.2.2.2.2.1), .int (xj d.2.2.2.2.2.1), .int (xj d.2.2.2.2.2.2.1), .ref (a + 1)])
def xv_Day (f : Nat → xk_C) (a : Nat) (d : Dy) : Prop := f a = xc_Day a d ∧ f (a + 1) = xa_I 6 d.2.2.2.2.2.2.2
def xs_Day (f : Nat → xk_C) (a : Nat) (d : Dy) : Nat → xk_C := fun x => if x = a then xc_Day a d else if x = a + 1 then xa_I 6 d.2.2.2.2.2.2.2 else f x
theorem xs_Day_0 (f : Nat → xk_C) (a : Nat) (d : Dy) : xs_Day f a d a = xc_Day a d := if_pos rfl
theorem xs_Day_1 (f : Nat → xk_C) (a : Nat) (d : Dy) : xs_Day f a d (a + 1) = xa_I 6 d.2.2.2.2.2.2.2 := by
  unfold xs_Day
  rw [if_neg (by omega), if_pos rfl]
theorem xs_Day_ne {f : Nat → xk_C} {a x : Nat} {d : Dy} (h : x ≠ a) (h2 : x ≠ a + 1) : xs_Day f a d x = f x := by
  unfold xs_Day
  rw [if_neg h, if_neg h2]
theorem xs_Day_v (f : Nat → xk_C) (a : Nat) (d : Dy) : xv_Day (xs_Day f a d) a d := ⟨xs_Day_0 f a d, xs_Day_1 f a d⟩
theorem xs_Day_id {f : Nat → xk_C} {a : Nat} {d : Dy} (h : xv_Day f a d) : xs_Day f a d = f := by
  funext x
  unfold xs_Day
  by_cases h0 : x = a
  · subst h0; rw [if_pos rfl]; exact h.1.symm
  · rw [if_neg h0]
    by_cases h1 : x = a + 1
    · subst h1; rw [if_pos rfl]; exact h.2.symm
    · rw [if_neg h1]
theorem xs_Day_put (f : Nat → xk_C) (a : Nat) (d d' : Dy) (h : d'.2.2.2.2.2.2.2 = d.2.2.2.2.2.2.2) : va_up (xs_Day f a d) a (xc_Day a d') = xs_Day f a d' := by
  funext x
  unfold va_up xs_Day
  by_cases h0 : x = a
  · rw [if_pos h0, if_pos h0]
  · rw [if_neg h0, if_neg h0, if_neg h0, h]
theorem xs_Day_arr (f : Nat → xk_C) (a : Nat) (d : Dy) (E : Nat → Int) : va_up (xs_Day f a d) (a + 1) (xa_I 6 E) = xs_Day f a (d.1, d.2.1, d.2.2.1, d.2.2.2.1, d.2.2.2.2.1, d.2.2.2.2.2.1, d.2.2.2.2.2.2.1, E) := by
  funext x
  unfold va_up xs_Day
  by_cases h0 : x = a
  · have h1 : ¬ x = a + 1 := by omega
    rw [if_neg h1, if_pos h0, if_pos h0]; rfl
  · by_cases h1 : x = a + 1
    · rw [if_pos h1, if_neg h0, if_pos h1]
    · rw [if_neg h1, if_neg h0, if_neg h1, if_neg h0, if_neg h1]
theorem xs_Day_2 (f : Nat → xk_C) (a : Nat) (d d' : Dy) : xs_Day (xs_Day f a d) a d' = xs_Day f a d' := by
  funext x
  unfold xs_Day
  by_cases h0 : x = a
  · rw [if_pos h0, if_pos h0]
  · by_cases h1 : x = a + 1
    · rw [if_neg h0, if_pos h1, if_neg h0, if_pos h1]
    · simp only [h0, h1, if_false]
theorem xv_Off_day {f : Nat → xk_C} {o a : Nat} {O : Of} {d : Dy} (h : xv_Off f o O) (hd : o + 9 < a ∨ a + 1 < o) : xv_Off (xs_Day f a d) o O := fun k hk => by
  rw [xs_Day_ne (by omega) (by omega)]
  exact h k hk
theorem xv_Off.at {f : Nat → xk_C} {o : Nat} {O : Of} (h : xv_Off f o O) : f o = .inr (4, [.int (xj (of_told O)), .int (xj (of_ink O)), .int (xj (of_nib O)), .int (xj (of_fill O)), .int (xj (of_nc O)), .int (xj (of_na O)), .int (xj (of_np O)), .ref (o + 1), .ref (o + 2), .ref (o + 3), .ref (o + 4), .ref (o + 5), .ref (o + 6), .ref (o + 7), .ref (o + 8), .ref (o + 9)]) ∧ f (o + 1) = xa_I 4 (of_seat O) ∧ f (o + 2) = xa_I 6 (of_aw O) ∧ f (o + 3) = xa_I 6 (of_af O) ∧ f (o + 4) = xa_I 6 (of_al O) ∧ f (o + 5) = xa_I 6 (of_ow O) ∧ f (o + 6) = xa_I 6 (of_sk O) ∧ f (o + 7) = xa_I 6 (of_du O) ∧ f (o + 8) = xa_I 6 (of_wo O) ∧ f (o + 9) = xa_N 6 (of_re O) :=
  ⟨h 0 (by omega), h 1 (by omega), h 2 (by omega), h 3 (by omega), h 4 (by omega), h 5 (by omega), h 6 (by omega), h 7 (by omega), h 8 (by omega), h 9 (by omega)⟩
/-- loops: a proposition that goes round -/
theorem xk_loop {P : Nat → Prop} {n : Nat} (step : ∀ k, k < n → (P k ↔ P (k + 1))) : P 0 ↔ P n := by
  induction n with
  | zero => exact Iff.rfl
  | succ n ih => exact (ih (fun k hk => step k (by omega))).trans (step n (by omega))
section XG22
variable {o p : Nat} {z : Int} {f : Nat → xk_C} {O : Of} {V : Value → Prop} {F : Int32 → Prop}
theorem go_0 (h : xv_Off f o O) : xk_GF f o 4 0 V ↔ V (.int (xj (of_told O))) := by unfold xk_GF; rw [h.at.1]; exact ⟨fun q => q.2, fun q => ⟨rfl, q⟩⟩
theorem go_1 (h : xv_Off f o O) : xk_GF f o 4 1 V ↔ V (.int (xj (of_ink O))) := by unfold xk_GF; rw [h.at.1]; exact ⟨fun q => q.2, fun q => ⟨rfl, q⟩⟩
theorem go_2 (h : xv_Off f o O) : xk_GF f o 4 2 V ↔ V (.int (xj (of_nib O))) := by unfold xk_GF; rw [h.at.1]; exact ⟨fun q => q.2, fun q => ⟨rfl, q⟩⟩
theorem go_3 (h : xv_Off f o O) : xk_GF f o 4 3 V ↔ V (.int (xj (of_fill O))) := by unfold xk_GF; rw [h.at.1]; exact ⟨fun q => q.2, fun q => ⟨rfl, q⟩⟩
theorem go_4 (h : xv_Off f o O) : xk_GF f o 4 4 V ↔ V (.int (xj (of_nc O))) := by unfold xk_GF; rw [h.at.1]; exact ⟨fun q => q.2, fun q => ⟨rfl, q⟩⟩
theorem go_5 (h : xv_Off f o O) : xk_GF f o 4 5 V ↔ V (.int (xj (of_na O))) := by unfold xk_GF; rw [h.at.1]; exact ⟨fun q => q.2, fun q => ⟨rfl, q⟩⟩
theorem go_6 (h : xv_Off f o O) : xk_GF f o 4 6 V ↔ V (.int (xj (of_np O))) := by unfold xk_GF; rw [h.at.1]; exact ⟨fun q => q.2, fun q => ⟨rfl, q⟩⟩
theorem go_7 (h : xv_Off f o O) : xk_GF f o 4 7 V ↔ V (.ref (o + 1)) := by unfold xk_GF; rw [h.at.1]; exact ⟨fun q => q.2, fun q => ⟨rfl, q⟩⟩
theorem go_8 (h : xv_Off f o O) : xk_GF f o 4 8 V ↔ V (.ref (o + 2)) := by unfold xk_GF; rw [h.at.1]; exact ⟨fun q => q.2, fun q => ⟨rfl, q⟩⟩
theorem go_9 (h : xv_Off f o O) : xk_GF f o 4 9 V ↔ V (.ref (o + 3)) := by unfold xk_GF; rw [h.at.1]; exact ⟨fun q => q.2, fun q => ⟨rfl, q⟩⟩
theorem go_10 (h : xv_Off f o O) : xk_GF f o 4 10 V ↔ V (.ref (o + 4)) := by unfold xk_GF; rw [h.at.1]; exact ⟨fun q => q.2, fun q => ⟨rfl, q⟩⟩
theorem go_11 (h : xv_Off f o O) : xk_GF f o 4 11 V ↔ V (.ref (o + 5)) := by unfold xk_GF; rw [h.at.1]; exact ⟨fun q => q.2, fun q => ⟨rfl, q⟩⟩
theorem go_12 (h : xv_Off f o O) : xk_GF f o 4 12 V ↔ V (.ref (o + 6)) := by unfold xk_GF; rw [h.at.1]; exact ⟨fun q => q.2, fun q => ⟨rfl, q⟩⟩
theorem go_13 (h : xv_Off f o O) : xk_GF f o 4 13 V ↔ V (.ref (o + 7)) := by unfold xk_GF; rw [h.at.1]; exact ⟨fun q => q.2, fun q => ⟨rfl, q⟩⟩
theorem go_14 (h : xv_Off f o O) : xk_GF f o 4 14 V ↔ V (.ref (o + 8)) := by unfold xk_GF; rw [h.at.1]; exact ⟨fun q => q.2, fun q => ⟨rfl, q⟩⟩
theorem go_15 (h : xv_Off f o O) : xk_GF f o 4 15 V ↔ V (.ref (o + 9)) := by unfold xk_GF; rw [h.at.1]; exact ⟨fun q => q.2, fun q => ⟨rfl, q⟩⟩
theorem ao_1 (h : xv_Off f o O) (h1 : 0 ≤ z) (h2 : z < 4) : xk_AL f (o + 1) 0 (xj z) F ↔ F (xj (of_seat O z.toNat)) := by
  have e : f (o + 1) = _ := h 1 (by omega)
  unfold xk_AL
  rw [e]
  show (0 = 0 ∧ ¬ (xj z < 0 ∨ 4 ≤ (xj z).toNatClampNeg) ∧ F (xj (of_seat O (xj z).toNatClampNeg))) ↔ _
  rw [xj_nat h1 (by omega)]
  exact ⟨fun q => q.2.2, fun q => ⟨rfl, by rw [← xj_nat h1 (by omega)]; exact (xj_in (n := 4) h1 h2 (by omega)).mpr trivial, q⟩⟩
theorem ao_2 (h : xv_Off f o O) (h1 : 0 ≤ z) (h2 : z < 6) : xk_AL f (o + 2) 0 (xj z) F ↔ F (xj (of_aw O z.toNat)) := by
  have e : f (o + 2) = _ := h 2 (by omega)
  unfold xk_AL
  rw [e]
  show (0 = 0 ∧ ¬ (xj z < 0 ∨ 6 ≤ (xj z).toNatClampNeg) ∧ F (xj (of_aw O (xj z).toNatClampNeg))) ↔ _
  rw [xj_nat h1 (by omega)]
  exact ⟨fun q => q.2.2, fun q => ⟨rfl, by rw [← xj_nat h1 (by omega)]; exact (xj_in (n := 6) h1 h2 (by omega)).mpr trivial, q⟩⟩
theorem ao_3 (h : xv_Off f o O) (h1 : 0 ≤ z) (h2 : z < 6) : xk_AL f (o + 3) 0 (xj z) F ↔ F (xj (of_af O z.toNat)) := by
  have e : f (o + 3) = _ := h 3 (by omega)
  unfold xk_AL
  rw [e]
  show (0 = 0 ∧ ¬ (xj z < 0 ∨ 6 ≤ (xj z).toNatClampNeg) ∧ F (xj (of_af O (xj z).toNatClampNeg))) ↔ _
  rw [xj_nat h1 (by omega)]
  exact ⟨fun q => q.2.2, fun q => ⟨rfl, by rw [← xj_nat h1 (by omega)]; exact (xj_in (n := 6) h1 h2 (by omega)).mpr trivial, q⟩⟩
theorem ao_4 (h : xv_Off f o O) (h1 : 0 ≤ z) (h2 : z < 6) : xk_AL f (o + 4) 0 (xj z) F ↔ F (xj (of_al O z.toNat)) := by
  have e : f (o + 4) = _ := h 4 (by omega)
  unfold xk_AL
  rw [e]
  show (0 = 0 ∧ ¬ (xj z < 0 ∨ 6 ≤ (xj z).toNatClampNeg) ∧ F (xj (of_al O (xj z).toNatClampNeg))) ↔ _
  rw [xj_nat h1 (by omega)]
  exact ⟨fun q => q.2.2, fun q => ⟨rfl, by rw [← xj_nat h1 (by omega)]; exact (xj_in (n := 6) h1 h2 (by omega)).mpr trivial, q⟩⟩
theorem ao_5 (h : xv_Off f o O) (h1 : 0 ≤ z) (h2 : z < 6) : xk_AL f (o + 5) 0 (xj z) F ↔ F (xj (of_ow O z.toNat)) := by
  have e : f (o + 5) = _ := h 5 (by omega)
  unfold xk_AL
  rw [e]
  show (0 = 0 ∧ ¬ (xj z < 0 ∨ 6 ≤ (xj z).toNatClampNeg) ∧ F (xj (of_ow O (xj z).toNatClampNeg))) ↔ _
  rw [xj_nat h1 (by omega)]
  exact ⟨fun q => q.2.2, fun q => ⟨rfl, by rw [← xj_nat h1 (by omega)]; exact (xj_in (n := 6) h1 h2 (by omega)).mpr trivial, q⟩⟩
theorem ao_6 (h : xv_Off f o O) (h1 : 0 ≤ z) (h2 : z < 6) : xk_AL f (o + 6) 0 (xj z) F ↔ F (xj (of_sk O z.toNat)) := by
  have e : f (o + 6) = _ := h 6 (by omega)
  unfold xk_AL
  rw [e]
  show (0 = 0 ∧ ¬ (xj z < 0 ∨ 6 ≤ (xj z).toNatClampNeg) ∧ F (xj (of_sk O (xj z).toNatClampNeg))) ↔ _
  rw [xj_nat h1 (by omega)]
  exact ⟨fun q => q.2.2, fun q => ⟨rfl, by rw [← xj_nat h1 (by omega)]; exact (xj_in (n := 6) h1 h2 (by omega)).mpr trivial, q⟩⟩
theorem ao_7 (h : xv_Off f o O) (h1 : 0 ≤ z) (h2 : z < 6) : xk_AL f (o + 7) 0 (xj z) F ↔ F (xj (of_du O z.toNat)) := by
  have e : f (o + 7) = _ := h 7 (by omega)
  unfold xk_AL
  rw [e]
  show (0 = 0 ∧ ¬ (xj z < 0 ∨ 6 ≤ (xj z).toNatClampNeg) ∧ F (xj (of_du O (xj z).toNatClampNeg))) ↔ _
  rw [xj_nat h1 (by omega)]
  exact ⟨fun q => q.2.2, fun q => ⟨rfl, by rw [← xj_nat h1 (by omega)]; exact (xj_in (n := 6) h1 h2 (by omega)).mpr trivial, q⟩⟩
theorem ao_8 (h : xv_Off f o O) (h1 : 0 ≤ z) (h2 : z < 6) : xk_AL f (o + 8) 0 (xj z) F ↔ F (xj (of_wo O z.toNat)) := by
  have e : f (o + 8) = _ := h 8 (by omega)
  unfold xk_AL
  rw [e]
  show (0 = 0 ∧ ¬ (xj z < 0 ∨ 6 ≤ (xj z).toNatClampNeg) ∧ F (xj (of_wo O (xj z).toNatClampNeg))) ↔ _
  rw [xj_nat h1 (by omega)]
  exact ⟨fun q => q.2.2, fun q => ⟨rfl, by rw [← xj_nat h1 (by omega)]; exact (xj_in (n := 6) h1 h2 (by omega)).mpr trivial, q⟩⟩
theorem ao_9 (h : xv_Off f o O) (h1 : 0 ≤ z) (h2 : z < 6) : xk_AL f (o + 9) 0 (xj z) F ↔ F (xj (of_re O z.toNat)) := by
  have e : f (o + 9) = _ := h 9 (by omega)
  unfold xk_AL
  rw [e]
  show (0 = 0 ∧ ¬ (xj z < 0 ∨ 6 ≤ (xj z).toNatClampNeg) ∧ F (xj (of_re O (xj z).toNatClampNeg))) ↔ _
  rw [xj_nat h1 (by omega)]
  exact ⟨fun q => q.2.2, fun q => ⟨rfl, by rw [← xj_nat h1 (by omega)]; exact (xj_in (n := 6) h1 h2 (by omega)).mpr trivial, q⟩⟩
end XG22
